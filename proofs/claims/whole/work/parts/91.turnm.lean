def frT (σ σ' : aw_S) : Prop := (∀ (a : Nat) (j : Int), ¬ (21 ≤ a ∧ a < 49) → a ≠ 85 → a ≠ 86 → ¬ (a = 84 ∧ j = 2) → σ'.1 a j = σ.1 a j) ∧ σ'.2 = σ.2
def frTM (σ σ' : aw_S) : Prop := (∀ (a : Nat) (j : Int), ¬ (182 ≤ a ∧ a ≤ 186) → a ≠ 208 → ¬ (a = 171 ∧ (j = 21 ∨ j = 22 ∨ j = 26)) → σ'.1 a j = σ.1 a j) ∧ σ'.2 = σ.2
set_option maxHeartbeats 4000000 in
set_option maxRecDepth 100000 in
theorem c_X9_turn {l : Launch} {σ : aw_S} {Post : Option Value → aw_S → Prop} {tw cs : Bool} (hR : σ.2.2 = RF tw cs) {t : Nat} (hct : isCity t) (hrt : RF tw cs 0 1 = some t) {m : mS} (hC : cityC σ t m) (wC : wfCity m) {N : Int} (hD : dayC σ 21 0 m) (wD : wfDay m 0 N) (hN : 0 ≤ N ∧ N ≤ 1000) (hk : ∀ (σ' : aw_S) (S : Nat), bst m S → dayC σ' 21 0 (mturn m S) → frT σ σ' → Post (some (.int (jI ((pop S : Nat) : Int)))) σ')  : AE l yX9_turn cX9_turn 2 (some .int) 6 143 0 0 SH SH σ [.ref 0] Post := by
  show AW l yX9_turn cX9_turn 2 (some .int) 6 143 0 0 SH Post SH 0 0 σ 0 [some (.ref 0), none] []
  refine a_ald0 eX9_turn_0 ?_
  refine a_getR 9 84 eX9_turn_1 fl_X9_69 rfl rfl sh_0 ((congrFun (congrFun hR _) _).trans rf_0_9) ?_
  refine a_ald0 eX9_turn_4 ?_
  refine a_getR 2 21 eX9_turn_5 fl_X9_26 rfl rfl sh_0 ((congrFun (congrFun hR _) _).trans rf_0_2) ?_
  refine a_cV1 eX9_turn_8 lk_X9_309 mV_X7_greatest sh_84 ⟨_, rfl, rfl⟩ mt_X7_greatest rfl rfl rfl rfl rfl (c_X7_greatest hR hD wC wD (fun σ1 S f1 hS6 hrg => ?_))
  dsimp only [Option.toList, List.cons_append, List.nil_append]
  have hbs := bst_rg wC wD hS6 hrg
  have hR : σ1.2.2 = RF tw cs := by rw [f1.2]; exact hR
  have hD1 : dayC σ1 21 0 m := dayC_R wD (fun a j q => f1.1 a j (by omega) (by omega) (by omega)) hD
  have hC1 : cityC σ1 t m := cityC_lo hct (fun a j q => f1.1 a j (by omega) (by omega) (by omega)) hC
  refine a_ist1 eX9_turn_11 (by decide) aw_n2r ?_
  refine a_ald0 eX9_turn_12 ?_
  refine a_getR 2 21 eX9_turn_13 fl_X9_26 rfl rfl sh_0 ((congrFun (congrFun hR _) _).trans rf_0_2) ?_
  refine a_ald0 eX9_turn_16 ?_
  refine a_getR 1 t eX9_turn_17 fl_X9_19 rfl rfl sh_0 ((congrFun (congrFun hR _) _).trans hrt) ?_
  refine a_ild1 eX9_turn_20 ?_
  refine a_cV2 eX9_turn_21 lk_X9_313 mV_X5_turnRing (sh_day (Or.inl rfl)) ⟨_, rfl, rfl⟩ mt_X5_turnRing rfl rfl rfl rfl rfl rfl (c_X5_turnRing hct hR hC1 wC hD1 wD hS6 hbs.2.1 hbs.2.2.1 (fun σ2 hD2 f2 => ?_))
  dsimp only [Option.toList, List.cons_append, List.nil_append]
  refine a_ild1 eX9_turn_24 ?_
  refine a_cS1 eX9_turn_25 lk_X9_316 mS_J6_bitCount_0f7a4 mt_J6_bitCount_0f7a4 rfl rfl rfl rfl rfl (c_J6_bitCount_0f7a4 hS6 ?_)
  dsimp only [Option.toList, List.cons_append, List.nil_append]
  refine a_iret eX9_turn_28 rfl rfl ⟨Nat.zero_le _, Nat.zero_le _⟩ ?_
  exact hk σ2 S hbs hD2 ⟨fun a j p q r z => (f2.1 a j p).trans (f1.1 a j q r z), f2.2.trans f1.2⟩

set_option maxHeartbeats 4000000 in
set_option maxRecDepth 100000 in
theorem lp_tmK {l : Launch} {σ : aw_S} {Post : Option Value → aw_S → Prop} {tw cs : Bool} (hR : σ.2.2 = RF tw cs) {m : mS} (hM : cityM σ m) (wC : wfCity m) {N : Int} (hM2 : dayM σ m) (wD : wfDay m 0 N) (hN : 0 ≤ N ∧ N ≤ 1000) {S : Nat} (hS6 : S < 65536) {r : Int} (hr : 0 ≤ r ∧ r < m 0 0) (hk : ∀ σ2 lx, fr1 183 σ σ2 → (∀ x q : Int, 0 ≤ x → x < 6 → 0 ≤ q → q < m 10 x → σ2.1 183 (18 * x + q) = if x < r + 1 then clr m S (m 0 4) (200 + x) q else m (200 + x) q) → AW l yX10_turn cX10_turn 5 (some .int) 3 69 0 0 SH Post SH 0 0 (σ2) 64 [some (.ref 171), some (.int (jI (S : Int))), some (.int (jI r)), lx, none] [])  : ∀ (n : Nat) (k : Int) (σ1 : aw_S), ((m 10 r - k).toNat ≤ n) → (0 ≤ k ∧ k ≤ m 10 r) → (fr1 183 σ σ1) → (∀ x q : Int, 0 ≤ x → x < 6 → 0 ≤ q → q < m 10 x → σ1.1 183 (18 * x + q) = if x < r ∨ (x = r ∧ q < k) then clr m S (m 0 4) (200 + x) q else m (200 + x) q) → AW l yX10_turn cX10_turn 5 (some .int) 3 69 0 0 SH Post SH 0 0 (σ1) 17 [some (.ref 171), some (.int (jI (S : Int))), some (.int (jI r)), some (.int (jI k)), none] [] := by
  intro n
  induction n with
  | zero =>
    intro k σ1 hm hkb f1 hce
    obtain ⟨c1, c2, -⟩ := id hM
    obtain ⟨d1, d2, d3, d4, d5, d6, d7⟩ := id hM2
    obtain ⟨v1, v2, v3, v4, v5, v6, v7, v8⟩ := wfDay_0 wD
    have h6 := wC.1
    simp only [Int.zero_add] at d4 d6 d7
    have hR : σ1.2.2 = RF tw cs := by rw [f1.2]; exact hR
    have c1 : σ1.1 171 14 = m 0 0 := (f1.1 _ _ (by omega)).trans c1
    have d2 : σ1.1 171 22 = m 0 4 := (f1.1 _ _ (by omega)).trans d2
    have d4r : σ1.1 184 r = m 10 r := (f1.1 _ _ (by omega)).trans (d4 r (by omega) (by omega)).1
    have w4r := (v4 r (by omega) (by omega)).1
    refine a_ild3 eX10_turn_17 ?_
    refine a_ald0 eX10_turn_18 ?_
    refine a_getR 25 184 eX10_turn_19 fl_X10_48 rfl rfl sh_171 ((congrFun (congrFun hR _) _).trans rf_171_25) ?_
    refine a_ild2 eX10_turn_22 ?_
    refine a_iald eX10_turn_23 sh_184 rfl (by omega) ?_
    refine a_eqtop (y0 := m 10 r) (by exact d4r) ?_
    refine a_icmp_ge 64 eX10_turn_24 (by decide) (by omega) (fun hT24 => ?_) (fun hF24 => ?_)
    · skip
      refine hk σ1 _ f1 (fun x q x1 x2 q1 q2 => ?_)
      have h9 := hce x q x1 x2 q1 q2
      by_cases y : x < r + 1
      · rw [if_pos y]
        rw [if_pos (by by_cases z : x = r; right; exact ⟨z, by rw [z] at q2; omega⟩; left; omega)] at h9
        exact h9
      · rw [if_neg y]
        rw [if_neg (by omega)] at h9
        exact h9
    · skip
      exfalso; omega
  | succ n ih =>
    intro k σ1 hm hkb f1 hce
    obtain ⟨c1, c2, -⟩ := id hM
    obtain ⟨d1, d2, d3, d4, d5, d6, d7⟩ := id hM2
    obtain ⟨v1, v2, v3, v4, v5, v6, v7, v8⟩ := wfDay_0 wD
    have h6 := wC.1
    simp only [Int.zero_add] at d4 d6 d7
    have hR : σ1.2.2 = RF tw cs := by rw [f1.2]; exact hR
    have c1 : σ1.1 171 14 = m 0 0 := (f1.1 _ _ (by omega)).trans c1
    have d2 : σ1.1 171 22 = m 0 4 := (f1.1 _ _ (by omega)).trans d2
    have d4r : σ1.1 184 r = m 10 r := (f1.1 _ _ (by omega)).trans (d4 r (by omega) (by omega)).1
    have w4r := (v4 r (by omega) (by omega)).1
    refine a_ild3 eX10_turn_17 ?_
    refine a_ald0 eX10_turn_18 ?_
    refine a_getR 25 184 eX10_turn_19 fl_X10_48 rfl rfl sh_171 ((congrFun (congrFun hR _) _).trans rf_171_25) ?_
    refine a_ild2 eX10_turn_22 ?_
    refine a_iald eX10_turn_23 sh_184 rfl (by omega) ?_
    refine a_eqtop (y0 := m 10 r) (by exact d4r) ?_
    refine a_icmp_ge 64 eX10_turn_24 (by decide) (by omega) (fun hT24 => ?_) (fun hF24 => ?_)
    · skip
      refine hk σ1 _ f1 (fun x q x1 x2 q1 q2 => ?_)
      have h9 := hce x q x1 x2 q1 q2
      by_cases y : x < r + 1
      · rw [if_pos y]
        rw [if_pos (by by_cases z : x = r; right; exact ⟨z, by rw [z] at q2; omega⟩; left; omega)] at h9
        exact h9
      · rw [if_neg y]
        rw [if_neg (by omega)] at h9
        exact h9
    · skip
      have h9 := hce r k (by omega) (by omega) (by omega) (by omega)
      rw [if_neg (by omega)] at h9
      have w6 := (v6 r k (by omega) (by omega) (by omega) (by omega)).1
      have htb := tb_b S (m (200 + r) k).toNat
      refine a_ild1 eX10_turn_27 ?_
      refine a_ald0 eX10_turn_28 ?_
      refine a_getR 24 183 eX10_turn_29 fl_X10_45 rfl rfl sh_171 ((congrFun (congrFun hR _) _).trans rf_171_24) ?_
      refine a_bipush eX10_turn_32 (by decide) ?_
      refine a_ild2 eX10_turn_34 ?_
      refine a_imul eX10_turn_35 ?_
      refine a_ild3 eX10_turn_36 ?_
      refine a_iadd eX10_turn_37 ?_
      refine a_iald eX10_turn_38 sh_183 rfl (by omega) ?_
      refine a_eqtop (y0 := (((m (200 + r) k).toNat : Nat) : Int)) (by rw [h9]; omega) ?_
      refine a_ishr ((S / 2 ^ (m (200 + r) k).toNat : Nat) : Int) eX10_turn_39 (jtb1 (by omega) (by omega)) ?_
      refine a_iconst eX10_turn_40 ?_
      refine a_iand ((tb S (m (200 + r) k).toNat : Nat) : Int) eX10_turn_41 (jtb2 S _) ?_
      refine a_iconst eX10_turn_42 ?_
      refine a_icmp_ne 58 eX10_turn_43 (by decide) (by omega) (fun hT43 => ?_) (fun hF43 => ?_)
      · skip
        refine a_iinc3 eX10_turn_58 (by decide) aw_n2i ?_
        refine a_goto 17 eX10_turn_61 (by decide) ?_
        refine ih (k + 1) σ1 (by omega) (by omega) f1 (fun x q x1 x2 q1 q2 => ?_)
        have h9 := hce x q x1 x2 q1 q2
        by_cases z : x = r ∧ q = k
        · rw [if_neg (by omega)] at h9
          rw [if_pos (by omega), h9, z.1, z.2]
          unfold clr
          rw [if_neg (fun w => by have := (tb_i _ _).mp w.2.2.2; omega)]
        · by_cases y : x < r ∨ (x = r ∧ q < k)
          · rw [if_pos y] at h9; rw [if_pos (by omega)]; exact h9
          · rw [if_neg y] at h9; rw [if_neg (by omega)]; exact h9
      · skip
        refine a_ald0 eX10_turn_46 ?_
        refine a_getR 24 183 eX10_turn_47 fl_X10_45 rfl rfl sh_171 ((congrFun (congrFun hR _) _).trans rf_171_24) ?_
        refine a_bipush eX10_turn_50 (by decide) ?_
        refine a_ild2 eX10_turn_52 ?_
        refine a_imul eX10_turn_53 ?_
        refine a_ild3 eX10_turn_54 ?_
        refine a_iadd eX10_turn_55 ?_
        refine a_iconst eX10_turn_56 ?_
        refine a_iast eX10_turn_57 sh_183 rfl (by omega) ?_
        refine a_iinc3 eX10_turn_58 (by decide) aw_n2i ?_
        refine a_goto 17 eX10_turn_61 (by decide) ?_
        refine ih (k + 1) _ (by omega) (by omega) ⟨fun b j q => by rw [rd_si_ne q]; exact f1.1 b j q, f1.2⟩ (fun x q x1 x2 q1 q2 => ?_)
        have h9 := hce x q x1 x2 q1 q2
        have h16 := (v4 x x1 x2).1
        by_cases z : x = r ∧ q = k
        · rw [if_pos (by omega), z.1, z.2, rd_si_eq]
          unfold clr
          rw [if_pos ⟨by omega, by rw [show 200 + r - 200 = r by omega]; omega, by omega, (tb_i _ _).mpr (by omega)⟩]
        · rw [rd_si_ni (by omega)]
          by_cases y : x < r ∨ (x = r ∧ q < k)
          · rw [if_pos y] at h9; rw [if_pos (by omega)]; exact h9
          · rw [if_neg y] at h9; rw [if_neg (by omega)]; exact h9

set_option maxHeartbeats 4000000 in
set_option maxRecDepth 100000 in
theorem lp_tmR {l : Launch} {σ : aw_S} {Post : Option Value → aw_S → Prop} {tw cs : Bool} (hR : σ.2.2 = RF tw cs) {m : mS} (hM : cityM σ m) (wC : wfCity m) {N : Int} (hM2 : dayM σ m) (wD : wfDay m 0 N) (hN : 0 ≤ N ∧ N ≤ 1000) {S : Nat} (hS6 : S < 65536) (hk : ∀ σ2 l2 l3, fr1 183 σ σ2 → dayM σ2 (clr m S (m 0 4)) → AW l yX10_turn cX10_turn 5 (some .int) 3 69 0 0 SH Post SH 0 0 (σ2) 70 [some (.ref 171), some (.int (jI (S : Int))), l2, l3, none] [])  : ∀ (n : Nat) (r : Int) (σ1 : aw_S) (lx : Option Value), ((m 0 0 - r).toNat ≤ n) → (0 ≤ r ∧ r ≤ m 0 0) → (fr1 183 σ σ1) → (∀ x q : Int, 0 ≤ x → x < 6 → 0 ≤ q → q < m 10 x → σ1.1 183 (18 * x + q) = if x < r then clr m S (m 0 4) (200 + x) q else m (200 + x) q) → AW l yX10_turn cX10_turn 5 (some .int) 3 69 0 0 SH Post SH 0 0 (σ1) 7 [some (.ref 171), some (.int (jI (S : Int))), some (.int (jI r)), lx, none] [] := by
  intro n
  induction n with
  | zero =>
    intro r σ1 lx hm hrb f1 hce
    have hR0 := hR
    obtain ⟨c1, c2, -⟩ := id hM
    obtain ⟨d1, d2, d3, d4, d5, d6, d7⟩ := id hM2
    obtain ⟨v1, v2, v3, v4, v5, v6, v7, v8⟩ := wfDay_0 wD
    have h6 := wC.1
    simp only [Int.zero_add] at d4 d6 d7
    have hR : σ1.2.2 = RF tw cs := by rw [f1.2]; exact hR
    have c1 : σ1.1 171 14 = m 0 0 := (f1.1 _ _ (by omega)).trans c1
    have d2 : σ1.1 171 22 = m 0 4 := (f1.1 _ _ (by omega)).trans d2
    refine a_ild2 eX10_turn_7 ?_
    refine a_ald0 eX10_turn_8 ?_
    refine a_getI 14 eX10_turn_9 fl_X10_235 rfl rfl sh_171 ?_
    refine a_eqtop (y0 := m 0 0) (by exact c1) ?_
    refine a_icmp_ge 70 eX10_turn_12 (by decide) (by omega) (fun hT12 => ?_) (fun hF12 => ?_)
    · skip
      refine hk σ1 _ _ f1 ?_
      have eo : ∀ a j : Int, ¬ (200 ≤ a ∧ a < 206) → clr m S (m 0 4) a j = m a j := fun a j h => clr_o h
      have e3 : ∀ b : Nat, b ≠ 183 → σ1.1 b = σ.1 b := fun b hb => funext (fun j => f1.1 b j hb)
      obtain ⟨b1, b2, b3, b4, b5, b6, b7⟩ := hM2
      unfold dayM
      rw [e3 171 (by omega), e3 182 (by omega), e3 184 (by omega), e3 185 (by omega), e3 186 (by omega)]
      refine ⟨by rw [eo _ _ (by omega)]; exact b1, by rw [eo _ _ (by omega)]; exact b2, by rw [eo _ _ (by omega)]; exact b3, fun x x1 x2 => by rw [eo _ _ (by omega), eo _ _ (by omega)]; exact b4 x x1 x2, fun e e1 e2 => ?_, fun x q x1 x2 q1 q2 => ?_, fun i w i1 i2 z1 z2 => ?_⟩
      · rw [eo _ _ (by omega)] at e2
        have hrow : clr m S (m 0 4) (0 + 100 + e) = m (0 + 100 + e) := funext (fun f => eo _ _ (by omega))
        rw [hrow]
        exact b5 e e1 e2
      · rw [eo _ _ (by omega), Int.zero_add] at q2
        rw [show (0 : Int) + 200 + x = 200 + x by omega]
        have h9 := hce x q x1 x2 q1 q2
        by_cases y : x < r
        · rw [if_pos y] at h9; exact h9
        · have h8 := (v4 x x1 x2).2.2.1 (by omega)
          omega
      · rw [eo _ _ (by omega)] at i2
        rw [eo _ _ (by omega)]
        exact b7 i w i1 i2 z1 z2
    · skip
      exfalso; omega
  | succ n ih =>
    intro r σ1 lx hm hrb f1 hce
    have hR0 := hR
    obtain ⟨c1, c2, -⟩ := id hM
    obtain ⟨d1, d2, d3, d4, d5, d6, d7⟩ := id hM2
    obtain ⟨v1, v2, v3, v4, v5, v6, v7, v8⟩ := wfDay_0 wD
    have h6 := wC.1
    simp only [Int.zero_add] at d4 d6 d7
    have hR : σ1.2.2 = RF tw cs := by rw [f1.2]; exact hR
    have c1 : σ1.1 171 14 = m 0 0 := (f1.1 _ _ (by omega)).trans c1
    have d2 : σ1.1 171 22 = m 0 4 := (f1.1 _ _ (by omega)).trans d2
    refine a_ild2 eX10_turn_7 ?_
    refine a_ald0 eX10_turn_8 ?_
    refine a_getI 14 eX10_turn_9 fl_X10_235 rfl rfl sh_171 ?_
    refine a_eqtop (y0 := m 0 0) (by exact c1) ?_
    refine a_icmp_ge 70 eX10_turn_12 (by decide) (by omega) (fun hT12 => ?_) (fun hF12 => ?_)
    · skip
      refine hk σ1 _ _ f1 ?_
      have eo : ∀ a j : Int, ¬ (200 ≤ a ∧ a < 206) → clr m S (m 0 4) a j = m a j := fun a j h => clr_o h
      have e3 : ∀ b : Nat, b ≠ 183 → σ1.1 b = σ.1 b := fun b hb => funext (fun j => f1.1 b j hb)
      obtain ⟨b1, b2, b3, b4, b5, b6, b7⟩ := hM2
      unfold dayM
      rw [e3 171 (by omega), e3 182 (by omega), e3 184 (by omega), e3 185 (by omega), e3 186 (by omega)]
      refine ⟨by rw [eo _ _ (by omega)]; exact b1, by rw [eo _ _ (by omega)]; exact b2, by rw [eo _ _ (by omega)]; exact b3, fun x x1 x2 => by rw [eo _ _ (by omega), eo _ _ (by omega)]; exact b4 x x1 x2, fun e e1 e2 => ?_, fun x q x1 x2 q1 q2 => ?_, fun i w i1 i2 z1 z2 => ?_⟩
      · rw [eo _ _ (by omega)] at e2
        have hrow : clr m S (m 0 4) (0 + 100 + e) = m (0 + 100 + e) := funext (fun f => eo _ _ (by omega))
        rw [hrow]
        exact b5 e e1 e2
      · rw [eo _ _ (by omega), Int.zero_add] at q2
        rw [show (0 : Int) + 200 + x = 200 + x by omega]
        have h9 := hce x q x1 x2 q1 q2
        by_cases y : x < r
        · rw [if_pos y] at h9; exact h9
        · have h8 := (v4 x x1 x2).2.2.1 (by omega)
          omega
      · rw [eo _ _ (by omega)] at i2
        rw [eo _ _ (by omega)]
        exact b7 i w i1 i2 z1 z2
    · skip
      refine a_iconst eX10_turn_15 ?_
      refine a_ist3 eX10_turn_16 (by decide) aw_n2i ?_
      refine lp_tmK hR0 hM wC hM2 wD hN hS6 (r := r) (by omega) (fun σ2 lx2 f2 hce2 => ?_) _ 0 σ1 (Nat.le_refl _) (by have := (v4 r (by omega) (by omega)).1; omega) f1 (fun x q x1 x2 q1 q2 => ?_)
      · skip
        refine a_iinc2 eX10_turn_64 (by decide) aw_n2i ?_
        refine a_goto 7 eX10_turn_67 (by decide) ?_
        exact ih (r + 1) σ2 _ (by omega) (by omega) f2 hce2
      · have h9 := hce x q x1 x2 q1 q2
        by_cases y : x < r
        · rw [if_pos y] at h9; rw [if_pos (by omega)]; exact h9
        · rw [if_neg y] at h9; rw [if_neg (by omega)]; exact h9

set_option maxHeartbeats 4000000 in
set_option maxRecDepth 100000 in
theorem lp_tmF {l : Launch} {σ : aw_S} {Post : Option Value → aw_S → Prop} {tw cs : Bool} (hR : σ.2.2 = RF tw cs) {m : mS} (wC : wfCity m) {N : Int} (wD : wfDay m 0 N) {S : Nat} (hp : isHp (rkm m) (wsm m) S (m 0 4).toNat) (hg : isRg (rkm m) (wsm m) S (m 0 4).toNat) {c : Nat} (hSc : S.testBit c = true) (hD1 : dayM σ (tks m S c)) (hk : AW l yX10_turn cX10_turn 5 (some .int) 3 69 0 0 SH Post SH 0 0 (σ) 124 [some (.ref 171), some (.int (jI (S : Int))), some (.int (jI (c : Int))), some (.int (jI (wsm m c))), some (.int (jI (ffr (tks m S c (200 + wsm m c)) (m 10 (wsm m c)).toNat)))] [])  : ∀ (n : Nat) (k : Int), ((ffr (tks m S c (200 + wsm m c)) (m 10 (wsm m c)).toNat - k).toNat ≤ n) → (0 ≤ k ∧ k ≤ ffr (tks m S c (200 + wsm m c)) (m 10 (wsm m c)).toNat) → AW l yX10_turn cX10_turn 5 (some .int) 3 69 0 0 SH Post SH 0 0 (σ) 102 [some (.ref 171), some (.int (jI (S : Int))), some (.int (jI (c : Int))), some (.int (jI (wsm m c))), some (.int (jI k))] [] := by
  intro n
  induction n with
  | zero =>
    intro k hm hkb
    obtain ⟨v1, v2, v3, v4, v5, v6, v7, v8⟩ := wfDay_0 wD
    have h6 := wC.1
    have hQ := Q_t wC wD hp hg c
    have e04 : tks m S c 0 4 = m 0 4 := hQ.1 0 4 (by omega) (fun ⟨d, d1, d2, _⟩ => by omega)
    have e05 : tks m S c 0 5 = m 0 5 := hQ.1 0 5 (by omega) (fun ⟨d, d1, d2, _⟩ => by omega)
    obtain ⟨⟨a1, a2⟩, a3, a4, a5, a6, a7, a8, a9, a10⟩ := Q_at wC wD hp hQ hSc
    have h10 := (v4 (wsm m c) (by omega) (by omega)).1
    have hrow := hD1.2.2.2.2.2.1 (wsm m c) k (by omega) (by omega) (by omega) (by rw [Int.zero_add, a5]; omega)
    rw [show (0 : Int) + 200 + wsm m c = 200 + wsm m c by omega] at hrow
    have hw3 := (wkq_Q wC wD hp hQ).2.2.1 (wsm m c) k (by omega) (by omega) (by omega) (by rw [a5]; omega)
    have hk9 : k = ffr (tks m S c (200 + wsm m c)) (m 10 (wsm m c)).toNat → tks m S c (200 + wsm m c) k = -1 := fun z => by rw [z]; exact a10
    refine a_ald0 eX10_turn_102 ?_
    refine a_getR 24 183 eX10_turn_103 fl_X10_45 rfl rfl sh_171 ((congrFun (congrFun hR _) _).trans rf_171_24) ?_
    refine a_bipush eX10_turn_106 (by decide) ?_
    refine a_ild3 eX10_turn_108 ?_
    refine a_imul eX10_turn_109 ?_
    refine a_ild4 eX10_turn_110 ?_
    refine a_iadd eX10_turn_112 ?_
    refine a_iald eX10_turn_113 sh_183 rfl (by omega) ?_
    refine a_eqtop (y0 := tks m S c (200 + wsm m c) k) (by exact hrow) ?_
    refine a_iconst eX10_turn_114 ?_
    refine a_icmp_eq 124 eX10_turn_115 (by decide) (by omega) (fun hT115 => ?_) (fun hF115 => ?_)
    · skip
      have hff := ffr_f (tks m S c (200 + wsm m c)) (m 10 (wsm m c)).toNat
      rw [show k = ffr (tks m S c (200 + wsm m c)) (m 10 (wsm m c)).toNat by
        rcases hff with ⟨z1, z2⟩ | ⟨z1, z2, z3, z4⟩
        · omega
        · rcases Int.lt_or_le k (ffr (tks m S c (200 + wsm m c)) (m 10 (wsm m c)).toNat) with z | z
          · exact absurd (by omega) (z4 k (by omega) z)
          · omega]
      exact hk
    · skip
      exfalso; omega
  | succ n ih =>
    intro k hm hkb
    obtain ⟨v1, v2, v3, v4, v5, v6, v7, v8⟩ := wfDay_0 wD
    have h6 := wC.1
    have hQ := Q_t wC wD hp hg c
    have e04 : tks m S c 0 4 = m 0 4 := hQ.1 0 4 (by omega) (fun ⟨d, d1, d2, _⟩ => by omega)
    have e05 : tks m S c 0 5 = m 0 5 := hQ.1 0 5 (by omega) (fun ⟨d, d1, d2, _⟩ => by omega)
    obtain ⟨⟨a1, a2⟩, a3, a4, a5, a6, a7, a8, a9, a10⟩ := Q_at wC wD hp hQ hSc
    have h10 := (v4 (wsm m c) (by omega) (by omega)).1
    have hrow := hD1.2.2.2.2.2.1 (wsm m c) k (by omega) (by omega) (by omega) (by rw [Int.zero_add, a5]; omega)
    rw [show (0 : Int) + 200 + wsm m c = 200 + wsm m c by omega] at hrow
    have hw3 := (wkq_Q wC wD hp hQ).2.2.1 (wsm m c) k (by omega) (by omega) (by omega) (by rw [a5]; omega)
    have hk9 : k = ffr (tks m S c (200 + wsm m c)) (m 10 (wsm m c)).toNat → tks m S c (200 + wsm m c) k = -1 := fun z => by rw [z]; exact a10
    refine a_ald0 eX10_turn_102 ?_
    refine a_getR 24 183 eX10_turn_103 fl_X10_45 rfl rfl sh_171 ((congrFun (congrFun hR _) _).trans rf_171_24) ?_
    refine a_bipush eX10_turn_106 (by decide) ?_
    refine a_ild3 eX10_turn_108 ?_
    refine a_imul eX10_turn_109 ?_
    refine a_ild4 eX10_turn_110 ?_
    refine a_iadd eX10_turn_112 ?_
    refine a_iald eX10_turn_113 sh_183 rfl (by omega) ?_
    refine a_eqtop (y0 := tks m S c (200 + wsm m c) k) (by exact hrow) ?_
    refine a_iconst eX10_turn_114 ?_
    refine a_icmp_eq 124 eX10_turn_115 (by decide) (by omega) (fun hT115 => ?_) (fun hF115 => ?_)
    · skip
      have hff := ffr_f (tks m S c (200 + wsm m c)) (m 10 (wsm m c)).toNat
      rw [show k = ffr (tks m S c (200 + wsm m c)) (m 10 (wsm m c)).toNat by
        rcases hff with ⟨z1, z2⟩ | ⟨z1, z2, z3, z4⟩
        · omega
        · rcases Int.lt_or_le k (ffr (tks m S c (200 + wsm m c)) (m 10 (wsm m c)).toNat) with z | z
          · exact absurd (by omega) (z4 k (by omega) z)
          · omega]
      exact hk
    · skip
      refine a_iinc4 eX10_turn_118 (by decide) aw_n2i ?_
      refine a_goto 102 eX10_turn_121 (by decide) ?_
      have hne : k ≠ ffr (tks m S c (200 + wsm m c)) (m 10 (wsm m c)).toNat := fun z => by rw [z, a10] at hF115; omega
      exact ih (k + 1) (by omega) (by omega)

set_option maxHeartbeats 4000000 in
set_option maxRecDepth 100000 in
theorem lp_tmP {l : Launch} {σ : aw_S} {Post : Option Value → aw_S → Prop} {tw cs : Bool} (hR : σ.2.2 = RF tw cs) {m : mS} (hM : cityM σ m) (wC : wfCity m) {N : Int} (wD : wfDay m 0 N) (hN : 0 ≤ N ∧ N ≤ 1000) {S : Nat} (hS6 : S < 65536) (hp : isHp (rkm m) (wsm m) S (m 0 4).toNat) (hg : isRg (rkm m) (wsm m) S (m 0 4).toNat) (hk : ∀ σ', dayM σ' (mturn m S) → frM σ σ' → Post (some (.int (jI ((pop S : Nat) : Int)))) σ')  : ∀ (n : Nat) (c : Nat) (σ1 : aw_S) (lx : Option Value) (ly : Option Value), ((m 0 4 - (c : Int)).toNat ≤ n) → ((c : Int) ≤ m 0 4) → (frM σ σ1) → (dayM σ1 (tks m S c)) → AW l yX10_turn cX10_turn 5 (some .int) 3 69 0 0 SH Post SH 0 0 (σ1) 72 [some (.ref 171), some (.int (jI (S : Int))), some (.int (jI (c : Int))), lx, ly] [] := by
  intro n
  induction n with
  | zero =>
    intro c σ1 lx ly hm hc f1 hD1
    obtain ⟨v1, v2, v3, v4, v5, v6, v7, v8⟩ := wfDay_0 wD
    have h6 := wC.1
    have hQ := Q_t wC wD hp hg c
    have e04 : tks m S c 0 4 = m 0 4 := hQ.1 0 4 (by omega) (fun ⟨d, d1, d2, _⟩ => by omega)
    have e05 : tks m S c 0 5 = m 0 5 := hQ.1 0 5 (by omega) (fun ⟨d, d1, d2, _⟩ => by omega)
    have hR : σ1.2.2 = RF tw cs := frM_R f1 hR
    have d2 : σ1.1 171 22 = m 0 4 := hD1.2.1.trans e04
    have htb := tb_b S c
    refine a_ild2 eX10_turn_72 ?_
    refine a_ald0 eX10_turn_73 ?_
    refine a_getI 22 eX10_turn_74 fl_X10_246 rfl rfl sh_171 ?_
    refine a_eqtop (y0 := m 0 4) (by exact d2) ?_
    refine a_icmp_ge 166 eX10_turn_77 (by decide) (by omega) (fun hT77 => ?_) (fun hF77 => ?_)
    · skip
      refine a_ild1 eX10_turn_166 ?_
      refine a_cS1 eX10_turn_167 lk_X10_362 mS_X10_ones mt_X10_ones rfl rfl rfl rfl rfl (c_X10_ones hS6 ?_)
      dsimp only [Option.toList, List.cons_append, List.nil_append]
      refine a_iret eX10_turn_170 rfl rfl ⟨Nat.zero_le _, Nat.zero_le _⟩ ?_
      have e9 : mturn m S = tks m S c := by unfold mturn; rw [show (m 0 4).toNat = c by omega]
      exact hk σ1 (by rw [e9]; exact hD1) f1
    · skip
      exfalso; omega
  | succ n ih =>
    intro c σ1 lx ly hm hc f1 hD1
    obtain ⟨v1, v2, v3, v4, v5, v6, v7, v8⟩ := wfDay_0 wD
    have h6 := wC.1
    have hQ := Q_t wC wD hp hg c
    have e04 : tks m S c 0 4 = m 0 4 := hQ.1 0 4 (by omega) (fun ⟨d, d1, d2, _⟩ => by omega)
    have e05 : tks m S c 0 5 = m 0 5 := hQ.1 0 5 (by omega) (fun ⟨d, d1, d2, _⟩ => by omega)
    have hR : σ1.2.2 = RF tw cs := frM_R f1 hR
    have d2 : σ1.1 171 22 = m 0 4 := hD1.2.1.trans e04
    have htb := tb_b S c
    refine a_ild2 eX10_turn_72 ?_
    refine a_ald0 eX10_turn_73 ?_
    refine a_getI 22 eX10_turn_74 fl_X10_246 rfl rfl sh_171 ?_
    refine a_eqtop (y0 := m 0 4) (by exact d2) ?_
    refine a_icmp_ge 166 eX10_turn_77 (by decide) (by omega) (fun hT77 => ?_) (fun hF77 => ?_)
    · skip
      refine a_ild1 eX10_turn_166 ?_
      refine a_cS1 eX10_turn_167 lk_X10_362 mS_X10_ones mt_X10_ones rfl rfl rfl rfl rfl (c_X10_ones hS6 ?_)
      dsimp only [Option.toList, List.cons_append, List.nil_append]
      refine a_iret eX10_turn_170 rfl rfl ⟨Nat.zero_le _, Nat.zero_le _⟩ ?_
      have e9 : mturn m S = tks m S c := by unfold mturn; rw [show (m 0 4).toNat = c by omega]
      exact hk σ1 (by rw [e9]; exact hD1) f1
    · skip
      refine a_ild1 eX10_turn_80 ?_
      refine a_ild2 eX10_turn_81 ?_
      refine a_ishr ((S / 2 ^ c : Nat) : Int) eX10_turn_82 (jtb1 (by omega) (by omega)) ?_
      refine a_iconst eX10_turn_83 ?_
      refine a_iand ((tb S c : Nat) : Int) eX10_turn_84 (jtb2 S c) ?_
      refine a_if_ne 91 eX10_turn_85 (by decide) (by omega) (fun hT85 => ?_) (fun hF85 => ?_)
      · skip
        have hSc : S.testBit c = true := (tb_i S c).mpr (by omega)
        obtain ⟨⟨a1, a2⟩, a3, a4, a5, a6, a7, a8, a9, a10⟩ := Q_at wC wD hp hQ hSc
        have h10 := (v4 (wsm m c) (by omega) (by omega)).1
        have kc := hD1.2.2.2.2.1 (c : Int) (by omega) (by omega)
        unfold cabM at kc
        rw [show (0 : Int) + 100 + (c : Int) = 100 + (c : Int) by omega] at kc
        have k8 : σ1.1 182 (11 * (c : Int) + 8) = wsm m c := kc.2.2.2.2.2.2.2.2.2.1.trans (a4 9)
        refine a_ald0 eX10_turn_91 ?_
        refine a_ild2 eX10_turn_92 ?_
        refine a_bipush eX10_turn_93 (by decide) ?_
        refine a_cV2 eX10_turn_95 lk_X10_276 mV_X10_of0 sh_171 ⟨_, rfl, rfl⟩ mt_X10_of0 rfl rfl rfl rfl rfl rfl (c_X10_of0 hR (by omega) ?_)
        dsimp only [Option.toList, List.cons_append, List.nil_append]
        refine a_eqtop (y0 := wsm m c) (by exact k8) ?_
        refine a_ist3 eX10_turn_98 (by decide) aw_n2i ?_
        refine a_iconst eX10_turn_99 ?_
        refine a_ist4 eX10_turn_100 (by decide) aw_n2i ?_
        refine lp_tmF (σ := σ1) hR wC wD hp hg hSc hD1 ?_ _ 0 (Nat.le_refl _) (by omega)
        refine a_ald0 eX10_turn_124 ?_
        refine a_getR 24 183 eX10_turn_125 fl_X10_45 rfl rfl sh_171 ((congrFun (congrFun hR _) _).trans rf_171_24) ?_
        refine a_bipush eX10_turn_128 (by decide) ?_
        refine a_ild3 eX10_turn_130 ?_
        refine a_imul eX10_turn_131 ?_
        refine a_ild4 eX10_turn_132 ?_
        refine a_iadd eX10_turn_134 ?_
        refine a_ild2 eX10_turn_135 ?_
        refine a_iast eX10_turn_136 sh_183 rfl (by omega) ?_
        refine a_ald0 eX10_turn_137 ?_
        refine a_ild2 eX10_turn_138 ?_
        refine a_iconst eX10_turn_139 ?_
        refine a_ild3 eX10_turn_140 ?_
        refine a_cV3 eX10_turn_141 lk_X10_269 mV_X10_sets sh_171 ⟨_, rfl, rfl⟩ mt_X10_sets rfl rfl rfl rfl rfl rfl rfl (c_X10_sets (by exact hR) (by omega) ?_)
        dsimp only [Option.toList, List.cons_append, List.nil_append]
        refine a_ald0 eX10_turn_144 ?_
        refine a_ild2 eX10_turn_145 ?_
        refine a_bipush eX10_turn_146 (by decide) ?_
        refine a_iconst eX10_turn_148 ?_
        refine a_cV3 eX10_turn_149 lk_X10_269 mV_X10_sets sh_171 ⟨_, rfl, rfl⟩ mt_X10_sets rfl rfl rfl rfl rfl rfl rfl (c_X10_sets (by exact hR) (by omega) ?_)
        dsimp only [Option.toList, List.cons_append, List.nil_append]
        refine a_ald0 eX10_turn_152 ?_
        refine a_ild2 eX10_turn_153 ?_
        refine a_bipush eX10_turn_154 (by decide) ?_
        refine a_iconst eX10_turn_156 ?_
        refine a_cV3 eX10_turn_157 lk_X10_269 mV_X10_sets sh_171 ⟨_, rfl, rfl⟩ mt_X10_sets rfl rfl rfl rfl rfl rfl rfl (c_X10_sets (by exact hR) (by omega) ?_)
        dsimp only [Option.toList, List.cons_append, List.nil_append]
        refine a_iinc2 eX10_turn_160 (by decide) aw_n2i ?_
        refine a_goto 72 eX10_turn_163 (by decide) ?_
        rw [show (c : Int) + 1 = (((c + 1 : Nat) : Nat) : Int) by omega]
        have e9 : tks m S (c + 1) = tk (tks m S c) (c : Int) := if_pos hSc
        refine ih (c + 1) _ _ _ (by omega) (by omega) (frM_tr f1 ⟨fun b j q1 q2 => ?_, rfl⟩) (by rw [e9]; exact dayM_tk hD1 (by omega) (by omega) (fun x x1 x2 => by rw [a5]; exact (v4 x x1 x2).1.2) (by omega) (a4 9) ((a4 1).trans a2) (by omega) (by rw [a5]) (by omega))
        simp only [rd_si]
        (repeat rw [if_neg (by omega)])
      · skip
        refine a_goto 160 eX10_turn_88 (by decide) ?_
        refine a_iinc2 eX10_turn_160 (by decide) aw_n2i ?_
        refine a_goto 72 eX10_turn_163 (by decide) ?_
        rw [show (c : Int) + 1 = (((c + 1 : Nat) : Nat) : Int) by omega]
        have e9 : tks m S (c + 1) = tks m S c := if_neg (fun z => by have := (tb_i S c).mp z; omega)
        exact ih (c + 1) σ1 _ _ (by omega) (by omega) f1 (by rw [e9]; exact hD1)

theorem cityM_183 {σ σ' : aw_S} {m : mS} (h : fr1 183 σ σ') (hM : cityM σ m) : cityM σ' m := by
  unfold cityM at hM ⊢
  simp only [fun j => h.1 178 j (by omega), fun j => h.1 179 j (by omega), fun j => h.1 180 j (by omega), fun j => h.1 181 j (by omega), h.1 171 14 (by omega), h.1 171 16 (by omega), h.1 171 20 (by omega)]
  exact hM
set_option maxHeartbeats 4000000 in
set_option maxRecDepth 100000 in
theorem c_X10_turn {l : Launch} {σ : aw_S} {Post : Option Value → aw_S → Prop} {tw cs : Bool} (hR : σ.2.2 = RF tw cs) {m : mS} (hM : cityM σ m) (wC : wfCity m) {N : Int} (hM2 : dayM σ m) (wD : wfDay m 0 N) (hN : 0 ≤ N ∧ N ≤ 1000) (hk : ∀ (σ' : aw_S) (S : Nat), bst m S → dayM σ' (mturn m S) → frTM σ σ' → Post (some (.int (jI ((pop S : Nat) : Int)))) σ')  : AE l yX10_turn cX10_turn 5 (some .int) 3 69 0 0 SH SH σ [.ref 171] Post := by
  show AW l yX10_turn cX10_turn 5 (some .int) 3 69 0 0 SH Post SH 0 0 σ 0 [some (.ref 171), none, none, none, none] []
  have v2 := (wfDay_0 wD).2.1
  have h6 := wC.1
  refine a_ald0 eX10_turn_0 ?_
  refine a_cV0 eX10_turn_1 lk_X10_374 mV_X10_rings sh_171 ⟨_, rfl, rfl⟩ mt_X10_rings rfl rfl rfl rfl (c_X10_rings hR hM wC hM2 wD hN (fun σ1 S f1 hbs => ?_))
  dsimp only [Option.toList, List.cons_append, List.nil_append]
  refine a_ist1 eX10_turn_4 (by decide) aw_n2r ?_
  refine a_iconst eX10_turn_5 ?_
  refine a_ist2 eX10_turn_6 (by decide) aw_n2i ?_
  have hR : σ1.2.2 = RF tw cs := by rw [f1.2]; exact hR
  have hM1 := cityM_1 (by decide) f1 hM
  have hM21 := dayM_1 (by decide) f1 hM2
  refine lp_tmR (σ := σ1) hR hM1 wC hM21 wD hN hbs.1 (fun σ2 l2 l3 f2 hD2 => ?_) _ 0 σ1 _ (Nat.le_refl _) (by omega) ⟨fun _ _ _ => rfl, rfl⟩ (fun x q x1 x2 q1 q2 => by rw [if_neg (by omega)]; have h9 := hM21.2.2.2.2.2.1 x q x1 x2 q1 (by rw [Int.zero_add]; exact q2); rw [show (0 : Int) + 200 + x = 200 + x by omega] at h9; exact h9)
  refine a_iconst eX10_turn_70 ?_
  refine a_ist2 eX10_turn_71 (by decide) aw_n2i ?_
  refine lp_tmP (σ := σ2) (by rw [f2.2]; exact hR) (cityM_183 f2 hM1) wC wD hN hbs.1 hbs.2.1 hbs.2.2.1 (fun σ3 hD3 f3 => hk σ3 S hbs hD3 ⟨fun a j q1 q2 q3 => (f3.1 a j q1 q3).trans ((f2.1 a j (by omega)).trans (f1.1 a j q2)), f3.2.trans (f2.2.trans f1.2)⟩) _ 0 σ2 _ _ (Nat.le_refl _) (by omega) (frM_rf σ2) hD2
