/-- the class holds the chances -/
def chC (σ : aw_S) (m : mS) : Prop := ∀ r : Int, 0 ≤ r → r < 6 → σ.1 52 r = m 13 r ∧ (m 13 r ≠ 0 → σ.1 53 r = m 14 r ∧ σ.1 54 r = m 15 r)
def tbl (σ : aw_S) (m : mS) (ah : Int → Int) (L : Nat) : Prop := ∀ (k : Nat) (r n : Int), k < L → 0 ≤ r → r < m 0 0 → 0 ≤ n → n < 10 → σ.1 56 ((k : Int) * 60 + r * 10 + n) = wW m ah k r n
def ahOK (σ : aw_S) (ah : Int → Int) : Prop := ∀ r : Int, 0 ≤ r → r < 6 → σ.1 55 r = ah r ∧ 0 ≤ ah r ∧ ah r ≤ 9
def ocm (m : mS) (ah : Int → Int) (p : Int) (l : Nat) (r : Int) : Int := if r = -1 then 0 else if wfrom m ah (wW m ah) p l r < 0 then 0 else wfrom m ah (wW m ah) p l r
theorem cityC_lo {σ σ' : aw_S} {t : Nat} {m : mS} (ht : isCity t) (h : ∀ (a : Nat) (j : Int), a < 21 → σ'.1 a j = σ.1 a j) (hC : cityC σ t m) : cityC σ' t m := by
  have ht2 : t ≤ 13 := by rcases ht with rfl | rfl <;> omega
  unfold cityC at hC ⊢
  simp only [fun j => h t j (by omega), fun j => h (t + 1) j (by omega), fun j => h (t + 2) j (by omega), fun j => h (t + 3) j (by omega), fun j => h (t + 4) j (by omega), fun j => h (t + 5) j (by omega), fun j => h (t + 6) j (by omega), fun j => h (t + 7) j (by omega)]
  exact hC
theorem mixb {q b s X : Int} (hq : 0 ≤ q ∧ q ≤ 16) (hb : 0 ≤ b ∧ b ≤ X) (hs : 0 ≤ s ∧ s ≤ X) : 0 ≤ q * b + (16 - q) * s ∧ q * b + (16 - q) * s ≤ 16 * X := by
  have a1 : 0 ≤ q * b := Int.mul_nonneg (by omega) (by omega)
  have a2 : 0 ≤ (16 - q) * s := Int.mul_nonneg (by omega) (by omega)
  have a3 : q * b ≤ q * X := Int.mul_le_mul_of_nonneg_left (by omega) (by omega)
  have a4 : (16 - q) * s ≤ (16 - q) * X := Int.mul_le_mul_of_nonneg_left (by omega) (by omega)
  have a5 : q * X + (16 - q) * X = 16 * X := by rw [← Int.add_mul]; congr 1; omega
  omega
theorem ocm_who {m : mS} {ah : Int → Int} {p : Int} {l : Nat} (wC : wfCity m) (h0 : 0 < m 0 0) (wH : wfCh m) : ocm m ah p l (gwho m ah (wW m ah) p l (m 0 0).toNat) = gval m ah (wW m ah) p l := by
  have h6 := wC.1
  have h := (gbest_b wC h0 wH (ah := ah) (p := p) (l := l) (m 0 0).toNat (by omega)).2
  unfold ocm gval
  rcases h with ⟨a1, a2⟩ | ⟨a1, a2, a3, a4⟩
  · rw [if_pos a1, if_pos (by omega)]
  · rw [if_neg (by omega), ← a4]
set_option maxHeartbeats 4000000 in
set_option maxRecDepth 100000 in
theorem c_X8_at {l : Launch} {σ : aw_S} {Post : Option Value → aw_S → Prop} {tw cs : Bool} (hR : σ.2.2 = RF tw cs) {r n1 k : Int} (hr : (0 ≤ r ∧ r < 6) ∧ (0 ≤ n1 ∧ n1 < 10) ∧ (0 ≤ k ∧ k ≤ 120)) (hk : Post (some (.int (jI (σ.1 56 (k * 60 + r * 10 + n1))))) σ) : AE l yX8_at cX8_at 4 (some .int) 0 0 0 0 SH SH σ [.ref 51, .int (jI r), .int (jI n1), .int (jI k)] Post := by
  show AW l yX8_at cX8_at 4 (some .int) 0 0 0 0 SH Post SH 0 0 σ 0 [some (.ref 51), some (.int (jI r)), some (.int (jI n1)), some (.int (jI k))] []
  refine a_ald0 eX8_at_0 ?_
  refine a_getR 4 56 eX8_at_1 fl_X8_24 rfl rfl sh_51 ((congrFun (congrFun hR _) _).trans rf_51_4) ?_
  refine a_ild3 eX8_at_4 ?_
  refine a_bipush eX8_at_5 (by decide) ?_
  refine a_imul eX8_at_7 ?_
  refine a_ild1 eX8_at_8 ?_
  refine a_bipush eX8_at_9 (by decide) ?_
  refine a_imul eX8_at_11 ?_
  refine a_iadd eX8_at_12 ?_
  refine a_ild2 eX8_at_13 ?_
  refine a_iadd eX8_at_14 ?_
  refine a_iald eX8_at_15 sh_56 rfl (by omega) ?_
  refine a_iret eX8_at_16 rfl rfl ⟨Nat.zero_le _, Nat.zero_le _⟩ ?_
  exact hk

set_option maxHeartbeats 4000000 in
set_option maxRecDepth 100000 in
theorem lp_best {l : Launch} {σ : aw_S} {Post : Option Value → aw_S → Prop} {a : Nat} (ha : isCity a) {tw cs : Bool} (hR : σ.2.2 = RF tw cs) {m : mS} (hC : cityC σ a m) (wC : wfCity m) (h0 : 0 < m 0 0) (wH : wfCh m) {ah : Int → Int} (hah : ahOK σ ah) {p : Int} {l1 : Nat} (hp : 0 ≤ p ∧ p ≤ 99) (hl : l1 ≤ 120) (hT : tbl σ m ah (l1 + 1)) (hk : Post (some (.int (jI (gwho m ah (wW m ah) p l1 (m 0 0).toNat)))) σ)  : ∀ (n : Nat) (k : Nat) (lx : Option Value), ((m 0 0 - (k : Int)).toNat ≤ n) → ((k : Int) ≤ m 0 0) → AW l yX8_bestRank cX8_bestRank 8 (some .int) 2 43 0 0 SH Post SH 0 0 (σ) 9 [some (.ref 51), some (.ref a), some (.int (jI p)), some (.int (jI (l1 : Int))), some (.int (jI (gwho m ah (wW m ah) p l1 k))), some (.int (jI (gbest m ah (wW m ah) p l1 k))), some (.int (jI (k : Int))), lx] [] := by
  intro n
  induction n with
  | zero =>
    intro k lx hm hkn
    obtain ⟨c1, c2, c3, c4, c5, c6, c7, c8⟩ := id hC
    obtain ⟨y1, y2, y3, y4, y5, y6, y7, y8⟩ := id wC
    have ha2 : a ≤ 13 := by rcases ha with rfl | rfl <;> omega
    have hgb := (gbest_b wC h0 wH (ah := ah) (p := p) (l := l1) k hkn).1
    refine a_ild6 eX8_bestRank_9 ?_
    refine a_ald1 eX8_bestRank_11 ?_
    refine a_getI 0 eX8_bestRank_12 fl_X8_48 rfl rfl (sh_city ha) ?_
    refine a_eqtop (y0 := m 0 0) (by exact c1) ?_
    refine a_icmp_ge 81 eX8_bestRank_15 (by decide) (by omega) (fun hT15 => ?_) (fun hF15 => ?_)
    · skip
      refine a_ild4 eX8_bestRank_81 ?_
      refine a_iret eX8_bestRank_83 rfl rfl ⟨Nat.zero_le _, Nat.zero_le _⟩ ?_
      rw [show (m 0 0).toNat = k by omega] at hk
      exact hk
    · skip
      exfalso; omega
  | succ n ih =>
    intro k lx hm hkn
    obtain ⟨c1, c2, c3, c4, c5, c6, c7, c8⟩ := id hC
    obtain ⟨y1, y2, y3, y4, y5, y6, y7, y8⟩ := id wC
    have ha2 : a ≤ 13 := by rcases ha with rfl | rfl <;> omega
    have hgb := (gbest_b wC h0 wH (ah := ah) (p := p) (l := l1) k hkn).1
    refine a_ild6 eX8_bestRank_9 ?_
    refine a_ald1 eX8_bestRank_11 ?_
    refine a_getI 0 eX8_bestRank_12 fl_X8_48 rfl rfl (sh_city ha) ?_
    refine a_eqtop (y0 := m 0 0) (by exact c1) ?_
    refine a_icmp_ge 81 eX8_bestRank_15 (by decide) (by omega) (fun hT15 => ?_) (fun hF15 => ?_)
    · skip
      refine a_ild4 eX8_bestRank_81 ?_
      refine a_iret eX8_bestRank_83 rfl rfl ⟨Nat.zero_le _, Nat.zero_le _⟩ ?_
      rw [show (m 0 0).toNat = k by omega] at hk
      exact hk
    · skip
      have y2k := y2 (k : Int) (by omega) (by omega)
      have c2k := c2 (k : Int) (by omega) (by omega)
      have hab := aw_ap_b (a := m 1 (k : Int)) (b := p) (by omega) (by omega)
      have hak := hah (k : Int) (by omega) (by omega)
      have hwb := wfrom_b (ah := ah) (p := p) (l := l1) (r := (k : Int)) wC h0 wH (by omega)
      refine a_ild3 eX8_bestRank_18 ?_
      refine a_ald1 eX8_bestRank_19 ?_
      refine a_ild6 eX8_bestRank_20 ?_
      refine a_ild2 eX8_bestRank_22 ?_
      refine a_cV2 eX8_bestRank_23 lk_X8_80 mV_X3_minutesTo (sh_city ha) ⟨_, rfl, rfl⟩ mt_X3_minutesTo rfl rfl rfl rfl rfl rfl (c_X3_minutesTo ha hR (by omega) hp (by omega) ?_)
      dsimp only [Option.toList, List.cons_append, List.nil_append]
      refine a_eqtop (y0 := aw_ap (m 1 (k : Int)) p) (by rw [c2k.1]) ?_
      refine a_isub eX8_bestRank_26 ?_
      refine a_ist7 eX8_bestRank_27 (by decide) aw_n2i ?_
      refine a_ild7 eX8_bestRank_29 ?_
      refine a_if_lt 75 eX8_bestRank_31 (by decide) (by omega) (fun hT31 => ?_) (fun hF31 => ?_)
      · skip
        refine a_iinc6 eX8_bestRank_75 (by decide) aw_n2i ?_
        refine a_goto 9 eX8_bestRank_78 (by decide) ?_
        have hwn : wfrom m ah (wW m ah) p l1 (k : Int) ≤ gbest m ah (wW m ah) p l1 k := by unfold wfrom; rw [if_pos (by omega)]; omega
        have e1 : gwho m ah (wW m ah) p l1 (k + 1) = gwho m ah (wW m ah) p l1 k := if_pos hwn
        have e2 : gbest m ah (wW m ah) p l1 (k + 1) = gbest m ah (wW m ah) p l1 k := if_pos hwn
        rw [show (k : Int) + 1 = (((k + 1 : Nat) : Nat) : Int) by omega, ← e1, ← e2]
        exact ih (k + 1) _ (by omega) (by omega)
      · skip
        have hv := hT (l1 - (aw_ap (m 1 (k : Int)) p).toNat) (k : Int) (ah (k : Int)) (by omega) (by omega) (by omega) (by omega) (by omega)
        rw [show ((l1 - (aw_ap (m 1 (k : Int)) p).toNat : Nat) : Int) = (l1 : Int) - aw_ap (m 1 (k : Int)) p by omega] at hv
        have hwe : wfrom m ah (wW m ah) p l1 (k : Int) = wW m ah (l1 - (aw_ap (m 1 (k : Int)) p).toNat) (k : Int) (ah (k : Int)) := if_neg (by omega)
        refine a_ald0 eX8_bestRank_34 ?_
        refine a_ild6 eX8_bestRank_35 ?_
        refine a_ald0 eX8_bestRank_37 ?_
        refine a_getR 3 55 eX8_bestRank_38 fl_X8_21 rfl rfl sh_51 ((congrFun (congrFun hR _) _).trans rf_51_3) ?_
        refine a_ild6 eX8_bestRank_41 ?_
        refine a_iald eX8_bestRank_43 sh_55 rfl (by omega) ?_
        refine a_eqtop (y0 := ah (k : Int)) (by exact hak.1) ?_
        refine a_ild7 eX8_bestRank_44 ?_
        refine a_cV3 eX8_bestRank_46 lk_X8_61 mV_X8_at sh_51 ⟨_, rfl, rfl⟩ mt_X8_at rfl rfl rfl rfl rfl rfl rfl (c_X8_at hR (by omega) ?_)
        dsimp only [Option.toList, List.cons_append, List.nil_append]
        refine a_eqtop (y0 := wfrom m ah (wW m ah) p l1 (k : Int)) (by rw [hwe]; exact hv) ?_
        refine a_ild5 eX8_bestRank_49 ?_
        refine a_icmp_le 75 eX8_bestRank_51 (by decide) (by omega) (fun hT51 => ?_) (fun hF51 => ?_)
        · skip
          refine a_iinc6 eX8_bestRank_75 (by decide) aw_n2i ?_
          refine a_goto 9 eX8_bestRank_78 (by decide) ?_
          have hwn : wfrom m ah (wW m ah) p l1 (k : Int) ≤ gbest m ah (wW m ah) p l1 k := by omega
          have e1 : gwho m ah (wW m ah) p l1 (k + 1) = gwho m ah (wW m ah) p l1 k := if_pos hwn
          have e2 : gbest m ah (wW m ah) p l1 (k + 1) = gbest m ah (wW m ah) p l1 k := if_pos hwn
          rw [show (k : Int) + 1 = (((k + 1 : Nat) : Nat) : Int) by omega, ← e1, ← e2]
          exact ih (k + 1) _ (by omega) (by omega)
        · skip
          refine a_ild6 eX8_bestRank_54 ?_
          refine a_ist4 eX8_bestRank_56 (by decide) aw_n2i ?_
          refine a_ald0 eX8_bestRank_58 ?_
          refine a_ild6 eX8_bestRank_59 ?_
          refine a_ald0 eX8_bestRank_61 ?_
          refine a_getR 3 55 eX8_bestRank_62 fl_X8_21 rfl rfl sh_51 ((congrFun (congrFun hR _) _).trans rf_51_3) ?_
          refine a_ild6 eX8_bestRank_65 ?_
          refine a_iald eX8_bestRank_67 sh_55 rfl (by omega) ?_
          refine a_eqtop (y0 := ah (k : Int)) (by exact hak.1) ?_
          refine a_ild7 eX8_bestRank_68 ?_
          refine a_cV3 eX8_bestRank_70 lk_X8_61 mV_X8_at sh_51 ⟨_, rfl, rfl⟩ mt_X8_at rfl rfl rfl rfl rfl rfl rfl (c_X8_at hR (by omega) ?_)
          dsimp only [Option.toList, List.cons_append, List.nil_append]
          refine a_eqtop (y0 := wfrom m ah (wW m ah) p l1 (k : Int)) (by rw [hwe]; exact hv) ?_
          refine a_ist5 eX8_bestRank_73 (by decide) aw_n2i ?_
          refine a_iinc6 eX8_bestRank_75 (by decide) aw_n2i ?_
          refine a_goto 9 eX8_bestRank_78 (by decide) ?_
          have e1 : gwho m ah (wW m ah) p l1 (k + 1) = (k : Int) := if_neg (by omega)
          have e2 : gbest m ah (wW m ah) p l1 (k + 1) = wfrom m ah (wW m ah) p l1 (k : Int) := if_neg (by omega)
          rw [show (((k : Nat) : Int)) + 1 = (((k + 1 : Nat) : Nat) : Int) by omega]
          have ih1 := ih (k + 1) (some (.int (jI ((l1 : Int) - aw_ap (m 1 (k : Int)) p)))) (by omega) (by omega)
          rw [e1, e2] at ih1
          exact ih1

set_option maxHeartbeats 4000000 in
set_option maxRecDepth 100000 in
theorem c_X8_bestRank {l : Launch} {σ : aw_S} {Post : Option Value → aw_S → Prop} {a : Nat} (ha : isCity a) {tw cs : Bool} (hR : σ.2.2 = RF tw cs) {m : mS} (hC : cityC σ a m) (wC : wfCity m) (h0 : 0 < m 0 0) (wH : wfCh m) {ah : Int → Int} (hah : ahOK σ ah) {p : Int} {l1 : Nat} (hp : 0 ≤ p ∧ p ≤ 99) (hl : l1 ≤ 120) (hT : tbl σ m ah (l1 + 1)) (hk : Post (some (.int (jI (gwho m ah (wW m ah) p l1 (m 0 0).toNat)))) σ)  : AE l yX8_bestRank cX8_bestRank 8 (some .int) 2 43 0 0 SH SH σ [.ref 51, .ref a, .int (jI p), .int (jI (l1 : Int))] Post := by
  show AW l yX8_bestRank cX8_bestRank 8 (some .int) 2 43 0 0 SH Post SH 0 0 σ 0 [some (.ref 51), some (.ref a), some (.int (jI p)), some (.int (jI (l1 : Int))), none, none, none, none] []
  have y1 := wC.1
  refine a_iconst eX8_bestRank_0 ?_
  refine a_ist4 eX8_bestRank_1 (by decide) aw_n2i ?_
  refine a_iconst eX8_bestRank_3 ?_
  refine a_ist5 eX8_bestRank_4 (by decide) aw_n2i ?_
  refine a_iconst eX8_bestRank_6 ?_
  refine a_ist6 eX8_bestRank_7 (by decide) aw_n2i ?_
  exact lp_best ha hR hC wC h0 wH hah hp hl hT hk _ 0 none (Nat.le_refl _) (by omega)

set_option maxHeartbeats 4000000 in
set_option maxRecDepth 100000 in
theorem c_X8_onComing {l : Launch} {σ : aw_S} {Post : Option Value → aw_S → Prop} {a : Nat} (ha : isCity a) {tw cs : Bool} (hR : σ.2.2 = RF tw cs) {m : mS} (hC : cityC σ a m) (wC : wfCity m) (h0 : 0 < m 0 0) (wH : wfCh m) {ah : Int → Int} (hah : ahOK σ ah) {p r : Int} {l1 : Nat} (hp : 0 ≤ p ∧ p ≤ 99) (hl : l1 ≤ 120) (hr : r = -1 ∨ (0 ≤ r ∧ r < m 0 0)) (hT : tbl σ m ah (l1 + 1)) (hk : Post (some (.int (jI (ocm m ah p l1 r)))) σ)  : AE l yX8_onComing cX8_onComing 6 (some .int) 2 43 0 0 SH SH σ [.ref 51, .ref a, .int (jI r), .int (jI p), .int (jI (l1 : Int))] Post := by
  show AW l yX8_onComing cX8_onComing 6 (some .int) 2 43 0 0 SH Post SH 0 0 σ 0 [some (.ref 51), some (.ref a), some (.int (jI r)), some (.int (jI p)), some (.int (jI (l1 : Int))), none] []
  obtain ⟨c1, c2, c3, c4, c5, c6, c7, c8⟩ := id hC
  obtain ⟨y1, y2, y3, y4, y5, y6, y7, y8⟩ := id wC
  have ha2 : a ≤ 13 := by rcases ha with rfl | rfl <;> omega
  refine a_ild2 eX8_onComing_0 ?_
  refine a_iconst eX8_onComing_1 ?_
  refine a_icmp_ne 7 eX8_onComing_2 (by decide) (by omega) (fun hT2 => ?_) (fun hF2 => ?_)
  · skip
    have y2k := y2 r (by omega) (by omega)
    have c2k := c2 r (by omega) (by omega)
    have hab := aw_ap_b (a := m 1 r) (b := p) (by omega) (by omega)
    have hak := hah r (by omega) (by omega)
    have hwb := wfrom_b (ah := ah) (p := p) (l := l1) (r := r) wC h0 wH (by omega)
    refine a_ild4 eX8_onComing_7 ?_
    refine a_ald1 eX8_onComing_9 ?_
    refine a_ild2 eX8_onComing_10 ?_
    refine a_ild3 eX8_onComing_11 ?_
    refine a_cV2 eX8_onComing_12 lk_X8_80 mV_X3_minutesTo (sh_city ha) ⟨_, rfl, rfl⟩ mt_X3_minutesTo rfl rfl rfl rfl rfl rfl (c_X3_minutesTo ha hR (by omega) hp (by omega) ?_)
    dsimp only [Option.toList, List.cons_append, List.nil_append]
    refine a_eqtop (y0 := aw_ap (m 1 r) p) (by rw [c2k.1]) ?_
    refine a_isub eX8_onComing_15 ?_
    refine a_ist5 eX8_onComing_16 (by decide) aw_n2i ?_
    refine a_ild5 eX8_onComing_18 ?_
    refine a_if_ge 27 eX8_onComing_20 (by decide) (by omega) (fun hT20 => ?_) (fun hF20 => ?_)
    · skip
      have hv := hT (l1 - (aw_ap (m 1 r) p).toNat) r (ah r) (by omega) (by omega) (by omega) (by omega) (by omega)
      rw [show ((l1 - (aw_ap (m 1 r) p).toNat : Nat) : Int) = (l1 : Int) - aw_ap (m 1 r) p by omega] at hv
      have hwe : wfrom m ah (wW m ah) p l1 r = wW m ah (l1 - (aw_ap (m 1 r) p).toNat) r (ah r) := if_neg (by omega)
      refine a_ald0 eX8_onComing_27 ?_
      refine a_ild2 eX8_onComing_28 ?_
      refine a_ald0 eX8_onComing_29 ?_
      refine a_getR 3 55 eX8_onComing_30 fl_X8_21 rfl rfl sh_51 ((congrFun (congrFun hR _) _).trans rf_51_3) ?_
      refine a_ild2 eX8_onComing_33 ?_
      refine a_iald eX8_onComing_34 sh_55 rfl (by omega) ?_
      refine a_eqtop (y0 := ah r) (by exact hak.1) ?_
      refine a_ild5 eX8_onComing_35 ?_
      refine a_cV3 eX8_onComing_37 lk_X8_61 mV_X8_at sh_51 ⟨_, rfl, rfl⟩ mt_X8_at rfl rfl rfl rfl rfl rfl rfl (c_X8_at hR (by omega) ?_)
      dsimp only [Option.toList, List.cons_append, List.nil_append]
      refine a_iret eX8_onComing_40 rfl rfl ⟨Nat.zero_le _, Nat.zero_le _⟩ ?_
      have e9 : ocm m ah p l1 r = wfrom m ah (wW m ah) p l1 r := by unfold ocm; rw [if_neg (by omega), if_neg (by have := fun z => hwb.2.2 z; omega)]
      rw [e9, hwe, ← hv] at hk
      exact hk
    · skip
      refine a_iconst eX8_onComing_23 ?_
      refine a_goto 40 eX8_onComing_24 (by decide) ?_
      refine a_iret eX8_onComing_40 rfl rfl ⟨Nat.zero_le _, Nat.zero_le _⟩ ?_
      have e9 : ocm m ah p l1 r = 0 := by unfold ocm; rw [if_neg (by omega), if_pos (by unfold wfrom; rw [if_pos (by omega)]; omega)]
      rw [e9] at hk
      exact hk
  · skip
    refine a_iconst eX8_onComing_5 ?_
    refine a_iret eX8_onComing_6 rfl rfl ⟨Nat.zero_le _, Nat.zero_le _⟩ ?_
    have e9 : ocm m ah p l1 r = 0 := if_pos (by omega)
    rw [e9] at hk
    exact hk

set_option maxHeartbeats 4000000 in
set_option maxRecDepth 100000 in
theorem c_X8_fareBrings {l : Launch} {σ : aw_S} {Post : Option Value → aw_S → Prop} {a : Nat} (ha : isCity a) {tw cs : Bool} (hR : σ.2.2 = RF tw cs) {m : mS} (hC : cityC σ a m) (wC : wfCity m) (h0 : 0 < m 0 0) (wH : wfCh m) {ah : Int → Int} (hah : ahOK σ ah) (hH : chC σ m) {r : Int} {l1 : Nat} (hr : 0 ≤ r ∧ r < m 0 0) (hl : l1 ≤ 120) (hT : tbl σ m ah l1) (hk : Post (some (.int (jI (if m 13 r = 0 then 0 else fbrg m ah (wW m ah) l1 r)))) σ)  : AE l yX8_fareBrings cX8_fareBrings 7 (some .int) 3 70 0 0 SH SH σ [.ref 51, .ref a, .int (jI r), .int (jI (l1 : Int))] Post := by
  show AW l yX8_fareBrings cX8_fareBrings 7 (some .int) 3 70 0 0 SH Post SH 0 0 σ 0 [some (.ref 51), some (.ref a), some (.int (jI r)), some (.int (jI (l1 : Int))), none, none, none] []
  obtain ⟨c1, c2, c3, c4, c5, c6, c7, c8⟩ := id hC
  obtain ⟨y1, y2, y3, y4, y5, y6, y7, y8⟩ := id wC
  have ha2 : a ≤ 13 := by rcases ha with rfl | rfl <;> omega
  have hc := hH r (by omega) (by omega)
  have wc := wH r (by omega) (by omega)
  refine a_ild3 eX8_fareBrings_0 ?_
  refine a_ald0 eX8_fareBrings_1 ?_
  refine a_getR 1 53 eX8_fareBrings_2 fl_X8_15 rfl rfl sh_51 ((congrFun (congrFun hR _) _).trans rf_51_1) ?_
  refine a_ild2 eX8_fareBrings_5 ?_
  refine a_iald eX8_fareBrings_6 sh_53 rfl (by omega) ?_
  refine a_isub eX8_fareBrings_7 ?_
  refine a_ist4 eX8_fareBrings_8 (by decide) aw_n2i ?_
  refine a_ald0 eX8_fareBrings_10 ?_
  refine a_getR 0 52 eX8_fareBrings_11 fl_X8_11 rfl rfl sh_51 ((congrFun (congrFun hR _) _).trans rf_51_0) ?_
  refine a_ild2 eX8_fareBrings_14 ?_
  refine a_iald eX8_fareBrings_15 sh_52 rfl (by omega) ?_
  refine a_eqtop (y0 := m 13 r) (by exact hc.1) ?_
  refine a_if_eq 24 eX8_fareBrings_16 (by decide) (by omega) (fun hT16 => ?_) (fun hF16 => ?_)
  · skip
    refine a_iconst eX8_fareBrings_24 ?_
    refine a_iret eX8_fareBrings_25 rfl rfl ⟨Nat.zero_le _, Nat.zero_le _⟩ ?_
    rw [if_pos (by omega)] at hk
    exact hk
  · skip
    obtain ⟨h53, h54⟩ := hc.2 (by omega)
    refine a_ild4 eX8_fareBrings_19 ?_
    refine a_eqtop (y0 := (l1 : Int) - m 14 r) (by rw [h53]) ?_
    refine a_if_ge 26 eX8_fareBrings_21 (by decide) (by omega) (fun hT21 => ?_) (fun hF21 => ?_)
    · skip
      have c2k := c2 (m 15 r) (by omega) (by omega)
      have y2k := y2 (m 15 r) (by omega) (by omega)
      have h9 := y6 h0
      have k6 := c6 h0
      have hfb : fbrg m ah (wW m ah) l1 r = 1000 * mprice m (m 14 r) 0 + gval m ah (wW m ah) (m 1 (m 15 r)) (l1 - (m 14 r).toNat) := if_neg (by omega)
      have hoc := ocm_who (m := m) (ah := ah) (p := m 1 (m 15 r)) (l := l1 - (m 14 r).toNat) wC h0 wH
      have hgw := (gbest_b wC h0 wH (ah := ah) (p := m 1 (m 15 r)) (l := l1 - (m 14 r).toNat) (m 0 0).toNat (by omega)).2
      refine a_ald1 eX8_fareBrings_26 ?_
      refine a_getR 1 (a + 1) eX8_fareBrings_27 fl_X8_67 rfl rfl (sh_city ha) ((congrFun (congrFun hR _) _).trans (rf_city_1 ha)) ?_
      refine a_ald0 eX8_fareBrings_30 ?_
      refine a_getR 2 54 eX8_fareBrings_31 fl_X8_18 rfl rfl sh_51 ((congrFun (congrFun hR _) _).trans rf_51_2) ?_
      refine a_ild2 eX8_fareBrings_34 ?_
      refine a_iald eX8_fareBrings_35 sh_54 rfl (by omega) ?_
      refine a_eqtop (y0 := m 15 r) (by exact h54) ?_
      refine a_iald eX8_fareBrings_36 (sh_city_1 ha) rfl (by omega) ?_
      refine a_eqtop (y0 := m 1 (m 15 r)) (by exact c2k.1) ?_
      refine a_ist5 eX8_fareBrings_37 (by decide) aw_n2i ?_
      refine a_ald0 eX8_fareBrings_39 ?_
      refine a_ald1 eX8_fareBrings_40 ?_
      refine a_ild5 eX8_fareBrings_41 ?_
      refine a_ild4 eX8_fareBrings_43 ?_
      refine a_eqtop (y0 := ((l1 - (m 14 r).toNat : Nat) : Int)) (by rw [h53]; omega) ?_
      refine a_cV3 eX8_fareBrings_45 lk_X8_70 mV_X8_bestRank sh_51 ⟨_, rfl, rfl⟩ mt_X8_bestRank rfl rfl rfl rfl rfl rfl rfl (c_X8_bestRank ha hR hC wC h0 wH hah (by omega) (by omega) (fun k r n k1 => hT k r n (by omega)) ?_)
      dsimp only [Option.toList, List.cons_append, List.nil_append]
      refine a_ist6 eX8_fareBrings_48 (by decide) aw_n2i ?_
      refine a_sipush eX8_fareBrings_50 (by decide) ?_
      refine a_ald1 eX8_fareBrings_53 ?_
      refine a_ald0 eX8_fareBrings_54 ?_
      refine a_getR 1 53 eX8_fareBrings_55 fl_X8_15 rfl rfl sh_51 ((congrFun (congrFun hR _) _).trans rf_51_1) ?_
      refine a_ild2 eX8_fareBrings_58 ?_
      refine a_iald eX8_fareBrings_59 sh_53 rfl (by omega) ?_
      refine a_eqtop (y0 := m 14 r) (by exact h53) ?_
      refine a_iconst eX8_fareBrings_60 ?_
      refine a_cV2 eX8_fareBrings_61 lk_X8_73 mV_X3_priceOf (sh_city ha) ⟨_, rfl, rfl⟩ mt_X3_priceOf rfl rfl rfl rfl rfl rfl (c_X3_priceOf ha (by omega) (by omega) (by omega) (by omega) (by omega) (by omega) (by omega) ?_)
      dsimp only [Option.toList, List.cons_append, List.nil_append]
      refine a_eqtop (y0 := mprice m (m 14 r) 0) (by unfold mprice; rw [k6.1, k6.2.1, k6.2.2.1, k6.2.2.2.1, k6.2.2.2.2]) ?_
      refine a_imul eX8_fareBrings_64 ?_
      refine a_ald0 eX8_fareBrings_65 ?_
      refine a_ald1 eX8_fareBrings_66 ?_
      refine a_ild6 eX8_fareBrings_67 ?_
      refine a_ild5 eX8_fareBrings_69 ?_
      refine a_ild4 eX8_fareBrings_71 ?_
      refine a_eqtop (y0 := ((l1 - (m 14 r).toNat : Nat) : Int)) (by rw [h53]; omega) ?_
      refine a_cV4 eX8_fareBrings_73 lk_X8_76 mV_X8_onComing sh_51 ⟨_, rfl, rfl⟩ mt_X8_onComing rfl rfl rfl rfl rfl rfl rfl rfl (c_X8_onComing ha hR hC wC h0 wH hah (by omega) (by omega) (by omega) (fun k r n k1 => hT k r n (by omega)) ?_)
      dsimp only [Option.toList, List.cons_append, List.nil_append]
      refine a_iadd eX8_fareBrings_76 ?_
      refine a_iret eX8_fareBrings_77 rfl rfl ⟨Nat.zero_le _, Nat.zero_le _⟩ ?_
      rw [if_neg (by omega), hfb, ← hoc] at hk
      exact hk
    · skip
      refine a_iconst eX8_fareBrings_24 ?_
      refine a_iret eX8_fareBrings_25 rfl rfl ⟨Nat.zero_le _, Nat.zero_le _⟩ ?_
      rw [if_neg (by omega), show fbrg m ah (wW m ah) l1 r = 0 from if_pos (by omega)] at hk
      exact hk

theorem wW_eq1 (m : mS) (ah : Int → Int) (l : Nat) (r n : Int) : wW m ah l r n = if l = 0 then 0 else (m 13 r * (if 0 < n then wW m ah (l - 1) r (n - 1) else fbrg m ah (wW m ah) l r) + (16 - m 13 r) * wW m ah (l - 1) r n) / 16 := W_eq m ah l r n
set_option maxHeartbeats 4000000 in
set_option maxRecDepth 100000 in
theorem lp_wfil {l : Launch} {σ : aw_S} {Post : Option Value → aw_S → Prop} {a : Nat} (ha : isCity a) {tw cs : Bool} (hR : σ.2.2 = RF tw cs) {m : mS} (hC : cityC σ a m) (wC : wfCity m) (h0 : 0 < m 0 0) (wH : wfCh m) {ah : Int → Int} (hah : ahOK σ ah) (hH : chC σ m) {r : Int} {l1 : Nat} (hr : 0 ≤ r ∧ r < m 0 0) (hl : l1 ≤ 120) (hT : tbl σ m ah l1) (hk : ∀ σ', fr1 56 σ σ' → (∀ j : Int, ¬ ((l1 : Int) * 60 + r * 10 ≤ j ∧ j < (l1 : Int) * 60 + r * 10 + 10) → σ'.1 56 j = σ.1 56 j) → (∀ n : Int, 0 ≤ n → n < 10 → σ'.1 56 ((l1 : Int) * 60 + r * 10 + n) = wW m ah l1 r n) → Post none σ')  : ∀ (n : Nat) (n1 : Int) (σ1 : aw_S) (lx : Option Value) (ly : Option Value) (b : Int), ((10 - n1).toNat ≤ n) → (0 ≤ n1 ∧ n1 ≤ 10) → (fr1 56 σ σ1) → (∀ j : Int, ¬ ((l1 : Int) * 60 + r * 10 ≤ j ∧ j < (l1 : Int) * 60 + r * 10 + 10) → σ1.1 56 j = σ.1 56 j) → (∀ n : Int, 0 ≤ n → n < n1 → σ1.1 56 ((l1 : Int) * 60 + r * 10 + n) = wW m ah l1 r n) → (0 ≤ b ∧ b ≤ 245640000) → (l1 = 0 → b = 0) → (l1 ≠ 0 → m 13 r * b = m 13 r * (if 0 < n1 then wW m ah (l1 - 1) r (n1 - 1) else fbrg m ah (wW m ah) l1 r)) → AW l yX8_fillRank cX8_fillRank 10 (none : Option Jvm.ClassFile.FieldType) 4 96 0 0 SH Post SH 0 0 (σ1) 23 [some (.ref 51), some (.ref a), some (.int (jI r)), some (.int (jI (l1 : Int))), some (.int (jI ((l1 : Int) * 60 + r * 10))), some (.int (jI b)), some (.int (jI n1)), lx, ly, none] [] := by
  intro n
  induction n with
  | zero =>
    intro n1 σ1 lx ly b hm hn f1 hlo hw hb hb0 hb1
    obtain ⟨c1, c2, c3, c4, c5, c6, c7, c8⟩ := id hC
    obtain ⟨y1, y2, y3, y4, y5, y6, y7, y8⟩ := id wC
    have ha2 : a ≤ 13 := by rcases ha with rfl | rfl <;> omega
    have hR : σ1.2.2 = RF tw cs := by rw [f1.2]; exact hR
    have hc := hH r (by omega) (by omega)
    have wc := wH r (by omega) (by omega)
    have h52 : σ1.1 52 r = m 13 r := (f1.1 _ _ (by omega)).trans hc.1
    have hWe := wW_eq1 m ah l1 r n1
    refine a_ild6 eX8_fillRank_23 ?_
    refine a_bipush eX8_fillRank_25 (by decide) ?_
    refine a_icmp_ge 105 eX8_fillRank_27 (by decide) (by omega) (fun hT27 => ?_) (fun hF27 => ?_)
    · skip
      refine a_vret eX8_fillRank_105 rfl rfl ⟨Nat.zero_le _, Nat.zero_le _⟩ ?_
      exact hk σ1 f1 hlo (fun n z1 z2 => hw n z1 (by omega))
    · skip
      exfalso; omega
  | succ n ih =>
    intro n1 σ1 lx ly b hm hn f1 hlo hw hb hb0 hb1
    obtain ⟨c1, c2, c3, c4, c5, c6, c7, c8⟩ := id hC
    obtain ⟨y1, y2, y3, y4, y5, y6, y7, y8⟩ := id wC
    have ha2 : a ≤ 13 := by rcases ha with rfl | rfl <;> omega
    have hR : σ1.2.2 = RF tw cs := by rw [f1.2]; exact hR
    have hc := hH r (by omega) (by omega)
    have wc := wH r (by omega) (by omega)
    have h52 : σ1.1 52 r = m 13 r := (f1.1 _ _ (by omega)).trans hc.1
    have hWe := wW_eq1 m ah l1 r n1
    refine a_ild6 eX8_fillRank_23 ?_
    refine a_bipush eX8_fillRank_25 (by decide) ?_
    refine a_icmp_ge 105 eX8_fillRank_27 (by decide) (by omega) (fun hT27 => ?_) (fun hF27 => ?_)
    · skip
      refine a_vret eX8_fillRank_105 rfl rfl ⟨Nat.zero_le _, Nat.zero_le _⟩ ?_
      exact hk σ1 f1 hlo (fun n z1 z2 => hw n z1 (by omega))
    · skip
      refine a_ild3 eX8_fillRank_30 ?_
      refine a_if_ne 38 eX8_fillRank_31 (by decide) (by omega) (fun hT31 => ?_) (fun hF31 => ?_)
      · skip
        refine a_ald0 eX8_fillRank_38 ?_
        refine a_ild2 eX8_fillRank_39 ?_
        refine a_ild6 eX8_fillRank_40 ?_
        refine a_ild3 eX8_fillRank_42 ?_
        refine a_iconst eX8_fillRank_43 ?_
        refine a_isub eX8_fillRank_44 ?_
        refine a_cV3 eX8_fillRank_45 lk_X8_61 mV_X8_at sh_51 ⟨_, rfl, rfl⟩ mt_X8_at rfl rfl rfl rfl rfl rfl rfl (c_X8_at hR (by omega) ?_)
        dsimp only [Option.toList, List.cons_append, List.nil_append]
        refine a_eqtop (y0 := wW m ah (l1 - 1) r n1) (by have hv := hT (l1 - 1) r n1 (by omega) (by omega) (by omega) (by omega) (by omega); rw [show ((l1 - 1 : Nat) : Int) = (l1 : Int) - 1 by omega] at hv; rw [hlo _ (by omega)]; exact hv) ?_
        refine a_ist7 eX8_fillRank_48 (by decide) aw_n2i ?_
        have hsb := W_b (ah := ah) wC h0 wH (l1 - 1 + 1) (l1 - 1) (by omega) r n1 (by omega) (by omega)
        refine a_ald0 eX8_fillRank_50 ?_
        refine a_getR 0 52 eX8_fillRank_51 fl_X8_11 rfl rfl sh_51 ((congrFun (congrFun hR _) _).trans rf_51_0) ?_
        refine a_ild2 eX8_fillRank_54 ?_
        refine a_iald eX8_fillRank_55 sh_52 rfl (by omega) ?_
        refine a_eqtop (y0 := m 13 r) (by exact h52) ?_
        refine a_i2l eX8_fillRank_56 (by omega) ?_
        refine a_ild5 eX8_fillRank_57 ?_
        refine a_i2l eX8_fillRank_59 (by omega) ?_
        refine a_lmul eX8_fillRank_60 ?_
        refine a_bipush eX8_fillRank_61 (by decide) ?_
        refine a_ald0 eX8_fillRank_63 ?_
        refine a_getR 0 52 eX8_fillRank_64 fl_X8_11 rfl rfl sh_51 ((congrFun (congrFun hR _) _).trans rf_51_0) ?_
        refine a_ild2 eX8_fillRank_67 ?_
        refine a_iald eX8_fillRank_68 sh_52 rfl (by omega) ?_
        refine a_eqtop (y0 := m 13 r) (by exact h52) ?_
        refine a_isub eX8_fillRank_69 ?_
        refine a_i2l eX8_fillRank_70 (by omega) ?_
        refine a_ild7 eX8_fillRank_71 ?_
        refine a_i2l eX8_fillRank_73 (by omega) ?_
        refine a_lmul eX8_fillRank_74 ?_
        refine a_ladd eX8_fillRank_75 ?_
        refine a_lst8 eX8_fillRank_76 (by decide) aw_n2i ?_
        refine a_ald0 eX8_fillRank_78 ?_
        refine a_getR 4 56 eX8_fillRank_79 fl_X8_24 rfl rfl sh_51 ((congrFun (congrFun hR _) _).trans rf_51_4) ?_
        refine a_ild4 eX8_fillRank_82 ?_
        refine a_ild6 eX8_fillRank_84 ?_
        refine a_iadd eX8_fillRank_86 ?_
        obtain ⟨S9, hS9⟩ : ∃ S : Int, S = wW m ah (l1 - 1) r n1 := ⟨_, rfl⟩
        have hS9b : 0 ≤ S9 ∧ S9 ≤ 245640000 := by omega
        have hmx := mixb (q := m 13 r) (b := b) (s := S9) (X := 245640000) (by omega) (by omega) hS9b
        rw [hS9] at hmx
        refine a_lld8 eX8_fillRank_87 ?_
        refine a_ldc2 (16) (by decide) eX8_fillRank_89 kc_X8_65 ?_
        refine a_ldiv _ eX8_fillRank_92 (by decide) (jL_div (by omega) (by omega)) ?_
        refine a_l2i eX8_fillRank_93 ?_
        refine a_eqtop (y0 := wW m ah l1 r n1) (by rw [hWe]; rw [if_neg (by omega), ← hb1 (by omega)]) ?_
        refine a_iast eX8_fillRank_94 sh_56 rfl (by omega) ?_
        refine a_ild7 eX8_fillRank_95 ?_
        refine a_ist5 eX8_fillRank_97 (by decide) aw_n2i ?_
        refine a_iinc6 eX8_fillRank_99 (by decide) aw_n2i ?_
        refine a_goto 23 eX8_fillRank_102 (by decide) ?_
        refine ih (n1 + 1) _ _ _ (wW m ah (l1 - 1) r n1) (by omega) (by omega) ⟨fun b j q => by simp only [rd_si]; rw [if_neg (by omega)]; exact f1.1 b j q, f1.2⟩ (fun j hj => by rw [rd_si_ni (by omega)]; exact hlo j hj) (fun k k1 k2 => ?_) (by omega) (fun z => by omega) (fun z => ?_)
        · by_cases q : k = n1
          · rw [q, rd_si_eq]
          · rw [rd_si_ni (by omega)]
            exact hw k k1 (by omega)
        · first
            | omega
            | rw [if_pos (by omega), show n1 + 1 - 1 = n1 by omega]
      · skip
        refine a_iconst eX8_fillRank_34 ?_
        refine a_goto 48 eX8_fillRank_35 (by decide) ?_
        refine a_eqtop (y0 := 0) (by rfl) ?_
        refine a_ist7 eX8_fillRank_48 (by decide) aw_n2i ?_
        have hsb := W_b (ah := ah) wC h0 wH (l1 - 1 + 1) (l1 - 1) (by omega) r n1 (by omega) (by omega)
        refine a_ald0 eX8_fillRank_50 ?_
        refine a_getR 0 52 eX8_fillRank_51 fl_X8_11 rfl rfl sh_51 ((congrFun (congrFun hR _) _).trans rf_51_0) ?_
        refine a_ild2 eX8_fillRank_54 ?_
        refine a_iald eX8_fillRank_55 sh_52 rfl (by omega) ?_
        refine a_eqtop (y0 := m 13 r) (by exact h52) ?_
        refine a_i2l eX8_fillRank_56 (by omega) ?_
        refine a_ild5 eX8_fillRank_57 ?_
        refine a_i2l eX8_fillRank_59 (by omega) ?_
        refine a_lmul eX8_fillRank_60 ?_
        refine a_bipush eX8_fillRank_61 (by decide) ?_
        refine a_ald0 eX8_fillRank_63 ?_
        refine a_getR 0 52 eX8_fillRank_64 fl_X8_11 rfl rfl sh_51 ((congrFun (congrFun hR _) _).trans rf_51_0) ?_
        refine a_ild2 eX8_fillRank_67 ?_
        refine a_iald eX8_fillRank_68 sh_52 rfl (by omega) ?_
        refine a_eqtop (y0 := m 13 r) (by exact h52) ?_
        refine a_isub eX8_fillRank_69 ?_
        refine a_i2l eX8_fillRank_70 (by omega) ?_
        refine a_ild7 eX8_fillRank_71 ?_
        refine a_i2l eX8_fillRank_73 (by omega) ?_
        refine a_lmul eX8_fillRank_74 ?_
        refine a_ladd eX8_fillRank_75 ?_
        refine a_lst8 eX8_fillRank_76 (by decide) aw_n2i ?_
        refine a_ald0 eX8_fillRank_78 ?_
        refine a_getR 4 56 eX8_fillRank_79 fl_X8_24 rfl rfl sh_51 ((congrFun (congrFun hR _) _).trans rf_51_4) ?_
        refine a_ild4 eX8_fillRank_82 ?_
        refine a_ild6 eX8_fillRank_84 ?_
        refine a_iadd eX8_fillRank_86 ?_
        obtain ⟨S9, hS9⟩ : ∃ S : Int, S = 0 := ⟨_, rfl⟩
        have hS9b : 0 ≤ S9 ∧ S9 ≤ 245640000 := by omega
        have hmx := mixb (q := m 13 r) (b := b) (s := S9) (X := 245640000) (by omega) (by omega) hS9b
        rw [hS9] at hmx
        refine a_lld8 eX8_fillRank_87 ?_
        refine a_ldc2 (16) (by decide) eX8_fillRank_89 kc_X8_65 ?_
        refine a_ldiv _ eX8_fillRank_92 (by decide) (jL_div (by omega) (by omega)) ?_
        refine a_l2i eX8_fillRank_93 ?_
        refine a_eqtop (y0 := wW m ah l1 r n1) (by rw [hWe]; rw [if_pos (by omega), hb0 (by omega)]; rw [Int.mul_zero, Int.mul_zero]; rfl) ?_
        refine a_iast eX8_fillRank_94 sh_56 rfl (by omega) ?_
        refine a_ild7 eX8_fillRank_95 ?_
        refine a_ist5 eX8_fillRank_97 (by decide) aw_n2i ?_
        refine a_iinc6 eX8_fillRank_99 (by decide) aw_n2i ?_
        refine a_goto 23 eX8_fillRank_102 (by decide) ?_
        refine ih (n1 + 1) _ _ _ 0 (by omega) (by omega) ⟨fun b j q => by simp only [rd_si]; rw [if_neg (by omega)]; exact f1.1 b j q, f1.2⟩ (fun j hj => by rw [rd_si_ni (by omega)]; exact hlo j hj) (fun k k1 k2 => ?_) (by omega) (fun z => by omega) (fun z => ?_)
        · by_cases q : k = n1
          · rw [q, rd_si_eq]
          · rw [rd_si_ni (by omega)]
            exact hw k k1 (by omega)
        · first
            | omega
            | rw [if_pos (by omega), show n1 + 1 - 1 = n1 by omega]

theorem fbrg_b {m : mS} {ah : Int → Int} {l : Nat} {r : Int} (wC : wfCity m) (h0 : 0 < m 0 0) (wH : wfCh m) (hr : 0 ≤ r ∧ r < 6) : 0 ≤ fbrg m ah (wW m ah) l r ∧ fbrg m ah (wW m ah) l r ≤ 2047000 * (l : Int) := by
  have h6 := wC.1
  have hc := wH r hr.1 hr.2
  unfold fbrg
  split
  · omega
  · have hp := price_mi (mi := m 14 r) wC h0 (by omega)
    have hg := (gbest_b wC h0 wH (ah := ah) (p := m 1 (m 15 r)) (l := l - (m 14 r).toNat) (m 0 0).toNat (by omega)).1
    unfold gval
    split <;> omega
set_option maxHeartbeats 4000000 in
set_option maxRecDepth 100000 in
theorem c_X8_fillRank {l : Launch} {σ : aw_S} {Post : Option Value → aw_S → Prop} {a : Nat} (ha : isCity a) {tw cs : Bool} (hR : σ.2.2 = RF tw cs) {m : mS} (hC : cityC σ a m) (wC : wfCity m) (h0 : 0 < m 0 0) (wH : wfCh m) {ah : Int → Int} (hah : ahOK σ ah) (hH : chC σ m) {r : Int} {l1 : Nat} (hr : 0 ≤ r ∧ r < m 0 0) (hl : l1 ≤ 120) (hT : tbl σ m ah l1) (hk : ∀ σ', fr1 56 σ σ' → (∀ j : Int, ¬ ((l1 : Int) * 60 + r * 10 ≤ j ∧ j < (l1 : Int) * 60 + r * 10 + 10) → σ'.1 56 j = σ.1 56 j) → (∀ n : Int, 0 ≤ n → n < 10 → σ'.1 56 ((l1 : Int) * 60 + r * 10 + n) = wW m ah l1 r n) → Post none σ')  : AE l yX8_fillRank cX8_fillRank 10 (none : Option Jvm.ClassFile.FieldType) 4 96 0 0 SH SH σ [.ref 51, .ref a, .int (jI r), .int (jI (l1 : Int))] Post := by
  show AW l yX8_fillRank cX8_fillRank 10 (none : Option Jvm.ClassFile.FieldType) 4 96 0 0 SH Post SH 0 0 σ 0 [some (.ref 51), some (.ref a), some (.int (jI r)), some (.int (jI (l1 : Int))), none, none, none, none, none, none] []
  have y1 := wC.1
  have wc := wH r (by omega) (by omega)
  have hfb := fbrg_b (m := m) (ah := ah) (l := l1) (r := r) wC h0 wH (by omega)
  refine a_ild3 eX8_fillRank_0 ?_
  refine a_bipush eX8_fillRank_1 (by decide) ?_
  refine a_imul eX8_fillRank_3 ?_
  refine a_ild2 eX8_fillRank_4 ?_
  refine a_bipush eX8_fillRank_5 (by decide) ?_
  refine a_imul eX8_fillRank_7 ?_
  refine a_iadd eX8_fillRank_8 ?_
  refine a_ist4 eX8_fillRank_9 (by decide) aw_n2i ?_
  refine a_ald0 eX8_fillRank_11 ?_
  refine a_ald1 eX8_fillRank_12 ?_
  refine a_ild2 eX8_fillRank_13 ?_
  refine a_ild3 eX8_fillRank_14 ?_
  refine a_cV3 eX8_fillRank_15 lk_X8_57 mV_X8_fareBrings sh_51 ⟨_, rfl, rfl⟩ mt_X8_fareBrings rfl rfl rfl rfl rfl rfl rfl (c_X8_fareBrings ha hR hC wC h0 wH hah hH hr hl hT ?_)
  dsimp only [Option.toList, List.cons_append, List.nil_append]
  refine a_ist5 eX8_fillRank_18 (by decide) aw_n2i ?_
  refine a_iconst eX8_fillRank_20 ?_
  refine a_ist6 eX8_fillRank_21 (by decide) aw_n2i ?_
  refine lp_wfil ha hR hC wC h0 wH hah hH hr hl hT hk _ 0 σ none none _ (Nat.le_refl _) (by omega) ⟨fun _ _ _ => rfl, rfl⟩ (fun _ _ => rfl) (fun n z1 z2 => by omega) (by split <;> omega) (fun z => ?_) (fun z => ?_)
  · subst z
    split
    · rfl
    · exact if_pos (by omega)
  · rw [if_neg (show ¬ (0 : Int) < 0 by omega)]
    by_cases q : m 13 r = 0
    · rw [if_pos q, q, Int.zero_mul, Int.zero_mul]
    · rw [if_neg q]
