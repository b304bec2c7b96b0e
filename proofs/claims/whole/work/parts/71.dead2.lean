theorem popN_0 : ∀ k : Nat, popN 0 k = 0
  | 0 => rfl
  | k + 1 => by show popN 0 k + 0 / 2 ^ k % 2 = 0; rw [popN_0 k, Nat.zero_div]
theorem pop_8 {x : Nat} (h : x < 256) : pop x ≤ 8 := by
  have h1 : popN x 16 = popN x 8 + popN (x / 2 ^ 8) 8 := popN_split x 8 8
  rw [Nat.div_eq_of_lt (show x < 2 ^ 8 from h), popN_0] at h1
  have h2 := popN_le x 8
  unfold pop
  omega
theorem pw_b {k : Int} (h : 0 ≤ k ∧ k ≤ 16) : 1 ≤ (2 : Int) ^ k.toNat ∧ (2 : Int) ^ k.toNat ≤ 65536 ∧ (k ≤ 8 → (2 : Int) ^ k.toNat ≤ 256) ∧ (k ≤ 6 → (2 : Int) ^ k.toNat ≤ 64) := by
  have e : ((2 ^ k.toNat : Nat) : Int) = 2 ^ k.toNat := by rw [Int.natCast_pow]; rfl
  have h1 : (2 : Nat) ^ k.toNat ≤ 2 ^ 16 := Nat.pow_le_pow_right (by decide) (by omega)
  have h2 : 1 ≤ (2 : Nat) ^ k.toNat := Nat.one_le_two_pow
  refine ⟨by omega, by omega, fun q => ?_, fun q => ?_⟩
  · have h3 : (2 : Nat) ^ k.toNat ≤ 2 ^ 8 := Nat.pow_le_pow_right (by decide) (by omega)
    omega
  · have h3 : (2 : Nat) ^ k.toNat ≤ 2 ^ 6 := Nat.pow_le_pow_right (by decide) (by omega)
    omega
theorem pw_shl {k : Int} (h : 0 ≤ k ∧ k ≤ 16) : jI 1 <<< (jI k &&& 31) = jI (2 ^ k.toNat) := by
  rw [jI_shl (by omega) (by omega) (by have := pw_b h; omega), Int.one_mul]
noncomputable def tlB (m : mS) (h most : Int) : Nat → Int
  | 0 => -1
  | n + 1 => if (tlB m h most n = -1 ∨ pop n < pop (tlB m h most n).toNat) ∧ mdead m h n (m 0 4).toNat ≤ most then (n : Int) else tlB m h most n
theorem tlB_b {m : mS} {h most : Int} : ∀ n : Nat, -1 ≤ tlB m h most n ∧ tlB m h most n < (n : Int)
  | 0 => by show (-1 : Int) ≤ -1 ∧ (-1 : Int) < ((0 : Nat) : Int); omega
  | n + 1 => by
    have ih := tlB_b (m := m) (h := h) (most := most) n
    unfold tlB
    split <;> omega
theorem tlB_s {m : mS} {h most i : Int} (hi : 0 ≤ i) : tlB m h most (i + 1).toNat = if (tlB m h most i.toNat = -1 ∨ pop i.toNat < pop (tlB m h most i.toNat).toNat) ∧ mdead m h i.toNat (m 0 4).toNat ≤ most then i else tlB m h most i.toNat := by
  rw [show (i + 1).toNat = i.toNat + 1 by omega]
  conv => lhs; unfold tlB
  rw [Int.toNat_of_nonneg hi]
def fwL (b : Int) : Int := if b = -1 then 9 else ((pop b.toNat : Nat) : Int)
theorem fwL_b {b : Int} : 0 ≤ fwL b ∧ fwL b ≤ 16 := by
  have := popN_le b.toNat 16
  unfold fwL pop
  split <;> omega
def vdead (m : mS) (h l : Int) : Prop := 0 < m 0 0 ∧ (0 ≤ h ∧ h ≤ 23) ∧ (0 ≤ l ∧ l ≤ 2 ^ (m 0 1).toNat - 1)
def vlift (m : mS) (h most : Int) : Prop := 0 < m 0 0 ∧ (0 ≤ h ∧ h ≤ 23) ∧ (0 ≤ most ∧ most ≤ 2000)
set_option maxHeartbeats 4000000 in
set_option maxRecDepth 100000 in
theorem lp_few {l : Launch} {σ : aw_S} {Post : Option Value → aw_S → Prop} {a : Nat} (ha : isCity a) {tw cs : Bool} (hR : σ.2.2 = RF tw cs) {m : mS} (hC : cityC σ a m) (wC : wfCity m) {h N most : Int} (hh : 0 ≤ h ∧ h ≤ 23) (hmo : 0 ≤ most ∧ most ≤ 2000) (hs : sayOK σ a h) (hD : dayC σ 21 0 m) (wD : wfDay m 0 N) (hk : Post (some (.int (jI (tlB m h most (2 ^ (m 0 1).toNat : Int).toNat)))) σ)  : ∀ (n : Nat) (i : Int) (lx : Option Value), (((2 : Int) ^ (m 0 1).toNat - i).toNat ≤ n) → (0 ≤ i ∧ i ≤ 2 ^ (m 0 1).toNat) → AW l yX6_fewestLifted cX6_fewestLifted 8 (some .int) 4 93 0 0 SH Post SH 0 0 (σ) 10 [some (.ref 62), some (.ref a), some (.ref 21), some (.int (jI most)), some (.int (jI (tlB m h most i.toNat))), some (.int (jI (fwL (tlB m h most i.toNat)))), some (.int (jI i)), lx] [] := by
  intro n
  induction n with
  | zero =>
    intro i lx hm hi
    have hlt := wC.2.2.2.1
    obtain ⟨T, hT⟩ : ∃ T : Int, T = 2 ^ (m 0 1).toNat := ⟨_, rfl⟩
    have hTb := pw_b (k := m 0 1) (by omega)
    rw [← hT] at hTb
    obtain ⟨hT1, hT2, hT3, hT4⟩ := hTb
    have hT3 := hT3 (by omega)
    rw [← hT] at hi hm
    have c3 := hC.2.2.1
    have hb := tlB_b (m := m) (h := h) (most := most) i.toNat
    have hfb := fwL_b (b := tlB m h most i.toNat)
    have es := tlB_s (m := m) (h := h) (most := most) (i := i) (by omega)
    have hp16 := popN_le i.toNat 16
    have hwb := mdead_b wC wD (h := h) (L := i.toNat) (m 0 4).toNat (by have := (wfDay_0 wD).2.1; omega)
    have h16 := (wfDay_0 wD).2.1
    refine a_ild6 eX6_fewestLifted_10 ?_
    refine a_iconst eX6_fewestLifted_12 ?_
    refine a_ald1 eX6_fewestLifted_13 ?_
    refine a_getI 4 eX6_fewestLifted_14 fl_X6_60 rfl rfl (sh_city ha) ?_
    refine a_eqtop (y0 := m 0 1) (by exact c3) ?_
    refine a_ishl T eX6_fewestLifted_17 (by rw [pw_shl (by omega), ← hT]) ?_
    refine a_icmp_ge 61 eX6_fewestLifted_18 (by decide) (by omega) (fun hT18 => ?_) (fun hF18 => ?_)
    · skip
      refine a_ild4 eX6_fewestLifted_61 ?_
      refine a_iret eX6_fewestLifted_63 rfl rfl ⟨Nat.zero_le _, Nat.zero_le _⟩ ?_
      rw [← hT, show T = i by omega] at hk
      exact hk
    · skip
      exfalso; omega
  | succ n ih =>
    intro i lx hm hi
    have hlt := wC.2.2.2.1
    obtain ⟨T, hT⟩ : ∃ T : Int, T = 2 ^ (m 0 1).toNat := ⟨_, rfl⟩
    have hTb := pw_b (k := m 0 1) (by omega)
    rw [← hT] at hTb
    obtain ⟨hT1, hT2, hT3, hT4⟩ := hTb
    have hT3 := hT3 (by omega)
    rw [← hT] at hi hm
    have c3 := hC.2.2.1
    have hb := tlB_b (m := m) (h := h) (most := most) i.toNat
    have hfb := fwL_b (b := tlB m h most i.toNat)
    have es := tlB_s (m := m) (h := h) (most := most) (i := i) (by omega)
    have hp16 := popN_le i.toNat 16
    have hwb := mdead_b wC wD (h := h) (L := i.toNat) (m 0 4).toNat (by have := (wfDay_0 wD).2.1; omega)
    have h16 := (wfDay_0 wD).2.1
    refine a_ild6 eX6_fewestLifted_10 ?_
    refine a_iconst eX6_fewestLifted_12 ?_
    refine a_ald1 eX6_fewestLifted_13 ?_
    refine a_getI 4 eX6_fewestLifted_14 fl_X6_60 rfl rfl (sh_city ha) ?_
    refine a_eqtop (y0 := m 0 1) (by exact c3) ?_
    refine a_ishl T eX6_fewestLifted_17 (by rw [pw_shl (by omega), ← hT]) ?_
    refine a_icmp_ge 61 eX6_fewestLifted_18 (by decide) (by omega) (fun hT18 => ?_) (fun hF18 => ?_)
    · skip
      refine a_ild4 eX6_fewestLifted_61 ?_
      refine a_iret eX6_fewestLifted_63 rfl rfl ⟨Nat.zero_le _, Nat.zero_le _⟩ ?_
      rw [← hT, show T = i by omega] at hk
      exact hk
    · skip
      refine a_ild6 eX6_fewestLifted_21 ?_
      have hp8 := pop_8 (x := i.toNat) (by omega)
      refine a_eqtop (y0 := ((i.toNat : Nat) : Int)) (by omega) ?_
      refine a_cS1 eX6_fewestLifted_23 lk_X6_63 mS_J6_bitCount_0f7a4 mt_J6_bitCount_0f7a4 rfl rfl rfl rfl rfl (c_J6_bitCount_0f7a4 (by omega) ?_)
      dsimp only [Option.toList, List.cons_append, List.nil_append]
      refine a_ist7 eX6_fewestLifted_26 (by decide) aw_n2i ?_
      refine a_ild7 eX6_fewestLifted_28 ?_
      refine a_ild5 eX6_fewestLifted_30 ?_
      refine a_icmp_ge 55 eX6_fewestLifted_32 (by decide) (by omega) (fun hT32 => ?_) (fun hF32 => ?_)
      · skip
        refine a_iinc6 eX6_fewestLifted_55 (by decide) aw_n2i ?_
        refine a_goto 10 eX6_fewestLifted_58 (by decide) ?_
        have e9 : tlB m h most (i + 1).toNat = tlB m h most i.toNat := by
          rw [es]
          refine if_neg (fun q => ?_)
          unfold fwL at *
          obtain ⟨q1, q2⟩ := q
          split at * <;> omega
        have ih1 := ih (i + 1) (some (.int (jI ((pop i.toNat : Nat) : Int)))) (by omega) (by omega)
        rw [e9] at ih1
        exact ih1
      · skip
        refine a_ald0 eX6_fewestLifted_35 ?_
        refine a_ald1 eX6_fewestLifted_36 ?_
        refine a_ald2 eX6_fewestLifted_37 ?_
        refine a_ild6 eX6_fewestLifted_38 ?_
        refine a_eqtop (y0 := ((i.toNat : Nat) : Int)) (by omega) ?_
        refine a_cV3 eX6_fewestLifted_40 lk_X6_69 mV_X6_deadWay sh_62 ⟨_, rfl, rfl⟩ mt_X6_deadWay rfl rfl rfl rfl rfl rfl rfl (c_X6_deadWay ha hR hC wC hh (by omega) hs hD wD ?_)
        dsimp only [Option.toList, List.cons_append, List.nil_append]
        refine a_ild3 eX6_fewestLifted_43 ?_
        refine a_icmp_gt 55 eX6_fewestLifted_44 (by decide) (by omega) (fun hT44 => ?_) (fun hF44 => ?_)
        · skip
          refine a_iinc6 eX6_fewestLifted_55 (by decide) aw_n2i ?_
          refine a_goto 10 eX6_fewestLifted_58 (by decide) ?_
          have e9 : tlB m h most (i + 1).toNat = tlB m h most i.toNat := by
            rw [es]
            refine if_neg (fun q => ?_)
            unfold fwL at *
            obtain ⟨q1, q2⟩ := q
            split at * <;> omega
          have ih1 := ih (i + 1) (some (.int (jI ((pop i.toNat : Nat) : Int)))) (by omega) (by omega)
          rw [e9] at ih1
          exact ih1
        · skip
          refine a_ild6 eX6_fewestLifted_47 ?_
          refine a_ist4 eX6_fewestLifted_49 (by decide) aw_n2i ?_
          refine a_ild7 eX6_fewestLifted_51 ?_
          refine a_ist5 eX6_fewestLifted_53 (by decide) aw_n2i ?_
          refine a_iinc6 eX6_fewestLifted_55 (by decide) aw_n2i ?_
          refine a_goto 10 eX6_fewestLifted_58 (by decide) ?_
          have q9 : tlB m h most i.toNat = -1 ∨ pop i.toNat < pop (tlB m h most i.toNat).toNat := by
            by_cases z : tlB m h most i.toNat = -1
            · exact Or.inl z
            · right
              unfold fwL at hF32
              rw [if_neg z] at hF32
              omega
          have e9 : tlB m h most (i + 1).toNat = i := by rw [es]; exact if_pos ⟨q9, by omega⟩
          have ih1 := ih (i + 1) (some (.int (jI ((pop i.toNat : Nat) : Int)))) (by omega) (by omega)
          rw [e9, show fwL i = ((pop i.toNat : Nat) : Int) from if_neg (by omega)] at ih1
          exact ih1

set_option maxHeartbeats 4000000 in
set_option maxRecDepth 100000 in
theorem c_X6_fewestLifted {l : Launch} {σ : aw_S} {Post : Option Value → aw_S → Prop} {a : Nat} (ha : isCity a) {tw cs : Bool} (hR : σ.2.2 = RF tw cs) {m : mS} (hC : cityC σ a m) (wC : wfCity m) {h N most : Int} (hh : 0 ≤ h ∧ h ≤ 23) (hmo : 0 ≤ most ∧ most ≤ 2000) (hs : sayOK σ a h) (hD : dayC σ 21 0 m) (wD : wfDay m 0 N) (hk : Post (some (.int (jI (tlB m h most (2 ^ (m 0 1).toNat : Int).toNat)))) σ)  : AE l yX6_fewestLifted cX6_fewestLifted 8 (some .int) 4 93 0 0 SH SH σ [.ref 62, .ref a, .ref 21, .int (jI most)] Post := by
  show AW l yX6_fewestLifted cX6_fewestLifted 8 (some .int) 4 93 0 0 SH Post SH 0 0 σ 0 [some (.ref 62), some (.ref a), some (.ref 21), some (.int (jI most)), none, none, none, none] []
  have hlt := wC.2.2.2.1
  obtain ⟨T, hT⟩ : ∃ T : Int, T = 2 ^ (m 0 1).toNat := ⟨_, rfl⟩
  have hTb := pw_b (k := m 0 1) (by omega)
  rw [← hT] at hTb
  obtain ⟨hT1, hT2, hT3, hT4⟩ := hTb
  have hT3 := hT3 (by omega)
  refine a_iconst eX6_fewestLifted_0 ?_
  refine a_ist4 eX6_fewestLifted_1 (by decide) aw_n2i ?_
  refine a_bipush eX6_fewestLifted_3 (by decide) ?_
  refine a_ist5 eX6_fewestLifted_5 (by decide) aw_n2i ?_
  refine a_iconst eX6_fewestLifted_7 ?_
  refine a_ist6 eX6_fewestLifted_8 (by decide) aw_n2i ?_
  exact lp_few ha hR hC wC hh hmo hs hD wD hk _ 0 none (Nat.le_refl _) (by rw [← hT]; omega)

theorem cityC_1 {σ σ' : aw_S} {t c : Nat} {m : mS} (ht : isCity t) (hc : 21 ≤ c) (h : fr1 c σ σ') (hC : cityC σ t m) : cityC σ' t m := by
  have e : ∀ (a : Nat) (j : Int), a < 21 → σ'.1 a j = σ.1 a j := fun a j h1 => h.1 a j (by omega)
  have ht2 : t ≤ 13 := by rcases ht with rfl | rfl <;> omega
  unfold cityC at hC ⊢
  simp only [fun j => e t j (by omega), fun j => e (t + 1) j (by omega), fun j => e (t + 2) j (by omega), fun j => e (t + 3) j (by omega), fun j => e (t + 4) j (by omega), fun j => e (t + 5) j (by omega), fun j => e (t + 6) j (by omega), fun j => e (t + 7) j (by omega)]
  exact hC
set_option maxHeartbeats 4000000 in
set_option maxRecDepth 100000 in
theorem c_X9_dead {l : Launch} {σ : aw_S} {Post : Option Value → aw_S → Prop} {tw cs : Bool} (hR : σ.2.2 = RF tw cs) {t : Nat} (hct : isCity t) (hrt : RF tw cs 0 1 = some t) {m : mS} (hC : cityC σ t m) (wC : wfCity m) {N : Int} (hD : dayC σ 21 0 m) (wD : wfDay m 0 N) (hN : 0 ≤ N ∧ N ≤ 1000) {h L1 : Int} (hr : (-2147483648 ≤ h ∧ h ≤ 2147483647) ∧ (-2147483648 ≤ L1 ∧ L1 ≤ 2147483647)) (h1 : vdead m h L1 → ∀ σ', fr1 63 σ σ' → Post (some (.int (jI (mdead m h L1.toNat (m 0 4).toNat)))) σ') (h0 : ¬ vdead m h L1 → Post (some (.int (jI (-1)))) σ) : AE l yX9_dead cX9_dead 3 (some .int) 4 93 0 0 SH SH σ [.ref 0, .int (jI h), .int (jI L1)] Post := by
  show AW l yX9_dead cX9_dead 3 (some .int) 4 93 0 0 SH Post SH 0 0 σ 0 [some (.ref 0), some (.int (jI h)), some (.int (jI L1))] []
  obtain ⟨c1, c2, c3, c4, c5, c6, c7, c8⟩ := id hC
  obtain ⟨w1, w2, w3, w4, w5, w6, w7, w8⟩ := id wC
  obtain ⟨d1, d2, d3, d4, d5, d6, d7⟩ := id hD
  obtain ⟨v1, v2, v3, v4, v5, v6, v7, v8⟩ := id wD
  simp only [Int.zero_add] at d4 d5 d6 d7 v4 v5 v6 v7 v8
  have hlt := wC.2.2.2.1
  obtain ⟨T, hT⟩ : ∃ T : Int, T = 2 ^ (m 0 1).toNat := ⟨_, rfl⟩
  have hTb := pw_b (k := m 0 1) (by omega)
  rw [← hT] at hTb
  obtain ⟨hT1, hT2, hT3, hT4⟩ := hTb
  have hT3 := hT3 (by omega)
  refine a_ald0 eX9_dead_0 ?_
  refine a_cV0 eX9_dead_1 lk_X9_129 mV_X9_hasCity sh_0 ⟨_, rfl, rfl⟩ mt_X9_hasCity rfl rfl rfl rfl (c_X9_hasCity hR hct hrt hC wC (fun hT1 => ?_) (fun hF1 => ?_))
  · skip
    dsimp only [Option.toList, List.cons_append, List.nil_append]
    refine a_if_eq 36 eX9_dead_4 (by decide) (by omega) (fun h => absurd h (by decide)) (fun _ => ?_)
    refine a_ild1 eX9_dead_7 ?_
    refine a_iconst eX9_dead_8 ?_
    refine a_bipush eX9_dead_9 (by decide) ?_
    refine a_cS3 eX9_dead_11 lk_X9_81 mS_X9_within mt_X9_within rfl rfl rfl rfl rfl rfl rfl (c_X9_within (by omega) (fun hT11 => ?_) (fun hF11 => ?_))
    · skip
      dsimp only [Option.toList, List.cons_append, List.nil_append]
      refine a_if_eq 36 eX9_dead_14 (by decide) (by omega) (fun h => absurd h (by decide)) (fun _ => ?_)
      refine a_ild2 eX9_dead_17 ?_
      refine a_iconst eX9_dead_18 ?_
      refine a_iconst eX9_dead_19 ?_
      refine a_ald0 eX9_dead_20 ?_
      refine a_getR 1 t eX9_dead_21 fl_X9_19 rfl rfl sh_0 ((congrFun (congrFun hR _) _).trans hrt) ?_
      refine a_getI 4 eX9_dead_24 fl_X9_269 rfl rfl (sh_city hct) ?_
      refine a_eqtop (y0 := m 0 1) (by exact c3) ?_
      refine a_ishl T eX9_dead_27 (by rw [pw_shl (by omega), ← hT]) ?_
      refine a_iconst eX9_dead_28 ?_
      refine a_isub eX9_dead_29 ?_
      refine a_cS3 eX9_dead_30 lk_X9_81 mS_X9_within mt_X9_within rfl rfl rfl rfl rfl rfl rfl (c_X9_within (by omega) (fun hT30 => ?_) (fun hF30 => ?_))
      · skip
        dsimp only [Option.toList, List.cons_append, List.nil_append]
        refine a_if_ne 38 eX9_dead_33 (by decide) (by omega) (fun _ => ?_) (fun h => absurd h (by decide))
        refine a_ald0 eX9_dead_38 ?_
        refine a_getR 7 62 eX9_dead_39 fl_X9_55 rfl rfl sh_0 ((congrFun (congrFun hR _) _).trans rf_0_7) ?_
        refine a_ald0 eX9_dead_42 ?_
        refine a_getR 1 t eX9_dead_43 fl_X9_19 rfl rfl sh_0 ((congrFun (congrFun hR _) _).trans hrt) ?_
        refine a_ild1 eX9_dead_46 ?_
        refine a_cV2 eX9_dead_47 lk_X9_272 mV_X6_prepare sh_62 ⟨_, rfl, rfl⟩ mt_X6_prepare rfl rfl rfl rfl rfl rfl (c_X6_prepare hct hR hC wC (by omega) (fun σ1 f1 hs1 => ?_))
        dsimp only [Option.toList, List.cons_append, List.nil_append]
        have hR : σ1.2.2 = RF tw cs := by rw [f1.2]; exact hR
        have ht2 : t ≤ 13 := by rcases hct with rfl | rfl <;> omega
        have hC1 : cityC σ1 t m := cityC_1 hct (by omega) f1 hC
        have hD1 : dayC σ1 21 0 m := dayC_cong (by omega) hD (fun a j q1 q2 => f1.1 a j (by omega))
        refine a_ald0 eX9_dead_50 ?_
        refine a_getR 7 62 eX9_dead_51 fl_X9_55 rfl rfl sh_0 ((congrFun (congrFun hR _) _).trans rf_0_7) ?_
        refine a_ald0 eX9_dead_54 ?_
        refine a_getR 1 t eX9_dead_55 fl_X9_19 rfl rfl sh_0 ((congrFun (congrFun hR _) _).trans hrt) ?_
        refine a_ald0 eX9_dead_58 ?_
        refine a_getR 2 21 eX9_dead_59 fl_X9_26 rfl rfl sh_0 ((congrFun (congrFun hR _) _).trans rf_0_2) ?_
        refine a_ild2 eX9_dead_62 ?_
        refine a_eqtop (y0 := ((L1.toNat : Nat) : Int)) (by omega) ?_
        refine a_cV3 eX9_dead_63 lk_X9_275 mV_X6_deadWay sh_62 ⟨_, rfl, rfl⟩ mt_X6_deadWay rfl rfl rfl rfl rfl rfl rfl (c_X6_deadWay hct hR hC1 wC (by omega) (by omega) hs1 hD1 wD ?_)
        dsimp only [Option.toList, List.cons_append, List.nil_append]
        refine a_iret eX9_dead_66 rfl rfl ⟨Nat.zero_le _, Nat.zero_le _⟩ ?_
        exact h1 ⟨by omega, by omega, by rw [← hT]; omega⟩ σ1 f1
      · skip
        dsimp only [Option.toList, List.cons_append, List.nil_append]
        refine a_if_ne 38 eX9_dead_33 (by decide) (by omega) (fun h => absurd h (by decide)) (fun _ => ?_)
        refine a_iconst eX9_dead_36 ?_
        refine a_iret eX9_dead_37 rfl rfl ⟨Nat.zero_le _, Nat.zero_le _⟩ ?_
        exact h0 (fun q => by unfold vdead at q; rw [← hT] at q; omega)
    · skip
      dsimp only [Option.toList, List.cons_append, List.nil_append]
      refine a_if_eq 36 eX9_dead_14 (by decide) (by omega) (fun _ => ?_) (fun h => absurd h (by decide))
      refine a_iconst eX9_dead_36 ?_
      refine a_iret eX9_dead_37 rfl rfl ⟨Nat.zero_le _, Nat.zero_le _⟩ ?_
      exact h0 (fun q => by unfold vdead at q; rw [← hT] at q; omega)
  · skip
    dsimp only [Option.toList, List.cons_append, List.nil_append]
    refine a_if_eq 36 eX9_dead_4 (by decide) (by omega) (fun _ => ?_) (fun h => absurd h (by decide))
    refine a_iconst eX9_dead_36 ?_
    refine a_iret eX9_dead_37 rfl rfl ⟨Nat.zero_le _, Nat.zero_le _⟩ ?_
    exact h0 (fun q => by unfold vdead at q; rw [← hT] at q; omega)

set_option maxHeartbeats 4000000 in
set_option maxRecDepth 100000 in
theorem c_X9_toLift {l : Launch} {σ : aw_S} {Post : Option Value → aw_S → Prop} {tw cs : Bool} (hR : σ.2.2 = RF tw cs) {t : Nat} (hct : isCity t) (hrt : RF tw cs 0 1 = some t) {m : mS} (hC : cityC σ t m) (wC : wfCity m) {N : Int} (hD : dayC σ 21 0 m) (wD : wfDay m 0 N) (hN : 0 ≤ N ∧ N ≤ 1000) {h most : Int} (hr : (-2147483648 ≤ h ∧ h ≤ 2147483647) ∧ (-2147483648 ≤ most ∧ most ≤ 2147483647)) (h1 : vlift m h most → ∀ σ', fr1 63 σ σ' → Post (some (.int (jI (tlB m h most (2 ^ (m 0 1).toNat : Int).toNat)))) σ') (h0 : ¬ vlift m h most → Post (some (.int (jI (-1)))) σ) : AE l yX9_toLift cX9_toLift 3 (some .int) 5 120 0 0 SH SH σ [.ref 0, .int (jI h), .int (jI most)] Post := by
  show AW l yX9_toLift cX9_toLift 3 (some .int) 5 120 0 0 SH Post SH 0 0 σ 0 [some (.ref 0), some (.int (jI h)), some (.int (jI most))] []
  obtain ⟨c1, c2, c3, c4, c5, c6, c7, c8⟩ := id hC
  obtain ⟨w1, w2, w3, w4, w5, w6, w7, w8⟩ := id wC
  obtain ⟨d1, d2, d3, d4, d5, d6, d7⟩ := id hD
  obtain ⟨v1, v2, v3, v4, v5, v6, v7, v8⟩ := id wD
  simp only [Int.zero_add] at d4 d5 d6 d7 v4 v5 v6 v7 v8
  refine a_ald0 eX9_toLift_0 ?_
  refine a_cV0 eX9_toLift_1 lk_X9_129 mV_X9_hasCity sh_0 ⟨_, rfl, rfl⟩ mt_X9_hasCity rfl rfl rfl rfl (c_X9_hasCity hR hct hrt hC wC (fun hT1 => ?_) (fun hF1 => ?_))
  · skip
    dsimp only [Option.toList, List.cons_append, List.nil_append]
    refine a_if_eq 28 eX9_toLift_4 (by decide) (by omega) (fun h => absurd h (by decide)) (fun _ => ?_)
    refine a_ild1 eX9_toLift_7 ?_
    refine a_iconst eX9_toLift_8 ?_
    refine a_bipush eX9_toLift_9 (by decide) ?_
    refine a_cS3 eX9_toLift_11 lk_X9_81 mS_X9_within mt_X9_within rfl rfl rfl rfl rfl rfl rfl (c_X9_within (by omega) (fun hT11 => ?_) (fun hF11 => ?_))
    · skip
      dsimp only [Option.toList, List.cons_append, List.nil_append]
      refine a_if_eq 28 eX9_toLift_14 (by decide) (by omega) (fun h => absurd h (by decide)) (fun _ => ?_)
      refine a_ild2 eX9_toLift_17 ?_
      refine a_iconst eX9_toLift_18 ?_
      refine a_sipush eX9_toLift_19 (by decide) ?_
      refine a_cS3 eX9_toLift_22 lk_X9_81 mS_X9_within mt_X9_within rfl rfl rfl rfl rfl rfl rfl (c_X9_within (by omega) (fun hT22 => ?_) (fun hF22 => ?_))
      · skip
        dsimp only [Option.toList, List.cons_append, List.nil_append]
        refine a_if_ne 30 eX9_toLift_25 (by decide) (by omega) (fun _ => ?_) (fun h => absurd h (by decide))
        refine a_ald0 eX9_toLift_30 ?_
        refine a_getR 7 62 eX9_toLift_31 fl_X9_55 rfl rfl sh_0 ((congrFun (congrFun hR _) _).trans rf_0_7) ?_
        refine a_ald0 eX9_toLift_34 ?_
        refine a_getR 1 t eX9_toLift_35 fl_X9_19 rfl rfl sh_0 ((congrFun (congrFun hR _) _).trans hrt) ?_
        refine a_ild1 eX9_toLift_38 ?_
        refine a_cV2 eX9_toLift_39 lk_X9_272 mV_X6_prepare sh_62 ⟨_, rfl, rfl⟩ mt_X6_prepare rfl rfl rfl rfl rfl rfl (c_X6_prepare hct hR hC wC (by omega) (fun σ1 f1 hs1 => ?_))
        dsimp only [Option.toList, List.cons_append, List.nil_append]
        have hR : σ1.2.2 = RF tw cs := by rw [f1.2]; exact hR
        have ht2 : t ≤ 13 := by rcases hct with rfl | rfl <;> omega
        have hC1 : cityC σ1 t m := cityC_1 hct (by omega) f1 hC
        have hD1 : dayC σ1 21 0 m := dayC_cong (by omega) hD (fun a j q1 q2 => f1.1 a j (by omega))
        refine a_ald0 eX9_toLift_42 ?_
        refine a_getR 7 62 eX9_toLift_43 fl_X9_55 rfl rfl sh_0 ((congrFun (congrFun hR _) _).trans rf_0_7) ?_
        refine a_ald0 eX9_toLift_46 ?_
        refine a_getR 1 t eX9_toLift_47 fl_X9_19 rfl rfl sh_0 ((congrFun (congrFun hR _) _).trans hrt) ?_
        refine a_ald0 eX9_toLift_50 ?_
        refine a_getR 2 21 eX9_toLift_51 fl_X9_26 rfl rfl sh_0 ((congrFun (congrFun hR _) _).trans rf_0_2) ?_
        refine a_ild2 eX9_toLift_54 ?_
        refine a_cV3 eX9_toLift_55 lk_X9_279 mV_X6_fewestLifted sh_62 ⟨_, rfl, rfl⟩ mt_X6_fewestLifted rfl rfl rfl rfl rfl rfl rfl (c_X6_fewestLifted hct hR hC1 wC (by omega) (by omega) hs1 hD1 wD ?_)
        dsimp only [Option.toList, List.cons_append, List.nil_append]
        refine a_iret eX9_toLift_58 rfl rfl ⟨Nat.zero_le _, Nat.zero_le _⟩ ?_
        exact h1 ⟨by omega, by omega, by omega⟩ σ1 f1
      · skip
        dsimp only [Option.toList, List.cons_append, List.nil_append]
        refine a_if_ne 30 eX9_toLift_25 (by decide) (by omega) (fun h => absurd h (by decide)) (fun _ => ?_)
        refine a_iconst eX9_toLift_28 ?_
        refine a_iret eX9_toLift_29 rfl rfl ⟨Nat.zero_le _, Nat.zero_le _⟩ ?_
        exact h0 (fun q => by unfold vlift at q; omega)
    · skip
      dsimp only [Option.toList, List.cons_append, List.nil_append]
      refine a_if_eq 28 eX9_toLift_14 (by decide) (by omega) (fun _ => ?_) (fun h => absurd h (by decide))
      refine a_iconst eX9_toLift_28 ?_
      refine a_iret eX9_toLift_29 rfl rfl ⟨Nat.zero_le _, Nat.zero_le _⟩ ?_
      exact h0 (fun q => by unfold vlift at q; omega)
  · skip
    dsimp only [Option.toList, List.cons_append, List.nil_append]
    refine a_if_eq 28 eX9_toLift_4 (by decide) (by omega) (fun _ => ?_) (fun h => absurd h (by decide))
    refine a_iconst eX9_toLift_28 ?_
    refine a_iret eX9_toLift_29 rfl rfl ⟨Nat.zero_le _, Nat.zero_le _⟩ ?_
    exact h0 (fun q => by unfold vlift at q; omega)

set_option maxHeartbeats 4000000 in
set_option maxRecDepth 100000 in
theorem lp_dbI {l : Launch} {σ : aw_S} {Post : Option Value → aw_S → Prop} {tw cs : Bool} (hR : σ.2.2 = RF tw cs) {m : mS} (hM : cityM σ m) (wC : wfCity m) {N : Int} (hM2 : dayM σ m) (wD : wfDay m 0 N) (hN : 0 ≤ N ∧ N ≤ 1000) {h : Int} {L : Nat} (hh : 0 ≤ h ∧ h ≤ 23) (hL : L < 256) {c : Int} {all : Option Value} (hc : 0 ≤ c ∧ c < m 0 4) (h2 : m (100 + c) 1 = 0) (hk : AW l yX10_deadBy cX10_deadBy 7 (some .int) 2 48 0 0 SH Post SH 0 0 (σ) 91 [some (.ref 171), some (.int (jI h)), some (.int (jI (L : Int))), all, some (.int (jI c)), some (.int (jI (wayR m c h L (m 0 0).toNat))), some (.int (jI (m 0 0)))] [])  : ∀ (n : Nat) (i : Int), ((m 0 0 - i).toNat ≤ n) → (0 ≤ i ∧ i ≤ m 0 0) → AW l yX10_deadBy cX10_deadBy 7 (some .int) 2 48 0 0 SH Post SH 0 0 (σ) 34 [some (.ref 171), some (.int (jI h)), some (.int (jI (L : Int))), all, some (.int (jI c)), some (.int (jI (wayR m c h L i.toNat))), some (.int (jI i))] [] := by
  intro n
  induction n with
  | zero =>
    intro i hm hi
    obtain ⟨c1, c2, c3, c4, c5, c6, c7⟩ := id hM
    obtain ⟨w1, w2, w3, w4, w5, w6, w7, w8⟩ := id wC
    obtain ⟨d1, d2, d3, d4, d5, d6, d7⟩ := id hM2
    obtain ⟨v1, v2, v3, v4, v5, v6, v7, v8⟩ := id wD
    simp only [Int.zero_add] at d4 d5 d6 d7 v4 v5 v6 v7 v8
    have w5 := v5 c (by omega) (by omega)
    unfold wfCab at w5
    have kc := d5 c (by omega) (by omega)
    unfold cabM at kc
    obtain ⟨k0, k9, k1, k2, k3, k4, k5, k6, k7, k8, k10⟩ := kc
    have k1 := k1 (Or.inl h2)
    have es := wayR_s (m := m) (c := c) (h := h) (L := L) (i := i) (by omega)
    have hw := wayR_b wC (c := c) (h := h) (L := L) (by omega) i.toNat (by omega)
    refine a_ild6 eX10_deadBy_34 ?_
    refine a_ald0 eX10_deadBy_36 ?_
    refine a_getI 14 eX10_deadBy_37 fl_X10_235 rfl rfl sh_171 ?_
    refine a_eqtop (y0 := m 0 0) (by exact c1) ?_
    refine a_icmp_ge 91 eX10_deadBy_40 (by decide) (by omega) (fun hT40 => ?_) (fun hF40 => ?_)
    · skip
      rw [show i = m 0 0 by omega]
      exact hk
    · skip
      exfalso; omega
  | succ n ih =>
    intro i hm hi
    obtain ⟨c1, c2, c3, c4, c5, c6, c7⟩ := id hM
    obtain ⟨w1, w2, w3, w4, w5, w6, w7, w8⟩ := id wC
    obtain ⟨d1, d2, d3, d4, d5, d6, d7⟩ := id hM2
    obtain ⟨v1, v2, v3, v4, v5, v6, v7, v8⟩ := id wD
    simp only [Int.zero_add] at d4 d5 d6 d7 v4 v5 v6 v7 v8
    have w5 := v5 c (by omega) (by omega)
    unfold wfCab at w5
    have kc := d5 c (by omega) (by omega)
    unfold cabM at kc
    obtain ⟨k0, k9, k1, k2, k3, k4, k5, k6, k7, k8, k10⟩ := kc
    have k1 := k1 (Or.inl h2)
    have es := wayR_s (m := m) (c := c) (h := h) (L := L) (i := i) (by omega)
    have hw := wayR_b wC (c := c) (h := h) (L := L) (by omega) i.toNat (by omega)
    refine a_ild6 eX10_deadBy_34 ?_
    refine a_ald0 eX10_deadBy_36 ?_
    refine a_getI 14 eX10_deadBy_37 fl_X10_235 rfl rfl sh_171 ?_
    refine a_eqtop (y0 := m 0 0) (by exact c1) ?_
    refine a_icmp_ge 91 eX10_deadBy_40 (by decide) (by omega) (fun hT40 => ?_) (fun hF40 => ?_)
    · skip
      rw [show i = m 0 0 by omega]
      exact hk
    · skip
      have y2i := w2 i (by omega) (by omega)
      have c2i := c2 i (by omega) (by omega)
      have hab := aw_ap_b (a := m (100 + c) 2) (b := m 1 i) (by omega) (by omega)
      refine a_ald0 eX10_deadBy_43 ?_
      refine a_ild6 eX10_deadBy_44 ?_
      refine a_ald0 eX10_deadBy_46 ?_
      refine a_ild4 eX10_deadBy_47 ?_
      refine a_bipush eX10_deadBy_49 (by decide) ?_
      refine a_cV2 eX10_deadBy_51 lk_X10_276 mV_X10_of0 sh_171 ⟨_, rfl, rfl⟩ mt_X10_of0 rfl rfl rfl rfl rfl rfl (c_X10_of0 hR (by omega) ?_)
      dsimp only [Option.toList, List.cons_append, List.nil_append]
      refine a_eqtop (y0 := m (100 + c) 0) (by exact k9) ?_
      refine a_ild1 eX10_deadBy_54 ?_
      refine a_ild2 eX10_deadBy_55 ?_
      refine a_cV4 eX10_deadBy_56 lk_X10_258 mV_X10_canStand sh_171 ⟨_, rfl, rfl⟩ mt_X10_canStand rfl rfl rfl rfl rfl rfl rfl rfl (c_X10_canStand hR hM wC (by omega) (by omega) hh hL (fun hT56 => ?_) (fun hF56 => ?_))
      · skip
        dsimp only [Option.toList, List.cons_append, List.nil_append]
        refine a_if_eq 85 eX10_deadBy_59 (by decide) (by omega) (fun h => absurd h (by decide)) (fun _ => ?_)
        refine a_ild5 eX10_deadBy_62 ?_
        refine a_ald0 eX10_deadBy_64 ?_
        refine a_ild4 eX10_deadBy_65 ?_
        refine a_iconst eX10_deadBy_67 ?_
        refine a_cV2 eX10_deadBy_68 lk_X10_276 mV_X10_of0 sh_171 ⟨_, rfl, rfl⟩ mt_X10_of0 rfl rfl rfl rfl rfl rfl (c_X10_of0 hR (by omega) ?_)
        dsimp only [Option.toList, List.cons_append, List.nil_append]
        refine a_eqtop (y0 := m (100 + c) 2) (by exact k1) ?_
        refine a_ald0 eX10_deadBy_71 ?_
        refine a_ild6 eX10_deadBy_72 ?_
        refine a_cV1 eX10_deadBy_74 lk_X10_279 mV_X10_place sh_171 ⟨_, rfl, rfl⟩ mt_X10_place rfl rfl rfl rfl rfl (c_X10_place hR (by omega) ?_)
        dsimp only [Option.toList, List.cons_append, List.nil_append]
        refine a_eqtop (y0 := m 1 i) (by exact c2i.1) ?_
        refine a_cS2 eX10_deadBy_77 lk_X10_296 mS_X10_apart mt_X10_apart rfl rfl rfl rfl rfl rfl (c_X10_apart (by omega) ?_)
        dsimp only [Option.toList, List.cons_append, List.nil_append]
        refine a_mmin eX10_deadBy_80 lk_X10_356 (by omega) rfl rfl ?_
        refine a_eqtop (y0 := min (wayR m c h L i.toNat) (aw_ap (m 1 i) (m (100 + c) 2))) (by rw [aw_ap_comm (m 1 i), Int.min_def]; split <;> split <;> omega) ?_
        refine a_ist5 eX10_deadBy_83 (by decide) aw_n2i ?_
        refine a_iinc6 eX10_deadBy_85 (by decide) aw_n2i ?_
        refine a_goto 34 eX10_deadBy_88 (by decide) ?_
        have ih1 := ih (i + 1) (by omega) (by omega)
        rw [es] at ih1
        first
          | (rw [if_pos hT56] at ih1; exact ih1)
          | (rw [if_neg hF56] at ih1; exact ih1)
      · skip
        dsimp only [Option.toList, List.cons_append, List.nil_append]
        refine a_if_eq 85 eX10_deadBy_59 (by decide) (by omega) (fun _ => ?_) (fun h => absurd h (by decide))
        refine a_iinc6 eX10_deadBy_85 (by decide) aw_n2i ?_
        refine a_goto 34 eX10_deadBy_88 (by decide) ?_
        have ih1 := ih (i + 1) (by omega) (by omega)
        rw [es] at ih1
        first
          | (rw [if_pos hT56] at ih1; exact ih1)
          | (rw [if_neg hF56] at ih1; exact ih1)

set_option maxHeartbeats 4000000 in
set_option maxRecDepth 100000 in
theorem lp_dbO {l : Launch} {σ : aw_S} {Post : Option Value → aw_S → Prop} {tw cs : Bool} (hR : σ.2.2 = RF tw cs) {m : mS} (hM : cityM σ m) (wC : wfCity m) {N : Int} (hM2 : dayM σ m) (wD : wfDay m 0 N) (hN : 0 ≤ N ∧ N ≤ 1000) {h : Int} {L : Nat} (hh : 0 ≤ h ∧ h ≤ 23) (hL : L < 256) (hk : Post (some (.int (jI (mdead m h L (m 0 4).toNat)))) σ)  : ∀ (n : Nat) (i : Int) (lx : Option Value) (ly : Option Value), ((m 0 4 - i).toNat ≤ n) → (0 ≤ i ∧ i ≤ m 0 4) → AW l yX10_deadBy cX10_deadBy 7 (some .int) 2 48 0 0 SH Post SH 0 0 (σ) 5 [some (.ref 171), some (.int (jI h)), some (.int (jI (L : Int))), some (.int (jI (mdead m h L i.toNat))), some (.int (jI i)), lx, ly] [] := by
  intro n
  induction n with
  | zero =>
    intro i lx ly hm hi
    obtain ⟨c1, c2, c3, c4, c5, c6, c7⟩ := id hM
    obtain ⟨w1, w2, w3, w4, w5, w6, w7, w8⟩ := id wC
    obtain ⟨d1, d2, d3, d4, d5, d6, d7⟩ := id hM2
    obtain ⟨v1, v2, v3, v4, v5, v6, v7, v8⟩ := id wD
    simp only [Int.zero_add] at d4 d5 d6 d7 v4 v5 v6 v7 v8
    have es := mdead_s (m := m) (h := h) (L := L) (i := i) (by omega)
    have hw := mdead_b wC wD (h := h) (L := L) i.toNat (by omega)
    refine a_ild4 eX10_deadBy_5 ?_
    refine a_ald0 eX10_deadBy_7 ?_
    refine a_getI 22 eX10_deadBy_8 fl_X10_246 rfl rfl sh_171 ?_
    refine a_eqtop (y0 := m 0 4) (by exact d2) ?_
    refine a_icmp_ge 102 eX10_deadBy_11 (by decide) (by omega) (fun hT11 => ?_) (fun hF11 => ?_)
    · skip
      refine a_ild3 eX10_deadBy_102 ?_
      refine a_iret eX10_deadBy_103 rfl rfl ⟨Nat.zero_le _, Nat.zero_le _⟩ ?_
      rw [show (m 0 4).toNat = i.toNat by omega] at hk
      exact hk
    · skip
      exfalso; omega
  | succ n ih =>
    intro i lx ly hm hi
    obtain ⟨c1, c2, c3, c4, c5, c6, c7⟩ := id hM
    obtain ⟨w1, w2, w3, w4, w5, w6, w7, w8⟩ := id wC
    obtain ⟨d1, d2, d3, d4, d5, d6, d7⟩ := id hM2
    obtain ⟨v1, v2, v3, v4, v5, v6, v7, v8⟩ := id wD
    simp only [Int.zero_add] at d4 d5 d6 d7 v4 v5 v6 v7 v8
    have es := mdead_s (m := m) (h := h) (L := L) (i := i) (by omega)
    have hw := mdead_b wC wD (h := h) (L := L) i.toNat (by omega)
    refine a_ild4 eX10_deadBy_5 ?_
    refine a_ald0 eX10_deadBy_7 ?_
    refine a_getI 22 eX10_deadBy_8 fl_X10_246 rfl rfl sh_171 ?_
    refine a_eqtop (y0 := m 0 4) (by exact d2) ?_
    refine a_icmp_ge 102 eX10_deadBy_11 (by decide) (by omega) (fun hT11 => ?_) (fun hF11 => ?_)
    · skip
      refine a_ild3 eX10_deadBy_102 ?_
      refine a_iret eX10_deadBy_103 rfl rfl ⟨Nat.zero_le _, Nat.zero_le _⟩ ?_
      rw [show (m 0 4).toNat = i.toNat by omega] at hk
      exact hk
    · skip
      have w5 := v5 i (by omega) (by omega)
      unfold wfCab at w5
      have kc := d5 i (by omega) (by omega)
      unfold cabM at kc
      have hwr := wayR_b wC (c := i) (h := h) (L := L) (by omega) (m 0 0).toNat (by omega)
      refine a_ald0 eX10_deadBy_14 ?_
      refine a_ild4 eX10_deadBy_15 ?_
      refine a_iconst eX10_deadBy_17 ?_
      refine a_cV2 eX10_deadBy_18 lk_X10_276 mV_X10_of0 sh_171 ⟨_, rfl, rfl⟩ mt_X10_of0 rfl rfl rfl rfl rfl rfl (c_X10_of0 hR (by omega) ?_)
      dsimp only [Option.toList, List.cons_append, List.nil_append]
      refine a_eqtop (y0 := m (100 + i) 1) (by rw [Int.add_zero]; exact kc.1) ?_
      refine a_if_eq 27 eX10_deadBy_21 (by decide) (by omega) (fun hT21 => ?_) (fun hF21 => ?_)
      · skip
        refine a_bipush eX10_deadBy_27 (by decide) ?_
        refine a_ist5 eX10_deadBy_29 (by decide) aw_n2i ?_
        refine a_iconst eX10_deadBy_31 ?_
        refine a_ist6 eX10_deadBy_32 (by decide) aw_n2i ?_
        refine lp_dbI hR hM wC hM2 wD hN hh hL (c := i) (by omega) hT21 ?_ _ 0 (Nat.le_refl _) (by omega)
        refine a_ild3 eX10_deadBy_91 ?_
        refine a_ild5 eX10_deadBy_92 ?_
        refine a_iadd eX10_deadBy_94 ?_
        refine a_ist3 eX10_deadBy_95 (by decide) aw_n2i ?_
        refine a_iinc4 eX10_deadBy_96 (by decide) aw_n2i ?_
        refine a_goto 5 eX10_deadBy_99 (by decide) ?_
        have e9 := es.trans (if_pos (by omega))
        rw [← e9]
        exact ih (i + 1) _ _ (by omega) (by omega)
      · skip
        refine a_goto 96 eX10_deadBy_24 (by decide) ?_
        refine a_iinc4 eX10_deadBy_96 (by decide) aw_n2i ?_
        refine a_goto 5 eX10_deadBy_99 (by decide) ?_
        have e9 := es.trans (if_neg (by omega))
        rw [← e9]
        exact ih (i + 1) _ _ (by omega) (by omega)

set_option maxHeartbeats 4000000 in
set_option maxRecDepth 100000 in
theorem c_X10_deadBy {l : Launch} {σ : aw_S} {Post : Option Value → aw_S → Prop} {tw cs : Bool} (hR : σ.2.2 = RF tw cs) {m : mS} (hM : cityM σ m) (wC : wfCity m) {N : Int} (hM2 : dayM σ m) (wD : wfDay m 0 N) (hN : 0 ≤ N ∧ N ≤ 1000) {h : Int} {L : Nat} (hh : 0 ≤ h ∧ h ≤ 23) (hL : L < 256) (hk : Post (some (.int (jI (mdead m h L (m 0 4).toNat)))) σ)  : AE l yX10_deadBy cX10_deadBy 7 (some .int) 2 48 0 0 SH SH σ [.ref 171, .int (jI h), .int (jI (L : Int))] Post := by
  show AW l yX10_deadBy cX10_deadBy 7 (some .int) 2 48 0 0 SH Post SH 0 0 σ 0 [some (.ref 171), some (.int (jI h)), some (.int (jI (L : Int))), none, none, none, none] []
  have h16 := (wfDay_0 wD).2.1
  refine a_iconst eX10_deadBy_0 ?_
  refine a_ist3 eX10_deadBy_1 (by decide) aw_n2i ?_
  refine a_iconst eX10_deadBy_2 ?_
  refine a_ist4 eX10_deadBy_3 (by decide) aw_n2i ?_
  exact lp_dbO hR hM wC hM2 wD hN hh hL hk _ 0 none none (Nat.le_refl _) (by omega)

set_option maxHeartbeats 4000000 in
set_option maxRecDepth 100000 in
theorem c_X10_dead {l : Launch} {σ : aw_S} {Post : Option Value → aw_S → Prop} {tw cs : Bool} (hR : σ.2.2 = RF tw cs) {m : mS} (hM : cityM σ m) (wC : wfCity m) {N : Int} (hM2 : dayM σ m) (wD : wfDay m 0 N) (hN : 0 ≤ N ∧ N ≤ 1000) {h L1 : Int} (hr : (-2147483648 ≤ h ∧ h ≤ 2147483647) ∧ (-2147483648 ≤ L1 ∧ L1 ≤ 2147483647)) (h1 : vdead m h L1 → Post (some (.int (jI (mdead m h L1.toNat (m 0 4).toNat)))) σ) (h0 : ¬ vdead m h L1 → Post (some (.int (jI (-1)))) σ) : AE l yX10_dead cX10_dead 3 (some .int) 3 74 0 0 SH SH σ [.ref 171, .int (jI h), .int (jI L1)] Post := by
  show AW l yX10_dead cX10_dead 3 (some .int) 3 74 0 0 SH Post SH 0 0 σ 0 [some (.ref 171), some (.int (jI h)), some (.int (jI L1))] []
  obtain ⟨c1, c2, c3, c4, c5, c6, c7⟩ := id hM
  obtain ⟨w1, w2, w3, w4, w5, w6, w7, w8⟩ := id wC
  obtain ⟨d1, d2, d3, d4, d5, d6, d7⟩ := id hM2
  obtain ⟨v1, v2, v3, v4, v5, v6, v7, v8⟩ := id wD
  simp only [Int.zero_add] at d4 d5 d6 d7 v4 v5 v6 v7 v8
  have hlt := wC.2.2.2.1
  obtain ⟨T, hT⟩ : ∃ T : Int, T = 2 ^ (m 0 1).toNat := ⟨_, rfl⟩
  have hTb := pw_b (k := m 0 1) (by omega)
  rw [← hT] at hTb
  obtain ⟨hT1, hT2, hT3, hT4⟩ := hTb
  have hT3 := hT3 (by omega)
  refine a_ald0 eX10_dead_0 ?_
  refine a_getI 14 eX10_dead_1 fl_X10_235 rfl rfl sh_171 ?_
  refine a_if_le 42 eX10_dead_4 (by decide) (by omega) (fun hT4 => ?_) (fun hF4 => ?_)
  · skip
    refine a_iconst eX10_dead_42 ?_
    refine a_iret eX10_dead_43 rfl rfl ⟨Nat.zero_le _, Nat.zero_le _⟩ ?_
    exact h0 (fun q => by unfold vdead at q; rw [← hT] at q; omega)
  · skip
    refine a_ild1 eX10_dead_7 ?_
    refine a_iconst eX10_dead_8 ?_
    refine a_bipush eX10_dead_9 (by decide) ?_
    refine a_cS3 eX10_dead_11 lk_X10_128 mS_X10_in mt_X10_in rfl rfl rfl rfl rfl rfl rfl (c_X10_in (by omega) (fun hT11 => ?_) (fun hF11 => ?_))
    · skip
      dsimp only [Option.toList, List.cons_append, List.nil_append]
      refine a_if_eq 42 eX10_dead_14 (by decide) (by omega) (fun h => absurd h (by decide)) (fun _ => ?_)
      refine a_ild2 eX10_dead_17 ?_
      refine a_iconst eX10_dead_18 ?_
      refine a_iconst eX10_dead_19 ?_
      refine a_ald0 eX10_dead_20 ?_
      refine a_getI 16 eX10_dead_21 fl_X10_238 rfl rfl sh_171 ?_
      refine a_eqtop (y0 := m 0 1) (by exact c3) ?_
      refine a_ishl T eX10_dead_24 (by rw [pw_shl (by omega), ← hT]) ?_
      refine a_iconst eX10_dead_25 ?_
      refine a_isub eX10_dead_26 ?_
      refine a_cS3 eX10_dead_27 lk_X10_128 mS_X10_in mt_X10_in rfl rfl rfl rfl rfl rfl rfl (c_X10_in (by omega) (fun hT27 => ?_) (fun hF27 => ?_))
      · skip
        dsimp only [Option.toList, List.cons_append, List.nil_append]
        refine a_if_eq 42 eX10_dead_30 (by decide) (by omega) (fun h => absurd h (by decide)) (fun _ => ?_)
        refine a_ald0 eX10_dead_33 ?_
        refine a_ild1 eX10_dead_34 ?_
        refine a_ild2 eX10_dead_35 ?_
        refine a_eqtop (y0 := ((L1.toNat : Nat) : Int)) (by omega) ?_
        refine a_cV2 eX10_dead_36 lk_X10_359 mV_X10_deadBy sh_171 ⟨_, rfl, rfl⟩ mt_X10_deadBy rfl rfl rfl rfl rfl rfl (c_X10_deadBy hR hM wC hM2 wD hN (by omega) (by omega) ?_)
        dsimp only [Option.toList, List.cons_append, List.nil_append]
        refine a_goto 43 eX10_dead_39 (by decide) ?_
        refine a_iret eX10_dead_43 rfl rfl ⟨Nat.zero_le _, Nat.zero_le _⟩ ?_
        exact h1 ⟨by omega, by omega, by rw [← hT]; omega⟩
      · skip
        dsimp only [Option.toList, List.cons_append, List.nil_append]
        refine a_if_eq 42 eX10_dead_30 (by decide) (by omega) (fun _ => ?_) (fun h => absurd h (by decide))
        refine a_iconst eX10_dead_42 ?_
        refine a_iret eX10_dead_43 rfl rfl ⟨Nat.zero_le _, Nat.zero_le _⟩ ?_
        exact h0 (fun q => by unfold vdead at q; rw [← hT] at q; omega)
    · skip
      dsimp only [Option.toList, List.cons_append, List.nil_append]
      refine a_if_eq 42 eX10_dead_14 (by decide) (by omega) (fun _ => ?_) (fun h => absurd h (by decide))
      refine a_iconst eX10_dead_42 ?_
      refine a_iret eX10_dead_43 rfl rfl ⟨Nat.zero_le _, Nat.zero_le _⟩ ?_
      exact h0 (fun q => by unfold vdead at q; rw [← hT] at q; omega)

set_option maxHeartbeats 4000000 in
set_option maxRecDepth 100000 in
theorem lp_tlM {l : Launch} {σ : aw_S} {Post : Option Value → aw_S → Prop} {tw cs : Bool} (hR : σ.2.2 = RF tw cs) {m : mS} (hM : cityM σ m) (wC : wfCity m) {N : Int} (hM2 : dayM σ m) (wD : wfDay m 0 N) (hN : 0 ≤ N ∧ N ≤ 1000) {h most : Int} (hh : 0 ≤ h ∧ h ≤ 23) (hmo : 0 ≤ most ∧ most ≤ 2000) (hk : Post (some (.int (jI (tlB m h most (2 ^ (m 0 1).toNat : Int).toNat)))) σ)  : ∀ (n : Nat) (i : Int), (((2 : Int) ^ (m 0 1).toNat - i).toNat ≤ n) → (0 ≤ i ∧ i ≤ 2 ^ (m 0 1).toNat) → AW l yX10_toLift cX10_toLift 5 (some .int) 3 74 0 0 SH Post SH 0 0 (σ) 35 [some (.ref 171), some (.int (jI h)), some (.int (jI most)), some (.int (jI (tlB m h most i.toNat))), some (.int (jI i))] [] := by
  intro n
  induction n with
  | zero =>
    intro i hm hi
    obtain ⟨c1, c2, c3, c4, c5, c6, c7⟩ := id hM
    obtain ⟨w1, w2, w3, w4, w5, w6, w7, w8⟩ := id wC
    obtain ⟨d1, d2, d3, d4, d5, d6, d7⟩ := id hM2
    obtain ⟨v1, v2, v3, v4, v5, v6, v7, v8⟩ := id wD
    simp only [Int.zero_add] at d4 d5 d6 d7 v4 v5 v6 v7 v8
    have hlt := wC.2.2.2.1
    obtain ⟨T, hT⟩ : ∃ T : Int, T = 2 ^ (m 0 1).toNat := ⟨_, rfl⟩
    have hTb := pw_b (k := m 0 1) (by omega)
    rw [← hT] at hTb
    obtain ⟨hT1, hT2, hT3, hT4⟩ := hTb
    have hT3 := hT3 (by omega)
    rw [← hT] at hi hm
    have hb := tlB_b (m := m) (h := h) (most := most) i.toNat
    have es := tlB_s (m := m) (h := h) (most := most) (i := i) (by omega)
    have hp16 := popN_le i.toNat 16
    have hq16 := popN_le (tlB m h most i.toNat).toNat 16
    have hp1 : pop i.toNat = popN i.toNat 16 := rfl
    have hq1 : pop (tlB m h most i.toNat).toNat = popN (tlB m h most i.toNat).toNat 16 := rfl
    have hwb := mdead_b wC wD (h := h) (L := i.toNat) (m 0 4).toNat (by omega)
    refine a_ild4 eX10_toLift_35 ?_
    refine a_iconst eX10_toLift_37 ?_
    refine a_ald0 eX10_toLift_38 ?_
    refine a_getI 16 eX10_toLift_39 fl_X10_238 rfl rfl sh_171 ?_
    refine a_eqtop (y0 := m 0 1) (by exact c3) ?_
    refine a_ishl T eX10_toLift_42 (by rw [pw_shl (by omega), ← hT]) ?_
    refine a_icmp_ge 83 eX10_toLift_43 (by decide) (by omega) (fun hT43 => ?_) (fun hF43 => ?_)
    · skip
      refine a_ild3 eX10_toLift_83 ?_
      refine a_iret eX10_toLift_84 rfl rfl ⟨Nat.zero_le _, Nat.zero_le _⟩ ?_
      rw [← hT, show T = i by omega] at hk
      exact hk
    · skip
      exfalso; omega
  | succ n ih =>
    intro i hm hi
    obtain ⟨c1, c2, c3, c4, c5, c6, c7⟩ := id hM
    obtain ⟨w1, w2, w3, w4, w5, w6, w7, w8⟩ := id wC
    obtain ⟨d1, d2, d3, d4, d5, d6, d7⟩ := id hM2
    obtain ⟨v1, v2, v3, v4, v5, v6, v7, v8⟩ := id wD
    simp only [Int.zero_add] at d4 d5 d6 d7 v4 v5 v6 v7 v8
    have hlt := wC.2.2.2.1
    obtain ⟨T, hT⟩ : ∃ T : Int, T = 2 ^ (m 0 1).toNat := ⟨_, rfl⟩
    have hTb := pw_b (k := m 0 1) (by omega)
    rw [← hT] at hTb
    obtain ⟨hT1, hT2, hT3, hT4⟩ := hTb
    have hT3 := hT3 (by omega)
    rw [← hT] at hi hm
    have hb := tlB_b (m := m) (h := h) (most := most) i.toNat
    have es := tlB_s (m := m) (h := h) (most := most) (i := i) (by omega)
    have hp16 := popN_le i.toNat 16
    have hq16 := popN_le (tlB m h most i.toNat).toNat 16
    have hp1 : pop i.toNat = popN i.toNat 16 := rfl
    have hq1 : pop (tlB m h most i.toNat).toNat = popN (tlB m h most i.toNat).toNat 16 := rfl
    have hwb := mdead_b wC wD (h := h) (L := i.toNat) (m 0 4).toNat (by omega)
    refine a_ild4 eX10_toLift_35 ?_
    refine a_iconst eX10_toLift_37 ?_
    refine a_ald0 eX10_toLift_38 ?_
    refine a_getI 16 eX10_toLift_39 fl_X10_238 rfl rfl sh_171 ?_
    refine a_eqtop (y0 := m 0 1) (by exact c3) ?_
    refine a_ishl T eX10_toLift_42 (by rw [pw_shl (by omega), ← hT]) ?_
    refine a_icmp_ge 83 eX10_toLift_43 (by decide) (by omega) (fun hT43 => ?_) (fun hF43 => ?_)
    · skip
      refine a_ild3 eX10_toLift_83 ?_
      refine a_iret eX10_toLift_84 rfl rfl ⟨Nat.zero_le _, Nat.zero_le _⟩ ?_
      rw [← hT, show T = i by omega] at hk
      exact hk
    · skip
      refine a_ild3 eX10_toLift_46 ?_
      refine a_iconst eX10_toLift_47 ?_
      refine a_icmp_eq 63 eX10_toLift_48 (by decide) (by omega) (fun hT48 => ?_) (fun hF48 => ?_)
      · skip
        refine a_ald0 eX10_toLift_63 ?_
        refine a_ild1 eX10_toLift_64 ?_
        refine a_ild4 eX10_toLift_65 ?_
        refine a_eqtop (y0 := ((i.toNat : Nat) : Int)) (by omega) ?_
        refine a_cV2 eX10_toLift_67 lk_X10_359 mV_X10_deadBy sh_171 ⟨_, rfl, rfl⟩ mt_X10_deadBy rfl rfl rfl rfl rfl rfl (c_X10_deadBy hR hM wC hM2 wD hN (by omega) (by omega) ?_)
        dsimp only [Option.toList, List.cons_append, List.nil_append]
        refine a_ild2 eX10_toLift_70 ?_
        refine a_icmp_gt 77 eX10_toLift_71 (by decide) (by omega) (fun hT71 => ?_) (fun hF71 => ?_)
        · skip
          refine a_iinc4 eX10_toLift_77 (by decide) aw_n2i ?_
          refine a_goto 35 eX10_toLift_80 (by decide) ?_
          have e9 : tlB m h most (i + 1).toNat = tlB m h most i.toNat := by rw [es]; exact if_neg (fun q => by omega)
          have ih1 := ih (i + 1) (by omega) (by omega)
          rw [e9] at ih1
          exact ih1
        · skip
          refine a_ild4 eX10_toLift_74 ?_
          refine a_ist3 eX10_toLift_76 (by decide) aw_n2i ?_
          refine a_iinc4 eX10_toLift_77 (by decide) aw_n2i ?_
          refine a_goto 35 eX10_toLift_80 (by decide) ?_
          have e9 : tlB m h most (i + 1).toNat = i := by rw [es]; exact if_pos ⟨by omega, by omega⟩
          have ih1 := ih (i + 1) (by omega) (by omega)
          rw [e9] at ih1
          exact ih1
      · skip
        refine a_ild4 eX10_toLift_51 ?_
        refine a_eqtop (y0 := ((i.toNat : Nat) : Int)) (by omega) ?_
        refine a_cS1 eX10_toLift_53 lk_X10_362 mS_X10_ones mt_X10_ones rfl rfl rfl rfl rfl (c_X10_ones (by omega) ?_)
        dsimp only [Option.toList, List.cons_append, List.nil_append]
        refine a_ild3 eX10_toLift_56 ?_
        refine a_eqtop (y0 := (((tlB m h most i.toNat).toNat : Nat) : Int)) (by omega) ?_
        refine a_cS1 eX10_toLift_57 lk_X10_362 mS_X10_ones mt_X10_ones rfl rfl rfl rfl rfl (c_X10_ones (by omega) ?_)
        dsimp only [Option.toList, List.cons_append, List.nil_append]
        refine a_icmp_ge 77 eX10_toLift_60 (by decide) (by omega) (fun hT60 => ?_) (fun hF60 => ?_)
        · skip
          refine a_iinc4 eX10_toLift_77 (by decide) aw_n2i ?_
          refine a_goto 35 eX10_toLift_80 (by decide) ?_
          have e9 : tlB m h most (i + 1).toNat = tlB m h most i.toNat := by rw [es]; exact if_neg (fun q => by omega)
          have ih1 := ih (i + 1) (by omega) (by omega)
          rw [e9] at ih1
          exact ih1
        · skip
          refine a_ald0 eX10_toLift_63 ?_
          refine a_ild1 eX10_toLift_64 ?_
          refine a_ild4 eX10_toLift_65 ?_
          refine a_eqtop (y0 := ((i.toNat : Nat) : Int)) (by omega) ?_
          refine a_cV2 eX10_toLift_67 lk_X10_359 mV_X10_deadBy sh_171 ⟨_, rfl, rfl⟩ mt_X10_deadBy rfl rfl rfl rfl rfl rfl (c_X10_deadBy hR hM wC hM2 wD hN (by omega) (by omega) ?_)
          dsimp only [Option.toList, List.cons_append, List.nil_append]
          refine a_ild2 eX10_toLift_70 ?_
          refine a_icmp_gt 77 eX10_toLift_71 (by decide) (by omega) (fun hT71 => ?_) (fun hF71 => ?_)
          · skip
            refine a_iinc4 eX10_toLift_77 (by decide) aw_n2i ?_
            refine a_goto 35 eX10_toLift_80 (by decide) ?_
            have e9 : tlB m h most (i + 1).toNat = tlB m h most i.toNat := by rw [es]; exact if_neg (fun q => by omega)
            have ih1 := ih (i + 1) (by omega) (by omega)
            rw [e9] at ih1
            exact ih1
          · skip
            refine a_ild4 eX10_toLift_74 ?_
            refine a_ist3 eX10_toLift_76 (by decide) aw_n2i ?_
            refine a_iinc4 eX10_toLift_77 (by decide) aw_n2i ?_
            refine a_goto 35 eX10_toLift_80 (by decide) ?_
            have e9 : tlB m h most (i + 1).toNat = i := by rw [es]; exact if_pos ⟨by omega, by omega⟩
            have ih1 := ih (i + 1) (by omega) (by omega)
            rw [e9] at ih1
            exact ih1

set_option maxHeartbeats 4000000 in
set_option maxRecDepth 100000 in
theorem c_X10_toLift {l : Launch} {σ : aw_S} {Post : Option Value → aw_S → Prop} {tw cs : Bool} (hR : σ.2.2 = RF tw cs) {m : mS} (hM : cityM σ m) (wC : wfCity m) {N : Int} (hM2 : dayM σ m) (wD : wfDay m 0 N) (hN : 0 ≤ N ∧ N ≤ 1000) {h most : Int} (hr : (-2147483648 ≤ h ∧ h ≤ 2147483647) ∧ (-2147483648 ≤ most ∧ most ≤ 2147483647)) (h1 : vlift m h most → Post (some (.int (jI (tlB m h most (2 ^ (m 0 1).toNat : Int).toNat)))) σ) (h0 : ¬ vlift m h most → Post (some (.int (jI (-1)))) σ) : AE l yX10_toLift cX10_toLift 5 (some .int) 3 74 0 0 SH SH σ [.ref 171, .int (jI h), .int (jI most)] Post := by
  show AW l yX10_toLift cX10_toLift 5 (some .int) 3 74 0 0 SH Post SH 0 0 σ 0 [some (.ref 171), some (.int (jI h)), some (.int (jI most)), none, none] []
  obtain ⟨c1, c2, c3, c4, c5, c6, c7⟩ := id hM
  obtain ⟨w1, w2, w3, w4, w5, w6, w7, w8⟩ := id wC
  obtain ⟨d1, d2, d3, d4, d5, d6, d7⟩ := id hM2
  obtain ⟨v1, v2, v3, v4, v5, v6, v7, v8⟩ := id wD
  simp only [Int.zero_add] at d4 d5 d6 d7 v4 v5 v6 v7 v8
  have hlt := wC.2.2.2.1
  obtain ⟨T, hT⟩ : ∃ T : Int, T = 2 ^ (m 0 1).toNat := ⟨_, rfl⟩
  have hTb := pw_b (k := m 0 1) (by omega)
  rw [← hT] at hTb
  obtain ⟨hT1, hT2, hT3, hT4⟩ := hTb
  have hT3 := hT3 (by omega)
  refine a_ald0 eX10_toLift_0 ?_
  refine a_getI 14 eX10_toLift_1 fl_X10_235 rfl rfl sh_171 ?_
  refine a_if_eq 28 eX10_toLift_4 (by decide) (by omega) (fun hT4 => ?_) (fun hF4 => ?_)
  · skip
    refine a_iconst eX10_toLift_28 ?_
    refine a_iret eX10_toLift_29 rfl rfl ⟨Nat.zero_le _, Nat.zero_le _⟩ ?_
    exact h0 (fun q => by unfold vlift at q; omega)
  · skip
    refine a_ild1 eX10_toLift_7 ?_
    refine a_iconst eX10_toLift_8 ?_
    refine a_bipush eX10_toLift_9 (by decide) ?_
    refine a_cS3 eX10_toLift_11 lk_X10_128 mS_X10_in mt_X10_in rfl rfl rfl rfl rfl rfl rfl (c_X10_in (by omega) (fun hT11 => ?_) (fun hF11 => ?_))
    · skip
      dsimp only [Option.toList, List.cons_append, List.nil_append]
      refine a_if_eq 28 eX10_toLift_14 (by decide) (by omega) (fun h => absurd h (by decide)) (fun _ => ?_)
      refine a_ild2 eX10_toLift_17 ?_
      refine a_iconst eX10_toLift_18 ?_
      refine a_sipush eX10_toLift_19 (by decide) ?_
      refine a_cS3 eX10_toLift_22 lk_X10_128 mS_X10_in mt_X10_in rfl rfl rfl rfl rfl rfl rfl (c_X10_in (by omega) (fun hT22 => ?_) (fun hF22 => ?_))
      · skip
        dsimp only [Option.toList, List.cons_append, List.nil_append]
        refine a_if_ne 30 eX10_toLift_25 (by decide) (by omega) (fun _ => ?_) (fun h => absurd h (by decide))
        refine a_iconst eX10_toLift_30 ?_
        refine a_ist3 eX10_toLift_31 (by decide) aw_n2i ?_
        refine a_iconst eX10_toLift_32 ?_
        refine a_ist4 eX10_toLift_33 (by decide) aw_n2i ?_
        exact lp_tlM hR hM wC hM2 wD hN (by omega) (by omega) (h1 ⟨by omega, by omega, by omega⟩) _ 0 (Nat.le_refl _) (by rw [← hT]; omega)
      · skip
        dsimp only [Option.toList, List.cons_append, List.nil_append]
        refine a_if_ne 30 eX10_toLift_25 (by decide) (by omega) (fun h => absurd h (by decide)) (fun _ => ?_)
        refine a_iconst eX10_toLift_28 ?_
        refine a_iret eX10_toLift_29 rfl rfl ⟨Nat.zero_le _, Nat.zero_le _⟩ ?_
        exact h0 (fun q => by unfold vlift at q; omega)
    · skip
      dsimp only [Option.toList, List.cons_append, List.nil_append]
      refine a_if_eq 28 eX10_toLift_14 (by decide) (by omega) (fun _ => ?_) (fun h => absurd h (by decide))
      refine a_iconst eX10_toLift_28 ?_
      refine a_iret eX10_toLift_29 rfl rfl ⟨Nat.zero_le _, Nat.zero_le _⟩ ?_
      exact h0 (fun q => by unfold vlift at q; omega)
