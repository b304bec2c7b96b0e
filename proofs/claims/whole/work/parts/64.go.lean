theorem mcs_s {m : mS} {i : Int} (h : 0 ≤ i) : mcs m (i + 1).toNat = mcome (mcs m i.toNat) i := by
  rw [show (i + 1).toNat = i.toNat + 1 by omega]
  show mcome (mcs m i.toNat) ((i.toNat : Nat) : Int) = _
  rw [Int.toNat_of_nonneg h]
theorem mgo_s {m : mS} {i : Int} (h : 0 ≤ i) : mgo m (i + 1).toNat = mmin (mgo m i.toNat) := by
  rw [show (i + 1).toNat = i.toNat + 1 by omega]
  rfl
theorem come_no {m : mS} {c : Int} (h : ¬ (m (100 + c) 4 = m 0 3 ∧ (m (100 + c) 1 = 1 ∨ m (100 + c) 1 = 3))) : mcome m c = m := if_neg h
theorem dayC_min {σ σ' : aw_S} {m : mS} (h : dayC σ 21 0 m) (h16 : m 0 4 ≤ 16) (ho : ∀ (a : Nat) (j : Int), ¬ (a = 21 ∧ j = 0) → σ'.1 a j = σ.1 a j) (h1 : σ'.1 21 0 = m 0 3 + 1) : dayC σ' 21 0 (mtk m 0) := by
  obtain ⟨d1, d2, d3, d4, d5, d6, d7⟩ := h
  have u : ∀ a j : Int, ¬ (a = 0 ∧ j = 3) → mtk m 0 a j = m a j := fun a j q => mtk_ne q (by omega)
  refine ⟨?_, ?_, ?_, fun q q1 q2 => ?_, fun e f e1 e2 f1 f2 => ?_, fun q k q1 q2 k1 k2 => ?_, fun i w i1 i2 w1 w2 => ?_⟩
  · rw [mtk_3]; exact h1
  · rw [u 0 4 (by omega), ho _ _ (by omega)]; exact d2
  · rw [u 0 5 (by omega), ho _ _ (by omega)]; exact d3
  · rw [u _ q (by omega), u _ q (by omega), ho _ _ (by omega), ho _ _ (by omega)]; exact d4 q q1 q2
  · rw [u 0 4 (by omega)] at e2
    rw [u _ _ (by omega), ho _ _ (by omega)]; exact d5 e f e1 e2 f1 f2
  · rw [u _ _ (by omega)] at k2
    rw [u _ _ (by omega), ho _ _ (by omega)]; exact d6 q k q1 q2 k1 k2
  · rw [u 0 5 (by omega)] at i2
    rw [u _ _ (by omega), ho _ _ (by omega)]; exact d7 i w i1 i2 w1 w2
theorem dayM_min {σ σ' : aw_S} {m : mS} (h : dayM σ m) (h16 : m 0 4 ≤ 16) (ho : ∀ (a : Nat) (j : Int), ¬ (a = 171 ∧ j = 21) → σ'.1 a j = σ.1 a j) (h1 : σ'.1 171 21 = m 0 3 + 1) : dayM σ' (mtk m 0) := by
  obtain ⟨d1, d2, d3, d4, d5, d6, d7⟩ := h
  have u : ∀ a j : Int, ¬ (a = 0 ∧ j = 3) → mtk m 0 a j = m a j := fun a j q => mtk_ne q (by omega)
  have e182 : σ'.1 182 = σ.1 182 := funext (fun j => ho _ _ (by omega))
  refine ⟨?_, ?_, ?_, fun q q1 q2 => ?_, fun e e1 e2 => ?_, fun q k q1 q2 k1 k2 => ?_, fun i w i1 i2 w1 w2 => ?_⟩
  · rw [mtk_3]; exact h1
  · rw [u 0 4 (by omega), ho _ _ (by omega)]; exact d2
  · rw [u 0 5 (by omega), ho _ _ (by omega)]; exact d3
  · rw [u _ q (by omega), u _ q (by omega), ho _ _ (by omega), ho _ _ (by omega)]; exact d4 q q1 q2
  · rw [u 0 4 (by omega)] at e2
    rw [show mtk m 0 (0 + 100 + e) = m (0 + 100 + e) from funext (fun j => u _ j (by omega)), e182]; exact d5 e e1 e2
  · rw [u _ _ (by omega)] at k2
    rw [u _ _ (by omega), ho _ _ (by omega)]; exact d6 q k q1 q2 k1 k2
  · rw [u 0 5 (by omega)] at i2
    rw [u _ _ (by omega), ho _ _ (by omega)]; exact d7 i w i1 i2 w1 w2
set_option maxHeartbeats 4000000 in
set_option maxRecDepth 100000 in
theorem c_X5_come {l : Launch} {σ : aw_S} {Post : Option Value → aw_S → Prop} {a : Nat} (ha : isCity a) {tw cs : Bool} (hR : σ.2.2 = RF tw cs) {N c : Int} {m : mS} (hC : cityC σ a m) (wC : wfCity m) (hD : dayC σ 21 0 m) (wD : wfDay m 0 N) (hc : 0 ≤ c ∧ c < m 0 4) (hdue : m (100 + c) 4 = m 0 3) (hN : 0 ≤ N ∧ N ≤ 1000) (hk : ∀ σ', dayC σ' 21 0 (mcome m c) → frC σ σ' → Post none σ')  : AE l yX5_come cX5_come 3 (none : Option Jvm.ClassFile.FieldType) 3 77 0 0 SH SH σ [.ref 21, .ref a, .int (jI c)] Post := by
  show AW l yX5_come cX5_come 3 (none : Option Jvm.ClassFile.FieldType) 3 77 0 0 SH Post SH 0 0 σ 0 [some (.ref 21), some (.ref a), some (.int (jI c))] []
  obtain ⟨d1, d2, d3, d4, d5, d6, d7⟩ := id hD
  obtain ⟨v1, v2, v3, v4, v5, v6, v7, v8⟩ := wfDay_0 wD
  simp only [Int.zero_add] at d4 d5 d6 d7
  have e1 := d5 c 1 (by omega) (by omega) (by omega) (by omega)
  have w5 := v5 c (by omega) (by omega)
  unfold wfCab at w5
  refine a_ald0 eX5_come_0 ?_
  refine a_getR 2 (21 + 1) eX5_come_1 fl_X5_11 rfl rfl (sh_day (Or.inl rfl)) ((congrFun (congrFun hR _) _).trans (rf_day_2 (Or.inl rfl))) ?_
  refine a_ild2 eX5_come_4 ?_
  refine a_aald _ eX5_come_5 (sh_day_1 (Or.inl rfl)) rfl rfl rfl (by omega) ((congrFun (congrFun hR _) _).trans (rf_cab (Or.inl rfl) (by omega))) ?_
  refine a_getI 1 eX5_come_6 fl_X5_67 rfl rfl (sh_cab (Or.inl rfl) (by omega)) ?_
  refine a_eqtop (y0 := m (100 + c) 1) (by exact e1) ?_
  refine a_iconst eX5_come_9 ?_
  refine a_icmp_ne 22 eX5_come_10 (by decide) (by omega) (fun hT10 => ?_) (fun hF10 => ?_)
  · skip
    refine a_ald0 eX5_come_22 ?_
    refine a_getR 2 (21 + 1) eX5_come_23 fl_X5_11 rfl rfl (sh_day (Or.inl rfl)) ((congrFun (congrFun hR _) _).trans (rf_day_2 (Or.inl rfl))) ?_
    refine a_ild2 eX5_come_26 ?_
    refine a_aald _ eX5_come_27 (sh_day_1 (Or.inl rfl)) rfl rfl rfl (by omega) ((congrFun (congrFun hR _) _).trans (rf_cab (Or.inl rfl) (by omega))) ?_
    refine a_getI 1 eX5_come_28 fl_X5_67 rfl rfl (sh_cab (Or.inl rfl) (by omega)) ?_
    refine a_eqtop (y0 := m (100 + c) 1) (by exact e1) ?_
    refine a_iconst eX5_come_31 ?_
    refine a_icmp_ne 53 eX5_come_32 (by decide) (by omega) (fun hT32 => ?_) (fun hF32 => ?_)
    · skip
      refine a_vret eX5_come_53 rfl rfl ⟨Nat.zero_le _, Nat.zero_le _⟩ ?_
      exfalso; omega
    · skip
      refine a_ald0 eX5_come_35 ?_
      refine a_getR 2 (21 + 1) eX5_come_36 fl_X5_11 rfl rfl (sh_day (Or.inl rfl)) ((congrFun (congrFun hR _) _).trans (rf_day_2 (Or.inl rfl))) ?_
      refine a_ild2 eX5_come_39 ?_
      refine a_aald _ eX5_come_40 (sh_day_1 (Or.inl rfl)) rfl rfl rfl (by omega) ((congrFun (congrFun hR _) _).trans (rf_cab (Or.inl rfl) (by omega))) ?_
      refine a_ald0 eX5_come_41 ?_
      refine a_getR 2 (21 + 1) eX5_come_42 fl_X5_11 rfl rfl (sh_day (Or.inl rfl)) ((congrFun (congrFun hR _) _).trans (rf_day_2 (Or.inl rfl))) ?_
      refine a_ild2 eX5_come_45 ?_
      refine a_aald _ eX5_come_46 (sh_day_1 (Or.inl rfl)) rfl rfl rfl (by omega) ((congrFun (congrFun hR _) _).trans (rf_cab (Or.inl rfl) (by omega))) ?_
      refine a_getI 2 eX5_come_47 fl_X5_80 rfl rfl (sh_cab (Or.inl rfl) (by omega)) ?_
      refine a_eqtop (y0 := m (100 + c) 2) (by exact d5 c 2 (by omega) (by omega) (by omega) (by omega)) ?_
      refine a_cV1 eX5_come_50 lk_X5_102 mV_X2_becomeEmpty (sh_cab (Or.inl rfl) (by omega)) ⟨_, rfl, rfl⟩ mt_X2_becomeEmpty rfl rfl rfl rfl rfl (c_X2_becomeEmpty (Or.inl rfl) (by omega) ?_)
      dsimp only [Option.toList, List.cons_append, List.nil_append]
      refine a_vret eX5_come_53 rfl rfl ⟨Nat.zero_le _, Nat.zero_le _⟩ ?_
      refine hk _ ?_ ⟨fun a j h => by simp only [rd_si, rd_sa]; (repeat rw [if_neg (by omega)]), rfl⟩
      rw [show mcome m c = upr m (100 + c) (xem m c (m (100 + c) 2)) from (if_pos ⟨hdue, by omega⟩).trans (if_pos (by omega))]
      refine dayC_cab hc (by omega) hD (fun a j q => by simp only [rd_si]; (repeat rw [if_neg (by omega)])) (fun f q1 q2 => ?_)
      have h5 := d5 c f (by omega) (by omega) q1 q2
      simp only [rd_si, true_and, xem]
      rcases (show f = 0 ∨ f = 1 ∨ f = 2 ∨ f = 3 ∨ f = 4 ∨ f = 5 ∨ f = 6 ∨ f = 7 ∨ f = 8 ∨ f = 9 ∨ f = 10 by omega) with rfl | rfl | rfl | rfl | rfl | rfl | rfl | rfl | rfl | rfl | rfl
      · ((repeat (first | rw [if_pos (by omega)] | rw [if_neg (by omega)] | rw [if_pos True.intro])); (first | done | rfl | exact h5))
      · ((repeat (first | rw [if_pos (by omega)] | rw [if_neg (by omega)] | rw [if_pos True.intro])); (first | done | rfl | exact h5))
      · ((repeat (first | rw [if_pos (by omega)] | rw [if_neg (by omega)] | rw [if_pos True.intro])); (first | done | rfl | exact h5))
      · ((repeat (first | rw [if_pos (by omega)] | rw [if_neg (by omega)] | rw [if_pos True.intro])); (first | done | rfl | exact h5))
      · ((repeat (first | rw [if_pos (by omega)] | rw [if_neg (by omega)] | rw [if_pos True.intro])); (first | done | rfl | exact h5))
      · ((repeat (first | rw [if_pos (by omega)] | rw [if_neg (by omega)] | rw [if_pos True.intro])); (first | done | rfl | exact h5))
      · ((repeat (first | rw [if_pos (by omega)] | rw [if_neg (by omega)] | rw [if_pos True.intro])); (first | done | rfl | exact h5))
      · ((repeat (first | rw [if_pos (by omega)] | rw [if_neg (by omega)] | rw [if_pos True.intro])); (first | done | rfl | exact h5))
      · ((repeat (first | rw [if_pos (by omega)] | rw [if_neg (by omega)] | rw [if_pos True.intro])); (first | done | rfl | exact h5))
      · ((repeat (first | rw [if_pos (by omega)] | rw [if_neg (by omega)] | rw [if_pos True.intro])); (first | done | rfl | exact h5))
      · ((repeat (first | rw [if_pos (by omega)] | rw [if_neg (by omega)] | rw [if_pos True.intro])); (first | done | rfl | exact h5))
  · skip
    refine a_ald0 eX5_come_13 ?_
    refine a_ald1 eX5_come_14 ?_
    refine a_ild2 eX5_come_15 ?_
    refine a_cV2 eX5_come_16 lk_X5_92 mV_X5_comeToRank (sh_day (Or.inl rfl)) ⟨_, rfl, rfl⟩ mt_X5_comeToRank rfl rfl rfl rfl rfl rfl (c_X5_comeToRank ha hR hC wC hD (wfD1_of wD (by omega)) (comer_of wD hc (by omega)) hN (fun σ2 hD2 fr2 => ?_))
    dsimp only [Option.toList, List.cons_append, List.nil_append]
    refine a_goto 53 eX5_come_19 (by decide) ?_
    refine a_vret eX5_come_53 rfl rfl ⟨Nat.zero_le _, Nat.zero_le _⟩ ?_
    refine hk σ2 ?_ fr2
    rw [show mcome m c = marr m c (m (100 + c) 3) from (if_pos ⟨hdue, by omega⟩).trans (if_neg (by omega))]
    exact hD2

set_option maxHeartbeats 4000000 in
set_option maxRecDepth 100000 in
theorem lp_pm2 {l : Launch} {σ : aw_S} {Post : Option Value → aw_S → Prop} {a : Nat} (ha : isCity a) {tw cs : Bool} (hR : σ.2.2 = RF tw cs) {N g : Int} {m : mS} (hC : cityC σ a m) (wC : wfCity m) (hD : dayC σ 21 0 m) (hG : wfG m N g) (hg : 0 ≤ g ∧ g < 300) (hN : 0 ≤ N ∧ N ≤ 999) (hk : ∀ σ', dayC σ' 21 0 (mmin m) → frC σ σ' → Post none σ')  : ∀ (n : Nat) (i : Int) (σ1 : aw_S), ((m 0 4 - i).toNat ≤ n) → (0 ≤ i ∧ i ≤ m 0 4) → (dayC σ1 21 0 (mcs (mtk m (m 0 4)) i.toNat)) → (frC σ σ1) → AW l yX5_passMinute cX5_passMinute 3 (none : Option Jvm.ClassFile.FieldType) 4 99 0 0 SH Post SH 0 0 (σ1) 56 [some (.ref 21), some (.ref a), some (.int (jI i))] [] := by
  intro n
  induction n with
  | zero =>
    intro i σ1 hm hi hD1 fr1
    have h16 := (wfDay_0 hG.1).2.1
    have ht := wfG_tk (n := m 0 4) wC hN.1 hg ⟨h16.1, Int.le_refl _⟩ hG
    have hft := tk_frm (m := m) (n := m 0 4) h16
    have e4 : mtk m (m 0 4) 0 4 = m 0 4 := mtk_ne (by omega) (by omega)
    obtain ⟨i1, i2, i3, i4⟩ := mcs_all (wfCity_fr hft wC) hN.1 ht i.toNat (by rw [e4]; omega)
    have hf2 := frm_tr hft i2
    have wC2 := wfCity_fr hf2 wC
    have es := mcs_s (m := mtk m (m 0 4)) (i := i) (by omega)
    rw [e4] at i3
    obtain ⟨m2, hm2⟩ : ∃ m2, m2 = mcs (mtk m (m 0 4)) i.toNat := ⟨_, rfl⟩
    rw [← hm2] at i1 i2 i3 i4 hf2 wC2 es hD1
    have hR := frC_R fr1 hR
    have hC2 := cityC_m hf2 (cityC_s ha fr1 hC)
    obtain ⟨d1, d2, d3, d4, d5, d6, d7⟩ := id hD1
    obtain ⟨v1, v2, v3, v4, v5, v6, v7, v8⟩ := wfDay_0 i1.1
    simp only [Int.zero_add] at d4 d5 d6 d7
    refine a_ild2 eX5_passMinute_56 ?_
    refine a_ald0 eX5_passMinute_57 ?_
    refine a_getI 1 eX5_passMinute_58 fl_X5_37 rfl rfl (sh_day (Or.inl rfl)) ?_
    refine a_eqtop (y0 := m 0 4) (by rw [← i3]; exact d2) ?_
    refine a_icmp_ge 92 eX5_passMinute_61 (by decide) (by omega) (fun hT61 => ?_) (fun hF61 => ?_)
    · skip
      refine a_vret eX5_passMinute_92 rfl rfl ⟨Nat.zero_le _, Nat.zero_le _⟩ ?_
      refine hk σ1 ?_ fr1
      unfold mmin
      rw [show (m 0 4).toNat = i.toNat by omega, ← hm2]
      exact hD1
    · skip
      exfalso; omega
  | succ n ih =>
    intro i σ1 hm hi hD1 fr1
    have h16 := (wfDay_0 hG.1).2.1
    have ht := wfG_tk (n := m 0 4) wC hN.1 hg ⟨h16.1, Int.le_refl _⟩ hG
    have hft := tk_frm (m := m) (n := m 0 4) h16
    have e4 : mtk m (m 0 4) 0 4 = m 0 4 := mtk_ne (by omega) (by omega)
    obtain ⟨i1, i2, i3, i4⟩ := mcs_all (wfCity_fr hft wC) hN.1 ht i.toNat (by rw [e4]; omega)
    have hf2 := frm_tr hft i2
    have wC2 := wfCity_fr hf2 wC
    have es := mcs_s (m := mtk m (m 0 4)) (i := i) (by omega)
    rw [e4] at i3
    obtain ⟨m2, hm2⟩ : ∃ m2, m2 = mcs (mtk m (m 0 4)) i.toNat := ⟨_, rfl⟩
    rw [← hm2] at i1 i2 i3 i4 hf2 wC2 es hD1
    have hR := frC_R fr1 hR
    have hC2 := cityC_m hf2 (cityC_s ha fr1 hC)
    obtain ⟨d1, d2, d3, d4, d5, d6, d7⟩ := id hD1
    obtain ⟨v1, v2, v3, v4, v5, v6, v7, v8⟩ := wfDay_0 i1.1
    simp only [Int.zero_add] at d4 d5 d6 d7
    refine a_ild2 eX5_passMinute_56 ?_
    refine a_ald0 eX5_passMinute_57 ?_
    refine a_getI 1 eX5_passMinute_58 fl_X5_37 rfl rfl (sh_day (Or.inl rfl)) ?_
    refine a_eqtop (y0 := m 0 4) (by rw [← i3]; exact d2) ?_
    refine a_icmp_ge 92 eX5_passMinute_61 (by decide) (by omega) (fun hT61 => ?_) (fun hF61 => ?_)
    · skip
      refine a_vret eX5_passMinute_92 rfl rfl ⟨Nat.zero_le _, Nat.zero_le _⟩ ?_
      refine hk σ1 ?_ fr1
      unfold mmin
      rw [show (m 0 4).toNat = i.toNat by omega, ← hm2]
      exact hD1
    · skip
      have w5 := v5 i (by omega) (by omega)
      unfold wfCab at w5
      refine a_ald0 eX5_passMinute_64 ?_
      refine a_getR 2 (21 + 1) eX5_passMinute_65 fl_X5_11 rfl rfl (sh_day (Or.inl rfl)) ((congrFun (congrFun hR _) _).trans (rf_day_2 (Or.inl rfl))) ?_
      refine a_ild2 eX5_passMinute_68 ?_
      refine a_aald _ eX5_passMinute_69 (sh_day_1 (Or.inl rfl)) rfl rfl rfl (by omega) ((congrFun (congrFun hR _) _).trans (rf_cab (Or.inl rfl) (by omega))) ?_
      refine a_getI 4 eX5_passMinute_70 fl_X5_89 rfl rfl (sh_cab (Or.inl rfl) (by omega)) ?_
      refine a_eqtop (y0 := m2 (100 + i) 4) (by exact d5 i 4 (by omega) (by omega) (by omega) (by omega)) ?_
      refine a_ald0 eX5_passMinute_73 ?_
      refine a_getI 0 eX5_passMinute_74 fl_X5_33 rfl rfl (sh_day (Or.inl rfl)) ?_
      refine a_eqtop (y0 := m2 0 3) (by exact d1) ?_
      refine a_icmp_ne 86 eX5_passMinute_77 (by decide) (by omega) (fun hT77 => ?_) (fun hF77 => ?_)
      · skip
        refine a_iinc2 eX5_passMinute_86 (by decide) aw_n2r ?_
        refine a_goto 56 eX5_passMinute_89 (by decide) ?_
        exact ih (i + 1) σ1 (by omega) (by omega) (by rw [es, come_no (fun q => hT77 q.1)]; exact hD1) fr1
      · skip
        refine a_ald0 eX5_passMinute_80 ?_
        refine a_ald1 eX5_passMinute_81 ?_
        refine a_ild2 eX5_passMinute_82 ?_
        refine a_cV2 eX5_passMinute_83 lk_X5_99 mV_X5_come (sh_day (Or.inl rfl)) ⟨_, rfl, rfl⟩ mt_X5_come rfl rfl rfl rfl rfl rfl (c_X5_come ha hR hC2 wC2 hD1 i1.1 (by omega) (by omega) (by omega) (fun σ2 hD2 fr2 => ?_))
        dsimp only [Option.toList, List.cons_append, List.nil_append]
        refine a_iinc2 eX5_passMinute_86 (by decide) aw_n2r ?_
        refine a_goto 56 eX5_passMinute_89 (by decide) ?_
        exact ih (i + 1) σ2 (by omega) (by omega) (by rw [es]; exact hD2) (frC_tr fr1 fr2)

set_option maxHeartbeats 4000000 in
set_option maxRecDepth 100000 in
theorem lp_pm1 {l : Launch} {σ : aw_S} {Post : Option Value → aw_S → Prop} {a : Nat} (ha : isCity a) {tw cs : Bool} (hR : σ.2.2 = RF tw cs) {N g : Int} {m : mS} (hC : cityC σ a m) (wC : wfCity m) (hD : dayC σ 21 0 m) (hG : wfG m N g) (hg : 0 ≤ g ∧ g < 300) (hN : 0 ≤ N ∧ N ≤ 999) (hk : ∀ σ', dayC σ' 21 0 (mmin m) → frC σ σ' → Post none σ')  : ∀ (n : Nat) (i : Int) (σ1 : aw_S), ((m 0 4 - i).toNat ≤ n) → (0 ≤ i ∧ i ≤ m 0 4) → (dayC σ1 21 0 (mtk m i)) → (frC σ σ1) → AW l yX5_passMinute cX5_passMinute 3 (none : Option Jvm.ClassFile.FieldType) 4 99 0 0 SH Post SH 0 0 (σ1) 12 [some (.ref 21), some (.ref a), some (.int (jI i))] [] := by
  intro n
  induction n with
  | zero =>
    intro i σ1 hm hi hD1 fr1
    have h16 := (wfDay_0 hG.1).2.1
    have ht := wfG_tk (n := i) wC hN.1 hg hi hG
    have es := mtk_s (m := m) (n := i) (by omega)
    have u04 : mtk m i 0 4 = m 0 4 := mtk_ne (by omega) (by omega)
    have uc : ∀ f : Int, mtk m i (100 + i) f = m (100 + i) f := fun f => mtk_ne (by omega) (by omega)
    have uc2 : mtk m i (100 + i) = m (100 + i) := funext uc
    have hR0 := hR
    have hR := frC_R fr1 hR
    obtain ⟨d1, d2, d3, d4, d5, d6, d7⟩ := id hD1
    obtain ⟨v1, v2, v3, v4, v5, v6, v7, v8⟩ := wfDay_0 ht.1
    simp only [Int.zero_add] at d4 d5 d6 d7
    rw [u04] at d2 d5
    have d5 := d5 i
    refine a_ild2 eX5_passMinute_12 ?_
    refine a_ald0 eX5_passMinute_13 ?_
    refine a_getI 1 eX5_passMinute_14 fl_X5_37 rfl rfl (sh_day (Or.inl rfl)) ?_
    refine a_eqtop (y0 := m 0 4) (by exact d2) ?_
    refine a_icmp_ge 54 eX5_passMinute_17 (by decide) (by omega) (fun hT17 => ?_) (fun hF17 => ?_)
    · skip
      refine a_iconst eX5_passMinute_54 ?_
      refine a_ist2 eX5_passMinute_55 (by decide) aw_n2r ?_
      refine lp_pm2 ha hR0 hC wC hD hG hg hN hk _ 0 σ1 (Nat.le_refl _) (by omega) ?_ fr1
      show dayC σ1 21 0 (mtk m (m 0 4))
      rw [show m 0 4 = i by omega]
      exact hD1
    · skip
      exfalso; omega
  | succ n ih =>
    intro i σ1 hm hi hD1 fr1
    have h16 := (wfDay_0 hG.1).2.1
    have ht := wfG_tk (n := i) wC hN.1 hg hi hG
    have es := mtk_s (m := m) (n := i) (by omega)
    have u04 : mtk m i 0 4 = m 0 4 := mtk_ne (by omega) (by omega)
    have uc : ∀ f : Int, mtk m i (100 + i) f = m (100 + i) f := fun f => mtk_ne (by omega) (by omega)
    have uc2 : mtk m i (100 + i) = m (100 + i) := funext uc
    have hR0 := hR
    have hR := frC_R fr1 hR
    obtain ⟨d1, d2, d3, d4, d5, d6, d7⟩ := id hD1
    obtain ⟨v1, v2, v3, v4, v5, v6, v7, v8⟩ := wfDay_0 ht.1
    simp only [Int.zero_add] at d4 d5 d6 d7
    rw [u04] at d2 d5
    have d5 := d5 i
    refine a_ild2 eX5_passMinute_12 ?_
    refine a_ald0 eX5_passMinute_13 ?_
    refine a_getI 1 eX5_passMinute_14 fl_X5_37 rfl rfl (sh_day (Or.inl rfl)) ?_
    refine a_eqtop (y0 := m 0 4) (by exact d2) ?_
    refine a_icmp_ge 54 eX5_passMinute_17 (by decide) (by omega) (fun hT17 => ?_) (fun hF17 => ?_)
    · skip
      refine a_iconst eX5_passMinute_54 ?_
      refine a_ist2 eX5_passMinute_55 (by decide) aw_n2r ?_
      refine lp_pm2 ha hR0 hC wC hD hG hg hN hk _ 0 σ1 (Nat.le_refl _) (by omega) ?_ fr1
      show dayC σ1 21 0 (mtk m (m 0 4))
      rw [show m 0 4 = i by omega]
      exact hD1
    · skip
      have w5 := v5 i (by omega) (by omega)
      unfold wfCab at w5
      rw [uc2] at w5
      refine a_ald0 eX5_passMinute_20 ?_
      refine a_getR 2 (21 + 1) eX5_passMinute_21 fl_X5_11 rfl rfl (sh_day (Or.inl rfl)) ((congrFun (congrFun hR _) _).trans (rf_day_2 (Or.inl rfl))) ?_
      refine a_ild2 eX5_passMinute_24 ?_
      refine a_aald _ eX5_passMinute_25 (sh_day_1 (Or.inl rfl)) rfl rfl rfl (by omega) ((congrFun (congrFun hR _) _).trans (rf_cab (Or.inl rfl) (by omega))) ?_
      refine a_getI 1 eX5_passMinute_26 fl_X5_67 rfl rfl (sh_cab (Or.inl rfl) (by omega)) ?_
      refine a_eqtop (y0 := m (100 + i) 1) (by rw [← uc]; exact d5 1 (by omega) (by omega) (by omega) (by omega)) ?_
      refine a_iconst eX5_passMinute_29 ?_
      refine a_icmp_ne 48 eX5_passMinute_30 (by decide) (by omega) (fun hT30 => ?_) (fun hF30 => ?_)
      · skip
        refine a_iinc2 eX5_passMinute_48 (by decide) aw_n2r ?_
        refine a_goto 12 eX5_passMinute_51 (by decide) ?_
        exact ih (i + 1) σ1 (by omega) (by omega) (by rw [es, if_neg (by omega)]; exact hD1) fr1
      · skip
        refine a_ald0 eX5_passMinute_33 ?_
        refine a_getR 2 (21 + 1) eX5_passMinute_34 fl_X5_11 rfl rfl (sh_day (Or.inl rfl)) ((congrFun (congrFun hR _) _).trans (rf_day_2 (Or.inl rfl))) ?_
        refine a_ild2 eX5_passMinute_37 ?_
        refine a_aald _ eX5_passMinute_38 (sh_day_1 (Or.inl rfl)) rfl rfl rfl (by omega) ((congrFun (congrFun hR _) _).trans (rf_cab (Or.inl rfl) (by omega))) ?_
        refine a_dup eX5_passMinute_39 rfl ?_
        refine a_getI 8 eX5_passMinute_40 fl_X5_96 rfl rfl (sh_cab (Or.inl rfl) (by omega)) ?_
        refine a_eqtop (y0 := m (100 + i) 8) (by rw [← uc]; exact d5 8 (by omega) (by omega) (by omega) (by omega)) ?_
        refine a_iconst eX5_passMinute_43 ?_
        refine a_iadd eX5_passMinute_44 ?_
        refine a_putI 8 eX5_passMinute_45 fl_X5_96 rfl rfl (sh_cab (Or.inl rfl) (by omega)) (fun q h => Or.inl (by cases h; rfl)) ?_
        refine a_iinc2 eX5_passMinute_48 (by decide) aw_n2r ?_
        refine a_goto 12 eX5_passMinute_51 (by decide) ?_
        refine ih (i + 1) _ (by omega) (by omega) ?_ (frC_tr fr1 ⟨fun a j h => by simp only [rd_si, rd_sa]; (repeat rw [if_neg (by omega)]), rfl⟩)
        rw [es, if_pos (by omega)]
        refine dayC_cab (by omega) (by omega) hD1 (fun a j q => by simp only [rd_si]; (repeat rw [if_neg (by omega)])) (fun f q1 q2 => ?_)
        simp only [rd_si, true_and, xwt]
        by_cases q : f = 8
        · rw [if_pos q, if_pos q]
        · rw [if_neg q, if_neg q, ← uc]; exact d5 f (by omega) (by omega) q1 q2

set_option maxHeartbeats 4000000 in
set_option maxRecDepth 100000 in
theorem c_X5_passMinute {l : Launch} {σ : aw_S} {Post : Option Value → aw_S → Prop} {a : Nat} (ha : isCity a) {tw cs : Bool} (hR : σ.2.2 = RF tw cs) {N g : Int} {m : mS} (hC : cityC σ a m) (wC : wfCity m) (hD : dayC σ 21 0 m) (hG : wfG m N g) (hg : 0 ≤ g ∧ g < 300) (hN : 0 ≤ N ∧ N ≤ 999) (hk : ∀ σ', dayC σ' 21 0 (mmin m) → frC σ σ' → Post none σ')  : AE l yX5_passMinute cX5_passMinute 3 (none : Option Jvm.ClassFile.FieldType) 4 99 0 0 SH SH σ [.ref 21, .ref a] Post := by
  show AW l yX5_passMinute cX5_passMinute 3 (none : Option Jvm.ClassFile.FieldType) 4 99 0 0 SH Post SH 0 0 σ 0 [some (.ref 21), some (.ref a), none] []
  have h16 := (wfDay_0 hG.1).2.1
  refine a_ald0 eX5_passMinute_0 ?_
  refine a_dup eX5_passMinute_1 rfl ?_
  refine a_getI 0 eX5_passMinute_2 fl_X5_33 rfl rfl (sh_day (Or.inl rfl)) ?_
  refine a_eqtop (y0 := m 0 3) (by exact hD.1) ?_
  refine a_iconst eX5_passMinute_5 ?_
  refine a_iadd eX5_passMinute_6 ?_
  refine a_putI 0 eX5_passMinute_7 fl_X5_33 rfl rfl (sh_day (Or.inl rfl)) (fun q h => Or.inl (by cases h; rfl)) ?_
  refine a_iconst eX5_passMinute_10 ?_
  refine a_ist2 eX5_passMinute_11 (by decide) aw_n2r ?_
  exact lp_pm1 ha hR hC wC hD hG hg hN hk _ 0 _ (Nat.le_refl _) (by omega) (dayC_min hD h16.2 (fun a j q => by simp only [rd_si]; rw [if_neg q]) rd_si_eq) ⟨fun a j h => by simp only [rd_si, rd_sa]; (repeat rw [if_neg (by omega)]), rfl⟩

set_option maxHeartbeats 4000000 in
set_option maxRecDepth 100000 in
theorem lp_go {l : Launch} {σ : aw_S} {Post : Option Value → aw_S → Prop} {tw cs : Bool} (hR : σ.2.2 = RF tw cs) {t : Nat} (hct : isCity t) (hrt : RF tw cs 0 1 = some t) {m : mS} (hC : cityC σ t m) (wC : wfCity m) {N : Int} (hD : dayC σ 21 0 m) (wD : wfDay m 0 N) (hN : 0 ≤ N ∧ N ≤ 1000) (hN9 : N ≤ 999) {nn : Int} (hv : vgo m nn) (h1 : vgo m nn → ∀ σ', dayC σ' 21 0 (mgo m nn.toNat) → frC σ σ' → Post (some (.int (jI (m 0 3 + nn)))) σ')  : ∀ (n : Nat) (i : Int) (σ1 : aw_S), ((nn - i).toNat ≤ n) → (0 ≤ i ∧ i ≤ nn) → (dayC σ1 21 0 (mgo m i.toNat)) → (frC σ σ1) → AW l yX9_go cX9_go 3 (some .int) 5 121 0 0 SH Post SH 0 0 (σ1) 22 [some (.ref 0), some (.int (jI nn)), some (.int (jI i))] [] := by
  intro n
  induction n with
  | zero =>
    intro i σ1 hm hi hD1 fr1
    have hv' := id hv
    unfold vgo at hv'
    obtain ⟨i1, i2, i3⟩ := go_wf wC hN.1 wD i.toNat (by omega)
    have wC2 := wfCity_fr i2 wC
    have es := mgo_s (m := m) (i := i) (by omega)
    rw [show ((i.toNat : Nat) : Int) = i by omega] at i1 i3
    have hR := frC_R fr1 hR
    have hC2 := cityC_m i2 (cityC_s hct fr1 hC)
    refine a_ild2 eX9_go_22 ?_
    refine a_ild1 eX9_go_23 ?_
    refine a_icmp_ge 44 eX9_go_24 (by decide) (by omega) (fun hT24 => ?_) (fun hF24 => ?_)
    · skip
      refine a_ald0 eX9_go_44 ?_
      refine a_getR 2 21 eX9_go_45 fl_X9_26 rfl rfl sh_0 ((congrFun (congrFun hR _) _).trans rf_0_2) ?_
      refine a_getI 0 eX9_go_48 fl_X9_198 rfl rfl (sh_day (Or.inl rfl)) ?_
      refine a_eqtop (y0 := m 0 3 + nn) (by rw [hD1.1, i3]; omega) ?_
      refine a_iret eX9_go_51 rfl rfl ⟨Nat.zero_le _, Nat.zero_le _⟩ ?_
      refine h1 hv σ1 ?_ fr1
      rw [show nn = i by omega]
      exact hD1
    · skip
      exfalso; omega
  | succ n ih =>
    intro i σ1 hm hi hD1 fr1
    have hv' := id hv
    unfold vgo at hv'
    obtain ⟨i1, i2, i3⟩ := go_wf wC hN.1 wD i.toNat (by omega)
    have wC2 := wfCity_fr i2 wC
    have es := mgo_s (m := m) (i := i) (by omega)
    rw [show ((i.toNat : Nat) : Int) = i by omega] at i1 i3
    have hR := frC_R fr1 hR
    have hC2 := cityC_m i2 (cityC_s hct fr1 hC)
    refine a_ild2 eX9_go_22 ?_
    refine a_ild1 eX9_go_23 ?_
    refine a_icmp_ge 44 eX9_go_24 (by decide) (by omega) (fun hT24 => ?_) (fun hF24 => ?_)
    · skip
      refine a_ald0 eX9_go_44 ?_
      refine a_getR 2 21 eX9_go_45 fl_X9_26 rfl rfl sh_0 ((congrFun (congrFun hR _) _).trans rf_0_2) ?_
      refine a_getI 0 eX9_go_48 fl_X9_198 rfl rfl (sh_day (Or.inl rfl)) ?_
      refine a_eqtop (y0 := m 0 3 + nn) (by rw [hD1.1, i3]; omega) ?_
      refine a_iret eX9_go_51 rfl rfl ⟨Nat.zero_le _, Nat.zero_le _⟩ ?_
      refine h1 hv σ1 ?_ fr1
      rw [show nn = i by omega]
      exact hD1
    · skip
      refine a_ald0 eX9_go_27 ?_
      refine a_getR 2 21 eX9_go_28 fl_X9_26 rfl rfl sh_0 ((congrFun (congrFun hR _) _).trans rf_0_2) ?_
      refine a_ald0 eX9_go_31 ?_
      refine a_getR 1 t eX9_go_32 fl_X9_19 rfl rfl sh_0 ((congrFun (congrFun hR _) _).trans hrt) ?_
      refine a_cV1 eX9_go_35 lk_X9_222 mV_X5_passMinute (sh_day (Or.inl rfl)) ⟨_, rfl, rfl⟩ mt_X5_passMinute rfl rfl rfl rfl rfl (c_X5_passMinute hct hR hC2 wC2 hD1 i1 (by omega) (by omega) (fun σ2 hD2 fr2 => ?_))
      dsimp only [Option.toList, List.cons_append, List.nil_append]
      refine a_iinc2 eX9_go_38 (by decide) aw_n2i ?_
      refine a_goto 22 eX9_go_41 (by decide) ?_
      exact ih (i + 1) σ2 (by omega) (by omega) (by rw [es]; exact hD2) (frC_tr fr1 fr2)

set_option maxHeartbeats 4000000 in
set_option maxRecDepth 100000 in
theorem c_X9_go {l : Launch} {σ : aw_S} {Post : Option Value → aw_S → Prop} {tw cs : Bool} (hR : σ.2.2 = RF tw cs) {t : Nat} (hct : isCity t) (hrt : RF tw cs 0 1 = some t) {m : mS} (hC : cityC σ t m) (wC : wfCity m) {N : Int} (hD : dayC σ 21 0 m) (wD : wfDay m 0 N) (hN : 0 ≤ N ∧ N ≤ 1000) (hN9 : N ≤ 999) {nn : Int} (hr : (-2147483648 ≤ nn ∧ nn ≤ 2147483647)) (h1 : vgo m nn → ∀ σ', dayC σ' 21 0 (mgo m nn.toNat) → frC σ σ' → Post (some (.int (jI (m 0 3 + nn)))) σ') (h0 : ¬ vgo m nn → Post (some (.int (jI (-1)))) σ) : AE l yX9_go cX9_go 3 (some .int) 5 121 0 0 SH SH σ [.ref 0, .int (jI nn)] Post := by
  show AW l yX9_go cX9_go 3 (some .int) 5 121 0 0 SH Post SH 0 0 σ 0 [some (.ref 0), some (.int (jI nn)), none] []
  obtain ⟨c1, c2, c3, c4, c5, c6, c7, c8⟩ := id hC
  obtain ⟨w1, w2, w3, w4, w5, w6, w7, w8⟩ := id wC
  obtain ⟨d1, d2, d3, d4, d5, d6, d7⟩ := id hD
  obtain ⟨v1, v2, v3, v4, v5, v6, v7, v8⟩ := id wD
  simp only [Int.zero_add] at d4 d5 d6 d7 v4 v5 v6 v7 v8
  refine a_ald0 eX9_go_0 ?_
  refine a_cV0 eX9_go_1 lk_X9_129 mV_X9_hasCity sh_0 ⟨_, rfl, rfl⟩ mt_X9_hasCity rfl rfl rfl rfl (c_X9_hasCity hR hct hrt hC wC (fun hT1 => ?_) (fun hF1 => ?_))
  · skip
    dsimp only [Option.toList, List.cons_append, List.nil_append]
    refine a_if_eq 18 eX9_go_4 (by decide) (by omega) (fun h => absurd h (by decide)) (fun _ => ?_)
    refine a_ild1 eX9_go_7 ?_
    refine a_iconst eX9_go_8 ?_
    refine a_sipush eX9_go_9 (by decide) ?_
    refine a_cS3 eX9_go_12 lk_X9_81 mS_X9_within mt_X9_within rfl rfl rfl rfl rfl rfl rfl (c_X9_within (by omega) (fun hT12 => ?_) (fun hF12 => ?_))
    · skip
      dsimp only [Option.toList, List.cons_append, List.nil_append]
      refine a_if_ne 20 eX9_go_15 (by decide) (by omega) (fun _ => ?_) (fun h => absurd h (by decide))
      refine a_iconst eX9_go_20 ?_
      refine a_ist2 eX9_go_21 (by decide) aw_n2i ?_
      exact lp_go hR hct hrt hC wC hD wD hN hN9 ⟨by omega, by omega⟩ h1 _ 0 σ (Nat.le_refl _) (by omega) hD (frC_rf σ)
    · skip
      dsimp only [Option.toList, List.cons_append, List.nil_append]
      refine a_if_ne 20 eX9_go_15 (by decide) (by omega) (fun h => absurd h (by decide)) (fun _ => ?_)
      refine a_iconst eX9_go_18 ?_
      refine a_iret eX9_go_19 rfl rfl ⟨Nat.zero_le _, Nat.zero_le _⟩ ?_
      exact h0 (fun q => by unfold vgo at q; omega)
  · skip
    dsimp only [Option.toList, List.cons_append, List.nil_append]
    refine a_if_eq 18 eX9_go_4 (by decide) (by omega) (fun _ => ?_) (fun h => absurd h (by decide))
    refine a_iconst eX9_go_18 ?_
    refine a_iret eX9_go_19 rfl rfl ⟨Nat.zero_le _, Nat.zero_le _⟩ ?_
    exact h0 (fun q => by unfold vgo at q; omega)
