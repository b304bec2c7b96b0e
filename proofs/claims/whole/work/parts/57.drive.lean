set_option maxHeartbeats 4000000 in
set_option maxRecDepth 100000 in
theorem c_X5_setOff {l : Launch} {σ : aw_S} {Post : Option Value → aw_S → Prop} {a : Nat} (ha : isCity a) {tw cs : Bool} (hR : σ.2.2 = RF tw cs) {N c r : Int} {m : mS} (hC : cityC σ a m) (wC : wfCity m) (hD : dayC σ 21 0 m) (wD : wfDay m 0 N) (hv : vdrive m c r) (hN : 0 ≤ N ∧ N ≤ 1000) (hk : ∀ σ', dayC σ' 21 0 (mdrive m c r) → frC σ σ' → Post none σ')  : AE l yX5_setOff cX5_setOff 5 (none : Option Jvm.ClassFile.FieldType) 3 77 0 0 SH SH σ [.ref 21, .ref a, .int (jI c), .int (jI r)] Post := by
  show AW l yX5_setOff cX5_setOff 5 (none : Option Jvm.ClassFile.FieldType) 3 77 0 0 SH Post SH 0 0 σ 0 [some (.ref 21), some (.ref a), some (.int (jI c)), some (.int (jI r)), none] []
  obtain ⟨c1, c2, c3, c4, c5, c6, c7, c8⟩ := id hC
  obtain ⟨y1, y2, y3, y4, y5, y6, y7, y8⟩ := id wC
  obtain ⟨d1, d2, d3, d4, d5, d6, d7⟩ := id hD
  obtain ⟨v1, v2, v3, v4, v5, v6, v7, v8⟩ := wfDay_0 wD
  obtain ⟨h1, h2, h3⟩ := id hv
  simp only [Int.zero_add] at d4 d5 d6 d7
  have cr := c2 r (by omega) (by omega)
  have yr := y2 r (by omega) (by omega)
  have e2 := d5 c 2 (by omega) (by omega) (by omega) (by omega)
  have w5 := v5 c (by omega) (by omega)
  unfold wfCab at w5
  have hab := aw_ap_b (a := m 1 r) (b := m (100 + c) 2) (by omega) (by omega)
  refine a_ald1 eX5_setOff_0 ?_
  refine a_ild3 eX5_setOff_1 ?_
  refine a_ald0 eX5_setOff_2 ?_
  refine a_getR 2 (21 + 1) eX5_setOff_3 fl_X5_11 rfl rfl (sh_day (Or.inl rfl)) ((congrFun (congrFun hR _) _).trans (rf_day_2 (Or.inl rfl))) ?_
  refine a_ild2 eX5_setOff_6 ?_
  refine a_aald _ eX5_setOff_7 (sh_day_1 (Or.inl rfl)) rfl rfl rfl (by omega) ((congrFun (congrFun hR _) _).trans (rf_cab (Or.inl rfl) (by omega))) ?_
  refine a_getI 2 eX5_setOff_8 fl_X5_80 rfl rfl (sh_cab (Or.inl rfl) (by omega)) ?_
  refine a_eqtop (y0 := m (100 + c) 2) (by exact e2) ?_
  refine a_cV2 eX5_setOff_11 lk_X5_83 mV_X3_minutesTo (sh_city ha) ⟨_, rfl, rfl⟩ mt_X3_minutesTo rfl rfl rfl rfl rfl rfl (c_X3_minutesTo ha hR (by omega) (by omega) (by omega) ?_)
  dsimp only [Option.toList, List.cons_append, List.nil_append]
  refine a_eqtop (y0 := aw_ap (m 1 r) (m (100 + c) 2)) (by rw [cr.1]) ?_
  refine a_ist4 eX5_setOff_14 (by decide) aw_n2i ?_
  refine a_ald0 eX5_setOff_16 ?_
  refine a_getR 2 (21 + 1) eX5_setOff_17 fl_X5_11 rfl rfl (sh_day (Or.inl rfl)) ((congrFun (congrFun hR _) _).trans (rf_day_2 (Or.inl rfl))) ?_
  refine a_ild2 eX5_setOff_20 ?_
  refine a_aald _ eX5_setOff_21 (sh_day_1 (Or.inl rfl)) rfl rfl rfl (by omega) ((congrFun (congrFun hR _) _).trans (rf_cab (Or.inl rfl) (by omega))) ?_
  refine a_iconst eX5_setOff_22 ?_
  refine a_putI 1 eX5_setOff_23 fl_X5_67 rfl rfl (sh_cab (Or.inl rfl) (by omega)) (fun q h => Or.inl (by cases h; rfl)) ?_
  refine a_ald0 eX5_setOff_26 ?_
  refine a_getR 2 (21 + 1) eX5_setOff_27 fl_X5_11 rfl rfl (sh_day (Or.inl rfl)) ((congrFun (congrFun hR _) _).trans (rf_day_2 (Or.inl rfl))) ?_
  refine a_ild2 eX5_setOff_30 ?_
  refine a_aald _ eX5_setOff_31 (sh_day_1 (Or.inl rfl)) rfl rfl rfl (by omega) ((congrFun (congrFun hR _) _).trans (rf_cab (Or.inl rfl) (by omega))) ?_
  refine a_ild3 eX5_setOff_32 ?_
  refine a_putI 3 eX5_setOff_33 fl_X5_77 rfl rfl (sh_cab (Or.inl rfl) (by omega)) (fun q h => Or.inl (by cases h; rfl)) ?_
  refine a_ald0 eX5_setOff_36 ?_
  refine a_getR 2 (21 + 1) eX5_setOff_37 fl_X5_11 rfl rfl (sh_day (Or.inl rfl)) ((congrFun (congrFun hR _) _).trans (rf_day_2 (Or.inl rfl))) ?_
  refine a_ild2 eX5_setOff_40 ?_
  refine a_aald _ eX5_setOff_41 (sh_day_1 (Or.inl rfl)) rfl rfl rfl (by omega) ((congrFun (congrFun hR _) _).trans (rf_cab (Or.inl rfl) (by omega))) ?_
  refine a_ald0 eX5_setOff_42 ?_
  refine a_getI 0 eX5_setOff_43 fl_X5_33 rfl rfl (sh_day (Or.inl rfl)) ?_
  refine a_eqtop (y0 := m 0 3) (by simp only [rd_si, rd_sa, and_self, true_and, and_true, ↓reduceIte]; (repeat (first | rw [if_pos (by omega)] | rw [if_neg (by omega)])); exact d1) ?_
  refine a_ild4 eX5_setOff_46 ?_
  refine a_iadd eX5_setOff_48 ?_
  refine a_putI 4 eX5_setOff_49 fl_X5_89 rfl rfl (sh_cab (Or.inl rfl) (by omega)) (fun q h => Or.inl (by cases h; rfl)) ?_
  refine AW.gen (fun σ1 hσ1 => ?_)
  have h1o : ∀ (a : Nat) (j : Int), a ≠ (21 + 12 + c.toNat) → σ1.1 a j = σ.1 a j := fun a j h => by rw [hσ1]; simp only [rd_si]; (repeat rw [if_neg (by omega)])
  have h1f : ∀ f : Int, 0 ≤ f → f < 11 → σ1.1 (21 + 12 + c.toNat) f = xdr m c r f := fun f q1 q2 => by
    have e5 := d5 c f (by omega) (by omega) q1 q2
    rw [hσ1]
    rcases (show f = 0 ∨ f = 1 ∨ f = 2 ∨ f = 3 ∨ f = 4 ∨ f = 5 ∨ f = 6 ∨ f = 7 ∨ f = 8 ∨ f = 9 ∨ f = 10 by omega) with rfl | rfl | rfl | rfl | rfl | rfl | rfl | rfl | rfl | rfl | rfl <;> simp [rd_si, xdr, e5]
  have hR : σ1.2.2 = RF tw cs := by rw [hσ1]; exact hR
  have fr1 : frC σ σ1 := ⟨fun a j h => h1o a j (by omega), by rw [hσ1]; rfl⟩
  have hD1 : dayC σ1 21 0 (upr m (100 + c) (xdr m c r)) := dayC_cab h2 (by omega) hD h1o h1f
  have hfr : frm m (upr m (100 + c) (xdr m c r)) := frm_upr (by omega)
  refine a_ild4 eX5_setOff_52 ?_
  refine a_if_ne 63 eX5_setOff_54 (by decide) (by omega) (fun hT54 => ?_) (fun hF54 => ?_)
  · skip
    refine a_vret eX5_setOff_63 rfl rfl ⟨Nat.zero_le _, Nat.zero_le _⟩ ?_
    refine hk σ1 ?_ fr1
    rw [show mdrive m c r = upr m (100 + c) (xdr m c r) from if_neg (by omega)]
    exact hD1
  · skip
    refine a_ald0 eX5_setOff_57 ?_
    refine a_ald1 eX5_setOff_58 ?_
    refine a_ild2 eX5_setOff_59 ?_
    refine a_cV2 eX5_setOff_60 lk_X5_92 mV_X5_comeToRank (sh_day (Or.inl rfl)) ⟨_, rfl, rfl⟩ mt_X5_comeToRank rfl rfl rfl rfl rfl rfl (c_X5_comeToRank ha hR (cityC_m hfr (cityC_s ha fr1 hC)) (wfCity_fr hfr wC) hD1 (dr_D1 wD hv) (dr_X wD hv) hN (fun σ2 hD2 fr2 => ?_))
    dsimp only [Option.toList, List.cons_append, List.nil_append]
    refine a_vret eX5_setOff_63 rfl rfl ⟨Nat.zero_le _, Nat.zero_le _⟩ ?_
    refine hk σ2 ?_ (frC_tr fr1 fr2)
    rw [show mdrive m c r = marr (upr m (100 + c) (xdr m c r)) c r from if_pos (by omega)]
    exact hD2

set_option maxHeartbeats 4000000 in
set_option maxRecDepth 100000 in
theorem c_X9_drive {l : Launch} {σ : aw_S} {Post : Option Value → aw_S → Prop} {tw cs : Bool} (hR : σ.2.2 = RF tw cs) {t : Nat} (hct : isCity t) (hrt : RF tw cs 0 1 = some t) {m : mS} (hC : cityC σ t m) (wC : wfCity m) {N : Int} (hD : dayC σ 21 0 m) (wD : wfDay m 0 N) (hN : 0 ≤ N ∧ N ≤ 1000) {c r : Int} (hr : (-2147483648 ≤ c ∧ c ≤ 2147483647) ∧ (-2147483648 ≤ r ∧ r ≤ 2147483647)) (h1 : vdrive m c r → ∀ σ', dayC σ' 21 0 (mdrive m c r) → frC σ σ' → Post (some (.int (jI 1))) σ') (h0 : ¬ vdrive m c r → Post (some (.int (jI 0))) σ) : AE l yX9_drive cX9_drive 3 (some .boolean) 4 101 0 0 SH SH σ [.ref 0, .int (jI c), .int (jI r)] Post := by
  show AW l yX9_drive cX9_drive 3 (some .boolean) 4 101 0 0 SH Post SH 0 0 σ 0 [some (.ref 0), some (.int (jI c)), some (.int (jI r))] []
  obtain ⟨c1, c2, c3, c4, c5, c6, c7, c8⟩ := id hC
  obtain ⟨w1, w2, w3, w4, w5, w6, w7, w8⟩ := id wC
  obtain ⟨d1, d2, d3, d4, d5, d6, d7⟩ := id hD
  obtain ⟨v1, v2, v3, v4, v5, v6, v7, v8⟩ := id wD
  simp only [Int.zero_add] at d4 d5 d6 d7 v4 v5 v6 v7 v8
  refine a_ald0 eX9_drive_0 ?_
  refine a_ild2 eX9_drive_1 ?_
  refine a_cV1 eX9_drive_2 lk_X9_102 mV_X9_hasRank sh_0 ⟨_, rfl, rfl⟩ mt_X9_hasRank rfl rfl rfl rfl rfl (c_X9_hasRank hR hct hrt hC wC (by omega) (fun hT2 => ?_) (fun hF2 => ?_))
  · skip
    dsimp only [Option.toList, List.cons_append, List.nil_append]
    refine a_if_eq 34 eX9_drive_5 (by decide) (by omega) (fun h => absurd h (by decide)) (fun _ => ?_)
    refine a_ald0 eX9_drive_8 ?_
    refine a_getR 2 21 eX9_drive_9 fl_X9_26 rfl rfl sh_0 ((congrFun (congrFun hR _) _).trans rf_0_2) ?_
    refine a_ild1 eX9_drive_12 ?_
    refine a_cV1 eX9_drive_13 lk_X9_139 mV_X5_has (sh_day (Or.inl rfl)) ⟨_, rfl, rfl⟩ mt_X5_has rfl rfl rfl rfl rfl (c_X5_has hR (Or.inl rfl) hD wC wD hN (by omega) (fun hT13 => ?_) (fun hF13 => ?_))
    · skip
      dsimp only [Option.toList, List.cons_append, List.nil_append]
      refine a_if_eq 34 eX9_drive_16 (by decide) (by omega) (fun h => absurd h (by decide)) (fun _ => ?_)
      have ec := d5 c 1 (by omega) (by omega) (by omega) (by omega)
      have wc := (v5 c (by omega) (by omega)).2.1
      refine a_ald0 eX9_drive_19 ?_
      refine a_getR 2 21 eX9_drive_20 fl_X9_26 rfl rfl sh_0 ((congrFun (congrFun hR _) _).trans rf_0_2) ?_
      refine a_getR 2 (21 + 1) eX9_drive_23 fl_X9_142 rfl rfl (sh_day (Or.inl rfl)) ((congrFun (congrFun hR _) _).trans (rf_day_2 (Or.inl rfl))) ?_
      refine a_ild1 eX9_drive_26 ?_
      refine a_aald _ eX9_drive_27 (sh_day_1 (Or.inl rfl)) rfl rfl rfl (by omega) ((congrFun (congrFun hR _) _).trans (rf_cab (Or.inl rfl) (by omega))) ?_
      refine a_getI 1 eX9_drive_28 fl_X9_146 rfl rfl (sh_cab (Or.inl rfl) (by omega)) ?_
      refine a_if_eq 36 eX9_drive_31 (by decide) (by omega) (fun hT31 => ?_) (fun hF31 => ?_)
      · skip
        refine a_ald0 eX9_drive_36 ?_
        refine a_getR 2 21 eX9_drive_37 fl_X9_26 rfl rfl sh_0 ((congrFun (congrFun hR _) _).trans rf_0_2) ?_
        refine a_ald0 eX9_drive_40 ?_
        refine a_getR 1 t eX9_drive_41 fl_X9_19 rfl rfl sh_0 ((congrFun (congrFun hR _) _).trans hrt) ?_
        refine a_ild1 eX9_drive_44 ?_
        refine a_ild2 eX9_drive_45 ?_
        refine a_cV3 eX9_drive_46 lk_X9_179 mV_X5_setOff (sh_day (Or.inl rfl)) ⟨_, rfl, rfl⟩ mt_X5_setOff rfl rfl rfl rfl rfl rfl rfl (c_X5_setOff hct hR hC wC hD wD (m := m) ⟨by omega, by omega, by omega⟩ hN (fun σ1 hD1 fr1 => ?_))
        dsimp only [Option.toList, List.cons_append, List.nil_append]
        refine a_iconst eX9_drive_49 ?_
        refine a_zret eX9_drive_50 rfl (by first | exact Or.inl rfl | exact Or.inr rfl | omega) rfl ⟨Nat.zero_le _, Nat.zero_le _⟩ ?_
        exact h1 ⟨by omega, by omega, by omega⟩ σ1 hD1 fr1
      · skip
        refine a_iconst eX9_drive_34 ?_
        refine a_zret eX9_drive_35 rfl (by first | exact Or.inl rfl | exact Or.inr rfl | omega) rfl ⟨Nat.zero_le _, Nat.zero_le _⟩ ?_
        exact h0 (fun q => by unfold vdrive at q; omega)
    · skip
      dsimp only [Option.toList, List.cons_append, List.nil_append]
      refine a_if_eq 34 eX9_drive_16 (by decide) (by omega) (fun _ => ?_) (fun h => absurd h (by decide))
      refine a_iconst eX9_drive_34 ?_
      refine a_zret eX9_drive_35 rfl (by first | exact Or.inl rfl | exact Or.inr rfl | omega) rfl ⟨Nat.zero_le _, Nat.zero_le _⟩ ?_
      exact h0 (fun q => by unfold vdrive at q; omega)
  · skip
    dsimp only [Option.toList, List.cons_append, List.nil_append]
    refine a_if_eq 34 eX9_drive_5 (by decide) (by omega) (fun _ => ?_) (fun h => absurd h (by decide))
    refine a_iconst eX9_drive_34 ?_
    refine a_zret eX9_drive_35 rfl (by first | exact Or.inl rfl | exact Or.inr rfl | omega) rfl ⟨Nat.zero_le _, Nat.zero_le _⟩ ?_
    exact h0 (fun q => by unfold vdrive at q; omega)

set_option maxHeartbeats 4000000 in
set_option maxRecDepth 100000 in
theorem c_X10_drive {l : Launch} {σ : aw_S} {Post : Option Value → aw_S → Prop} {tw cs : Bool} (hR : σ.2.2 = RF tw cs) {m : mS} (hM : cityM σ m) (wC : wfCity m) {N : Int} (hM2 : dayM σ m) (wD : wfDay m 0 N) (hN : 0 ≤ N ∧ N ≤ 1000) {c r : Int} (hr : (-2147483648 ≤ c ∧ c ≤ 2147483647) ∧ (-2147483648 ≤ r ∧ r ≤ 2147483647)) (h1 : vdrive m c r → ∀ σ', dayM σ' (mdrive m c r) → frM σ σ' → Post (some (.int (jI 1))) σ') (h0 : ¬ vdrive m c r → Post (some (.int (jI 0))) σ) : AE l yX10_drive cX10_drive 3 (some .boolean) 3 73 0 0 SH SH σ [.ref 171, .int (jI c), .int (jI r)] Post := by
  show AW l yX10_drive cX10_drive 3 (some .boolean) 3 73 0 0 SH Post SH 0 0 σ 0 [some (.ref 171), some (.int (jI c)), some (.int (jI r))] []
  obtain ⟨c1, c2, c3, c4, c5, c6, c7⟩ := id hM
  obtain ⟨w1, w2, w3, w4, w5, w6, w7, w8⟩ := id wC
  obtain ⟨d1, d2, d3, d4, d5, d6, d7⟩ := id hM2
  obtain ⟨v1, v2, v3, v4, v5, v6, v7, v8⟩ := id wD
  simp only [Int.zero_add] at d4 d5 d6 d7 v4 v5 v6 v7 v8
  refine a_ald0 eX10_drive_0 ?_
  refine a_ild1 eX10_drive_1 ?_
  refine a_iconst eX10_drive_2 ?_
  refine a_cV2 eX10_drive_3 lk_X10_293 mV_X10_isAt sh_171 ⟨_, rfl, rfl⟩ mt_X10_isAt rfl rfl rfl rfl rfl rfl (c_X10_isAt hR hM2 wC wD hN (by omega) (fun hT3 => ?_) (fun hF3 => ?_))
  · skip
    dsimp only [Option.toList, List.cons_append, List.nil_append]
    refine a_if_eq 17 eX10_drive_6 (by decide) (by omega) (fun h => absurd h (by decide)) (fun _ => ?_)
    refine a_ald0 eX10_drive_9 ?_
    refine a_ild2 eX10_drive_10 ?_
    refine a_cV1 eX10_drive_11 lk_X10_255 mV_X10_isRank sh_171 ⟨_, rfl, rfl⟩ mt_X10_isRank rfl rfl rfl rfl rfl (c_X10_isRank (by omega) (by omega) (fun hT11 => ?_) (fun hF11 => ?_))
    · skip
      dsimp only [Option.toList, List.cons_append, List.nil_append]
      refine a_if_ne 19 eX10_drive_14 (by decide) (by omega) (fun _ => ?_) (fun h => absurd h (by decide))
      have vv : vdrive m c r := ⟨by omega, by omega, by omega⟩
      have kc := d5 c (by omega) (by omega)
      unfold cabM at kc
      obtain ⟨k0, k9, k1, k2, k3, k4, k5, k6, k7, k8, k10⟩ := kc
      have k1 := k1 (Or.inl (by omega))
      have w5 := v5 c (by omega) (by omega)
      unfold wfCab at w5
      have cr := c2 r (by omega) (by omega)
      have yr := w2 r (by omega) (by omega)
      have hab := aw_ap_b (a := m (100 + c) 2) (b := m 1 r) (by omega) (by omega)
      refine a_ald0 eX10_drive_19 ?_
      refine a_ild1 eX10_drive_20 ?_
      refine a_iconst eX10_drive_21 ?_
      refine a_iconst eX10_drive_22 ?_
      refine a_cV3 eX10_drive_23 lk_X10_269 mV_X10_sets sh_171 ⟨_, rfl, rfl⟩ mt_X10_sets rfl rfl rfl rfl rfl rfl rfl (c_X10_sets hR (by omega) ?_)
      dsimp only [Option.toList, List.cons_append, List.nil_append]
      refine a_ald0 eX10_drive_26 ?_
      refine a_ild1 eX10_drive_27 ?_
      refine a_iconst eX10_drive_28 ?_
      refine a_ild2 eX10_drive_29 ?_
      refine a_cV3 eX10_drive_30 lk_X10_269 mV_X10_sets sh_171 ⟨_, rfl, rfl⟩ mt_X10_sets rfl rfl rfl rfl rfl rfl rfl (c_X10_sets hR (by omega) ?_)
      dsimp only [Option.toList, List.cons_append, List.nil_append]
      refine a_ald0 eX10_drive_33 ?_
      refine a_ild1 eX10_drive_34 ?_
      refine a_iconst eX10_drive_35 ?_
      refine a_ald0 eX10_drive_36 ?_
      refine a_getI 21 eX10_drive_37 fl_X10_243 rfl rfl sh_171 ?_
      refine a_eqtop (y0 := m 0 3) (by simp only [rd_si, rd_sa, and_self, true_and, and_true, ↓reduceIte]; (repeat (first | rw [if_pos (by omega)] | rw [if_neg (by omega)])); exact d1) ?_
      refine a_ald0 eX10_drive_40 ?_
      refine a_ild1 eX10_drive_41 ?_
      refine a_iconst eX10_drive_42 ?_
      refine a_cV2 eX10_drive_43 lk_X10_276 mV_X10_of0 sh_171 ⟨_, rfl, rfl⟩ mt_X10_of0 rfl rfl rfl rfl rfl rfl (c_X10_of0 hR (by omega) ?_)
      dsimp only [Option.toList, List.cons_append, List.nil_append]
      refine a_eqtop (y0 := m (100 + c) 2) (by simp only [rd_si, rd_sa, and_self, true_and, and_true, ↓reduceIte]; (repeat (first | rw [if_pos (by omega)] | rw [if_neg (by omega)])); exact k1) ?_
      refine a_ald0 eX10_drive_46 ?_
      refine a_ild2 eX10_drive_47 ?_
      refine a_cV1 eX10_drive_48 lk_X10_279 mV_X10_place sh_171 ⟨_, rfl, rfl⟩ mt_X10_place rfl rfl rfl rfl rfl (c_X10_place hR (by omega) ?_)
      dsimp only [Option.toList, List.cons_append, List.nil_append]
      refine a_eqtop (y0 := m 1 r) (by simp only [rd_si, rd_sa, and_self, true_and, and_true, ↓reduceIte]; (repeat (first | rw [if_pos (by omega)] | rw [if_neg (by omega)])); exact cr.1) ?_
      refine a_cS2 eX10_drive_51 lk_X10_296 mS_X10_apart mt_X10_apart rfl rfl rfl rfl rfl rfl (c_X10_apart (by omega) ?_)
      dsimp only [Option.toList, List.cons_append, List.nil_append]
      refine a_iadd eX10_drive_54 ?_
      refine a_cV3 eX10_drive_55 lk_X10_269 mV_X10_sets sh_171 ⟨_, rfl, rfl⟩ mt_X10_sets rfl rfl rfl rfl rfl rfl rfl (c_X10_sets hR (by omega) ?_)
      dsimp only [Option.toList, List.cons_append, List.nil_append]
      refine AW.gen (fun σ1 hσ1 => ?_)
      have h1f : ∀ j : Int, σ1.1 182 j = if j = 11 * c + 3 then m 0 3 + aw_ap (m (100 + c) 2) (m 1 r) else if j = 11 * c + 2 then r else if j = 11 * c then 1 else σ.1 182 j := fun j => by
        rw [hσ1]
        simp only [rd_si, true_and, Int.add_zero]
      have h1o : ∀ (a : Nat) (j : Int), ¬ (a = 182 ∧ 11 * c ≤ j ∧ j < 11 * c + 11) → σ1.1 a j = σ.1 a j := fun a j h => by rw [hσ1]; simp only [rd_si]; (repeat rw [if_neg (by omega)])
      have hR : σ1.2.2 = RF tw cs := by rw [hσ1]; exact hR
      have fr1 : frM σ σ1 := ⟨fun a j h h9 => h1o a j (by omega), by rw [hσ1]; rfl⟩
      have hD1 : dayM σ1 (upr m (100 + c) (xdr m c r)) := by
        refine dayM_cab vv.2.1 (by omega) hM2 h1o ?_
        unfold cabM
        simp only [h1f]
        simp only [xdr]
        refine ⟨?_, ?_, ?_, ?_, ?_, ?_, ?_, ?_, ?_, ?_, ?_⟩
        · (repeat (first | rw [if_pos (by omega)] | rw [if_neg (by omega)] | rw [if_pos True.intro])); (try rfl)
        · (repeat (first | rw [if_pos (by omega)] | rw [if_neg (by omega)] | rw [if_pos True.intro])); exact k9
        · intro q; simp at q
        · intro _; (repeat (first | rw [if_pos (by omega)] | rw [if_neg (by omega)] | rw [if_pos True.intro])); (try rfl)
        · intro _; (repeat (first | rw [if_pos (by omega)] | rw [if_neg (by omega)] | rw [if_pos True.intro])); rw [aw_ap_comm]; (try rfl)
        · (repeat (first | rw [if_pos (by omega)] | rw [if_neg (by omega)] | rw [if_pos True.intro])); exact k4
        · (repeat (first | rw [if_pos (by omega)] | rw [if_neg (by omega)] | rw [if_pos True.intro])); exact k5
        · (repeat (first | rw [if_pos (by omega)] | rw [if_neg (by omega)] | rw [if_pos True.intro])); exact k6
        · (repeat (first | rw [if_pos (by omega)] | rw [if_neg (by omega)] | rw [if_pos True.intro])); exact k7
        · (repeat (first | rw [if_pos (by omega)] | rw [if_neg (by omega)] | rw [if_pos True.intro])); exact k8
        · (repeat (first | rw [if_pos (by omega)] | rw [if_neg (by omega)] | rw [if_pos True.intro])); exact k10
      have hfr : frm m (upr m (100 + c) (xdr m c r)) := frm_upr (by omega)
      refine a_ald0 eX10_drive_58 ?_
      refine a_ild1 eX10_drive_59 ?_
      refine a_iconst eX10_drive_60 ?_
      refine a_cV2 eX10_drive_61 lk_X10_276 mV_X10_of0 sh_171 ⟨_, rfl, rfl⟩ mt_X10_of0 rfl rfl rfl rfl rfl rfl (c_X10_of0 hR (by omega) ?_)
      dsimp only [Option.toList, List.cons_append, List.nil_append]
      refine a_eqtop (y0 := m 0 3 + aw_ap (m (100 + c) 2) (m 1 r)) (by rw [h1f, if_pos rfl]) ?_
      refine a_ald0 eX10_drive_64 ?_
      refine a_getI 21 eX10_drive_65 fl_X10_243 rfl rfl sh_171 ?_
      refine a_eqtop (y0 := m 0 3) (by rw [h1o 171 21 (by omega)]; exact d1) ?_
      refine a_icmp_ne 76 eX10_drive_68 (by decide) (by omega) (fun hT68 => ?_) (fun hF68 => ?_)
      · skip
        refine a_iconst eX10_drive_76 ?_
        refine a_zret eX10_drive_77 rfl (by first | exact Or.inl rfl | exact Or.inr rfl | omega) rfl ⟨Nat.zero_le _, Nat.zero_le _⟩ ?_
        refine h1 vv σ1 ?_ fr1
        rw [show mdrive m c r = upr m (100 + c) (xdr m c r) from if_neg (by rw [aw_ap_comm]; omega)]
        exact hD1
      · skip
        refine a_ald0 eX10_drive_71 ?_
        refine a_ild1 eX10_drive_72 ?_
        refine a_cV1 eX10_drive_73 lk_X10_299 mV_X10_arrives sh_171 ⟨_, rfl, rfl⟩ mt_X10_arrives rfl rfl rfl rfl rfl (c_X10_arrives hR (cityM_m hfr (cityM_s fr1 hM)) (wfCity_fr hfr wC) hD1 (dr_D1 wD vv) (dr_X wD vv) hN (by rw [upr_eq]; rfl) (fun σ2 hD2 fr2 => ?_))
        dsimp only [Option.toList, List.cons_append, List.nil_append]
        refine a_iconst eX10_drive_76 ?_
        refine a_zret eX10_drive_77 rfl (by first | exact Or.inl rfl | exact Or.inr rfl | omega) rfl ⟨Nat.zero_le _, Nat.zero_le _⟩ ?_
        refine h1 vv σ2 ?_ (frM_tr fr1 fr2)
        rw [show mdrive m c r = marr (upr m (100 + c) (xdr m c r)) c r from if_pos (by rw [aw_ap_comm]; omega)]
        exact hD2
    · skip
      dsimp only [Option.toList, List.cons_append, List.nil_append]
      refine a_if_ne 19 eX10_drive_14 (by decide) (by omega) (fun h => absurd h (by decide)) (fun _ => ?_)
      refine a_iconst eX10_drive_17 ?_
      refine a_zret eX10_drive_18 rfl (by first | exact Or.inl rfl | exact Or.inr rfl | omega) rfl ⟨Nat.zero_le _, Nat.zero_le _⟩ ?_
      exact h0 (fun q => by unfold vdrive at q; omega)
  · skip
    dsimp only [Option.toList, List.cons_append, List.nil_append]
    refine a_if_eq 17 eX10_drive_6 (by decide) (by omega) (fun _ => ?_) (fun h => absurd h (by decide))
    refine a_iconst eX10_drive_17 ?_
    refine a_zret eX10_drive_18 rfl (by first | exact Or.inl rfl | exact Or.inr rfl | omega) rfl ⟨Nat.zero_le _, Nat.zero_le _⟩ ?_
    exact h0 (fun q => by unfold vdrive at q; omega)
