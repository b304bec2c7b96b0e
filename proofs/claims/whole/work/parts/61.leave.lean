set_option maxHeartbeats 4000000 in
set_option maxRecDepth 100000 in
theorem c_X5_leaveRow {l : Launch} {σ : aw_S} {Post : Option Value → aw_S → Prop} {tw cs : Bool} (hR : σ.2.2 = RF tw cs) {N : Int} {m : mS} (hD : dayC σ 21 0 m) (wC : wfCity m) (wD : wfDay m 0 N) (hN : 0 ≤ N ∧ N ≤ 1000) {c : Int} (hv : vst m c) (hk : ∀ σ', dayC σ' 21 0 (mlv m c) → frC σ σ' → Post none σ') : AE l yX5_leaveRow cX5_leaveRow 4 (none : Option Jvm.ClassFile.FieldType) 4 87 0 0 SH SH σ [.ref 21, .int (jI c)] Post := by
  show AW l yX5_leaveRow cX5_leaveRow 4 (none : Option Jvm.ClassFile.FieldType) 4 87 0 0 SH Post SH 0 0 σ 0 [some (.ref 21), some (.int (jI c)), none, none] []
  obtain ⟨d1, d2, d3, d4, d5, d6, d7⟩ := id hD
  obtain ⟨w1, w2, w3, w4, w5, w6, w7, w8⟩ := id wC
  obtain ⟨v1, v2, v3, v4, v5, v6, v7, v8⟩ := id wD
  simp only [Int.zero_add] at d4 d5 d6 d7 v4 v5 v6 v7 v8
  have hp := pos0 wC wD hv
  obtain ⟨⟨hv1, hv2⟩, hv3⟩ := id hv
  obtain ⟨r, hrk⟩ : ∃ r, r = m (100 + c) 3 := ⟨_, rfl⟩
  obtain ⟨k, hk0⟩ : ∃ k, k = mpos m 0 c := ⟨_, rfl⟩
  rw [← hrk, ← hk0] at hp
  obtain ⟨hp1, hp2, hp3⟩ := hp
  have v4r := v4 r (by omega) (by omega)
  have d4r := d4 r (by omega) (by omega)
  refine a_ald0 eX5_leaveRow_0 ?_
  refine a_ild1 eX5_leaveRow_1 ?_
  refine a_cV1 eX5_leaveRow_2 lk_X5_142 mV_X5_placeInRow (sh_day (Or.inl rfl)) ⟨_, rfl, rfl⟩ mt_X5_placeInRow rfl rfl rfl rfl rfl (c_X5_placeInRow hR (Or.inl rfl) hD wC wD hN (by have := (hv).1; omega) (fun _ _ => ?_) (fun q => absurd ⟨(hv).1, by rw [Int.zero_add]; exact (hv).2⟩ q))
  dsimp only [Option.toList, List.cons_append, List.nil_append]
  refine a_eqtop (y0 := k) (by rw [hk0]) ?_
  refine a_ist2 eX5_leaveRow_5 (by decide) aw_n2i ?_
  refine a_ild2 eX5_leaveRow_6 ?_
  refine a_iconst eX5_leaveRow_7 ?_
  refine a_icmp_ne 12 eX5_leaveRow_8 (by decide) (by omega) (fun hT8 => ?_) (fun hF8 => ?_)
  · skip
    refine a_ald0 eX5_leaveRow_12 ?_
    refine a_getR 2 (21 + 1) eX5_leaveRow_13 fl_X5_11 rfl rfl (sh_day (Or.inl rfl)) ((congrFun (congrFun hR _) _).trans (rf_day_2 (Or.inl rfl))) ?_
    refine a_ild1 eX5_leaveRow_16 ?_
    refine a_aald _ eX5_leaveRow_17 (sh_day_1 (Or.inl rfl)) rfl rfl rfl (by omega) ((congrFun (congrFun hR _) _).trans (rf_cab (Or.inl rfl) (by omega))) ?_
    refine a_getI 3 eX5_leaveRow_18 fl_X5_77 rfl rfl (sh_cab (Or.inl rfl) (by omega)) ?_
    refine a_eqtop (y0 := r) (by rw [hrk]; exact d5 c 3 (by omega) (by omega) (by omega) (by omega)) ?_
    refine a_ist3 eX5_leaveRow_21 (by decide) aw_n2i ?_
    refine a_ald0 eX5_leaveRow_22 ?_
    refine a_getR 4 (21 + 9) eX5_leaveRow_23 fl_X5_22 rfl rfl (sh_day (Or.inl rfl)) ((congrFun (congrFun hR _) _).trans (rf_day_4 (Or.inl rfl))) ?_
    refine a_ild3 eX5_leaveRow_26 ?_
    refine a_dup2 eX5_leaveRow_27 rfl rfl ?_
    refine a_iald eX5_leaveRow_28 (sh_day_9 (Or.inl rfl)) rfl (by omega) ?_
    refine a_eqtop (y0 := m 10 r) (by exact d4r.1) ?_
    refine a_iconst eX5_leaveRow_29 ?_
    refine a_isub eX5_leaveRow_30 ?_
    refine a_iast eX5_leaveRow_31 (sh_day_9 (Or.inl rfl)) rfl (by omega) ?_
    refine a_ald0 eX5_leaveRow_32 ?_
    refine a_getR 3 (21 + 2) eX5_leaveRow_33 fl_X5_19 rfl rfl (sh_day (Or.inl rfl)) ((congrFun (congrFun hR _) _).trans (rf_day_3 (Or.inl rfl))) ?_
    refine a_ild3 eX5_leaveRow_36 ?_
    refine a_aald _ eX5_leaveRow_37 (sh_day_2 (Or.inl rfl)) rfl rfl rfl (by omega) ((congrFun (congrFun hR _) _).trans (rf_row (Or.inl rfl) (by omega))) ?_
    refine a_ild2 eX5_leaveRow_38 ?_
    refine a_iconst eX5_leaveRow_39 ?_
    refine a_iadd eX5_leaveRow_40 ?_
    refine a_ald0 eX5_leaveRow_41 ?_
    refine a_getR 3 (21 + 2) eX5_leaveRow_42 fl_X5_19 rfl rfl (sh_day (Or.inl rfl)) ((congrFun (congrFun hR _) _).trans (rf_day_3 (Or.inl rfl))) ?_
    refine a_ild3 eX5_leaveRow_45 ?_
    refine a_aald _ eX5_leaveRow_46 (sh_day_2 (Or.inl rfl)) rfl rfl rfl (by omega) ((congrFun (congrFun hR _) _).trans (rf_row (Or.inl rfl) (by omega))) ?_
    refine a_ild2 eX5_leaveRow_47 ?_
    refine a_ald0 eX5_leaveRow_48 ?_
    refine a_getR 4 (21 + 9) eX5_leaveRow_49 fl_X5_22 rfl rfl (sh_day (Or.inl rfl)) ((congrFun (congrFun hR _) _).trans (rf_day_4 (Or.inl rfl))) ?_
    refine a_ild3 eX5_leaveRow_52 ?_
    refine a_iald eX5_leaveRow_53 (sh_day_9 (Or.inl rfl)) rfl (by omega) ?_
    refine a_eqtop (y0 := m 10 r - 1) (by (simp only [rd_si, rd_sa, and_self, true_and, and_true, ↓reduceIte]; (repeat (first | rw [if_pos (by omega)] | rw [if_neg (by omega)])); (try omega))) ?_
    refine a_ild2 eX5_leaveRow_54 ?_
    refine a_isub eX5_leaveRow_55 ?_
    refine a_copy eX5_leaveRow_56 lk_X5_53 (sh_row (Or.inl rfl) (by omega)) (sh_row (Or.inl rfl) (by omega)) rfl (by omega) rfl rfl ?_
    refine a_vret eX5_leaveRow_59 rfl rfl ⟨Nat.zero_le _, Nat.zero_le _⟩ ?_
    refine hk _ ?_ ⟨fun a j h => by simp only [rd_si, rd_sa]; (repeat rw [if_neg (by omega)]), rfl⟩
    rw [show mlv m c = mrem m r k by unfold mlv; rw [hrk, hk0]]
    refine dayC_row (by omega) (by omega) (rowD_rem (by omega)) hD (fun a j q1 q2 => by simp only [rd_si, rd_sa, and_self, true_and, and_true, ↓reduceIte]; (repeat rw [if_neg (by omega)])) (by simp only [rd_si, rd_sa, and_self, true_and, and_true, ↓reduceIte]; (repeat (first | rw [if_pos (by omega)] | rw [if_neg (by omega)] | rw [if_pos True.intro])); (try rfl)) (fun j j1 j2 => ?_)
    simp only [rd_si, rd_sa, and_self, true_and, and_true, ↓reduceIte]
    by_cases q : j < k
    · rw [if_neg (by omega), if_neg (by omega), if_pos q]; exact d6 r j (by omega) (by omega) j1 (by omega)
    · rw [if_pos (by omega), if_neg (by omega), if_neg q, show (k + 1 + (j - k) : Int) = j + 1 by omega]; exact d6 r (j + 1) (by omega) (by omega) (by omega) (by omega)
  · skip
    refine a_vret eX5_leaveRow_11 rfl rfl ⟨Nat.zero_le _, Nat.zero_le _⟩ ?_
    exfalso; omega

set_option maxHeartbeats 4000000 in
set_option maxRecDepth 100000 in
theorem c_X5_serve {l : Launch} {σ : aw_S} {Post : Option Value → aw_S → Prop} {a : Nat} (ha : isCity a) {tw cs : Bool} (hR : σ.2.2 = RF tw cs) {N c mi p : Int} {m : mS} (hC : cityC σ a m) (wC : wfCity m) (hD : dayC σ 21 0 m) (wD : wfDay m 0 N) (hv : vst m c) (hm : vfare mi p) (hN : 0 ≤ N ∧ N ≤ 1000) (hk : ∀ σ', dayC σ' 21 0 (mserve m c mi p) → frC σ σ' → Post none σ')  : AE l yX5_serve cX5_serve 6 (none : Option Jvm.ClassFile.FieldType) 5 110 0 0 SH SH σ [.ref 21, .ref a, .int (jI c), .int (jI mi), .int (jI p)] Post := by
  show AW l yX5_serve cX5_serve 6 (none : Option Jvm.ClassFile.FieldType) 5 110 0 0 SH Post SH 0 0 σ 0 [some (.ref 21), some (.ref a), some (.int (jI c)), some (.int (jI mi)), some (.int (jI p)), none] []
  refine a_ald0 eX5_serve_0 ?_
  refine a_ild2 eX5_serve_1 ?_
  refine a_cV1 eX5_serve_2 lk_X5_145 mV_X5_leaveRow (sh_day (Or.inl rfl)) ⟨_, rfl, rfl⟩ mt_X5_leaveRow rfl rfl rfl rfl rfl (c_X5_leaveRow hR hD wC wD hN hv (fun σ1 hD1 fr1 => ?_))
  dsimp only [Option.toList, List.cons_append, List.nil_append]
  have hR := frC_R fr1 hR
  have hf1 := lv_frm wC wD hv
  have hC1 := cityC_m hf1 (cityC_s ha fr1 hC)
  have wC1 := wfCity_fr hf1 wC
  have w1 := lv_D1 wC wD hv
  have lc := lv_cab wC wD hv
  have l0 : ∀ j : Int, mlv m c 0 j = m 0 j := fun j => lv_0 wC wD hv
  have hp := pos0 wC wD hv
  obtain ⟨⟨hv1, hv2⟩, hv3⟩ := id hv
  obtain ⟨hm1, hm2⟩ := id hm
  have l00 := l0 0
  have l04 := l0 4
  obtain ⟨m1, hm1e⟩ : ∃ m1, m1 = mlv m c := ⟨_, rfl⟩
  rw [← hm1e] at hD1 hC1 wC1 w1 lc l00 l04
  obtain ⟨c1, c2, c3, c4, c5, c6, c7, c8⟩ := id hC1
  obtain ⟨y1, y2, y3, y4, y5, y6, y7, y8⟩ := id wC1
  obtain ⟨d1, d2, d3, d4, d5, d6, d7⟩ := id hD1
  obtain ⟨v1, v2, v3, v4, v5, v6, v7, v8⟩ := id w1
  simp only [Int.zero_add] at d4 d5 d6 d7
  unfold wfCab at lc
  have y6 := y6 (by omega)
  have c6 := c6 (by omega)
  have ha2 : a ≤ 13 := by rcases ha with rfl | rfl <;> omega
  have hpb := mprice_b (mi := mi) (v := 0) wC1 (by omega) hm1 (by omega)
  refine a_ald0 eX5_serve_5 ?_
  refine a_getR 2 (21 + 1) eX5_serve_6 fl_X5_11 rfl rfl (sh_day (Or.inl rfl)) ((congrFun (congrFun hR _) _).trans (rf_day_2 (Or.inl rfl))) ?_
  refine a_ild2 eX5_serve_9 ?_
  refine a_aald _ eX5_serve_10 (sh_day_1 (Or.inl rfl)) rfl rfl rfl (by omega) ((congrFun (congrFun hR _) _).trans (rf_cab (Or.inl rfl) (by omega))) ?_
  refine a_ast5 eX5_serve_11 (by decide) aw_n2i ?_
  refine a_ald5 eX5_serve_13 ?_
  refine a_iconst eX5_serve_15 ?_
  refine a_putI 1 eX5_serve_16 fl_X5_67 rfl rfl (sh_cab (Or.inl rfl) (by omega)) (fun q h => Or.inl (by cases h; rfl)) ?_
  refine a_ald5 eX5_serve_19 ?_
  refine a_ild4 eX5_serve_21 ?_
  refine a_putI 2 eX5_serve_23 fl_X5_80 rfl rfl (sh_cab (Or.inl rfl) (by omega)) (fun q h => Or.inl (by cases h; rfl)) ?_
  refine a_ald5 eX5_serve_26 ?_
  refine a_iconst eX5_serve_28 ?_
  refine a_putI 3 eX5_serve_29 fl_X5_77 rfl rfl (sh_cab (Or.inl rfl) (by omega)) (fun q h => Or.inl (by cases h; rfl)) ?_
  refine a_ald5 eX5_serve_32 ?_
  refine a_ald0 eX5_serve_34 ?_
  refine a_getI 0 eX5_serve_35 fl_X5_33 rfl rfl (sh_day (Or.inl rfl)) ?_
  refine a_eqtop (y0 := m1 0 3) (by simp only [rd_si, rd_sa, and_self, true_and, and_true, ↓reduceIte]; (repeat (first | rw [if_pos (by omega)] | rw [if_neg (by omega)] | rw [if_pos True.intro])); exact d1) ?_
  refine a_ild3 eX5_serve_38 ?_
  refine a_iadd eX5_serve_39 ?_
  refine a_putI 4 eX5_serve_40 fl_X5_89 rfl rfl (sh_cab (Or.inl rfl) (by omega)) (fun q h => Or.inl (by cases h; rfl)) ?_
  refine AW.gen (fun σ2 hσ2 => ?_)
  have h2o : ∀ (a : Nat) (j : Int), a ≠ (21 + 12 + c.toNat) → σ2.1 a j = σ1.1 a j := fun a j h => by rw [hσ2]; simp only [rd_si]; (repeat rw [if_neg (by omega)])
  have h2f : ∀ f : Int, σ2.1 (21 + 12 + c.toNat) f = if f = 4 then m1 0 3 + mi else if f = 3 then -1 else if f = 2 then p else if f = 1 then 3 else σ1.1 (21 + 12 + c.toNat) f := fun f => by
    rw [hσ2]; simp only [rd_si, true_and]
  have h2s : σ2.2 = σ1.2 := by rw [hσ2]; rfl
  have hR : σ2.2.2 = RF tw cs := by rw [h2s]; exact hR
  have p9 := (h2o a 9 (by omega)).trans c6.1
  have p10 := (h2o a 10 (by omega)).trans c6.2.1
  have p11 := (h2o a 11 (by omega)).trans c6.2.2.1
  have p12 := (h2o a 12 (by omega)).trans c6.2.2.2.1
  have p15 := (h2o a 15 (by omega)).trans c6.2.2.2.2
  refine a_ald5 eX5_serve_43 ?_
  refine a_dup eX5_serve_45 rfl ?_
  refine a_getI 7 eX5_serve_46 fl_X5_148 rfl rfl (sh_cab (Or.inl rfl) (by omega)) ?_
  refine a_eqtop (y0 := m1 (100 + c) 7) (by rw [h2f]; (repeat (first | rw [if_pos (by omega)] | rw [if_neg (by omega)] | rw [if_pos True.intro])); exact d5 c 7 (by omega) (by omega) (by omega) (by omega)) ?_
  refine a_ald1 eX5_serve_49 ?_
  refine a_ild3 eX5_serve_50 ?_
  refine a_iconst eX5_serve_51 ?_
  refine a_cV2 eX5_serve_52 lk_X5_151 mV_X3_priceOf (sh_city ha) ⟨_, rfl, rfl⟩ mt_X3_priceOf rfl rfl rfl rfl rfl rfl (c_X3_priceOf ha (by omega) (by omega) (by omega) (by omega) (by omega) hm1 (by omega) ?_)
  dsimp only [Option.toList, List.cons_append, List.nil_append]
  refine a_eqtop (y0 := mprice m1 mi 0) (by unfold mprice; rw [p9, p10, p11, p12, p15]) ?_
  refine a_iadd eX5_serve_55 ?_
  refine a_putI 7 eX5_serve_56 fl_X5_148 rfl rfl (sh_cab (Or.inl rfl) (by omega)) (fun q h => Or.inl (by cases h; rfl)) ?_
  refine a_ald5 eX5_serve_59 ?_
  refine a_iconst eX5_serve_61 ?_
  refine a_putI 9 eX5_serve_62 fl_X5_154 rfl rfl (sh_cab (Or.inl rfl) (by omega)) (fun q h => Or.inl (by cases h; rfl)) ?_
  refine a_vret eX5_serve_65 rfl rfl ⟨Nat.zero_le _, Nat.zero_le _⟩ ?_
  refine hk _ ?_ (frC_tr fr1 ⟨fun a j h => by simp only [rd_si]; (repeat rw [if_neg (by omega)]); exact h2o a j (by omega), h2s⟩)
  rw [show mserve m c mi p = upr m1 (100 + c) (xbz m1 c mi p) by rw [hm1e]; rfl]
  refine dayC_cab (by omega) (by omega) hD1 (fun a j q => by simp only [rd_si]; (repeat rw [if_neg (by omega)]); exact h2o a j (by omega)) (fun f q1 q2 => ?_)
  rcases (show f = 0 ∨ f = 1 ∨ f = 2 ∨ f = 3 ∨ f = 4 ∨ f = 5 ∨ f = 6 ∨ f = 7 ∨ f = 8 ∨ f = 9 ∨ f = 10 by omega) with rfl | rfl | rfl | rfl | rfl | rfl | rfl | rfl | rfl | rfl | rfl
  · (simp only [rd_si, true_and, h2f, xbz]; (repeat (first | rw [if_pos (by omega)] | rw [if_neg (by omega)] | rw [if_pos True.intro])); (first | done | rfl | exact d5 c 0 (by omega) (by omega) (by omega) (by omega) | omega))
  · (simp only [rd_si, true_and, h2f, xbz]; (repeat (first | rw [if_pos (by omega)] | rw [if_neg (by omega)] | rw [if_pos True.intro])); (first | done | rfl | exact d5 c 1 (by omega) (by omega) (by omega) (by omega) | omega))
  · (simp only [rd_si, true_and, h2f, xbz]; (repeat (first | rw [if_pos (by omega)] | rw [if_neg (by omega)] | rw [if_pos True.intro])); (first | done | rfl | exact d5 c 2 (by omega) (by omega) (by omega) (by omega) | omega))
  · (simp only [rd_si, true_and, h2f, xbz]; (repeat (first | rw [if_pos (by omega)] | rw [if_neg (by omega)] | rw [if_pos True.intro])); (first | done | rfl | exact d5 c 3 (by omega) (by omega) (by omega) (by omega) | omega))
  · (simp only [rd_si, true_and, h2f, xbz]; (repeat (first | rw [if_pos (by omega)] | rw [if_neg (by omega)] | rw [if_pos True.intro])); (first | done | rfl | exact d5 c 4 (by omega) (by omega) (by omega) (by omega) | omega))
  · (simp only [rd_si, true_and, h2f, xbz]; (repeat (first | rw [if_pos (by omega)] | rw [if_neg (by omega)] | rw [if_pos True.intro])); (first | done | rfl | exact d5 c 5 (by omega) (by omega) (by omega) (by omega) | omega))
  · (simp only [rd_si, true_and, h2f, xbz]; (repeat (first | rw [if_pos (by omega)] | rw [if_neg (by omega)] | rw [if_pos True.intro])); (first | done | rfl | exact d5 c 6 (by omega) (by omega) (by omega) (by omega) | omega))
  · (simp only [rd_si, true_and, h2f, xbz]; (repeat (first | rw [if_pos (by omega)] | rw [if_neg (by omega)] | rw [if_pos True.intro])); (first | done | rfl | exact d5 c 7 (by omega) (by omega) (by omega) (by omega) | omega))
  · (simp only [rd_si, true_and, h2f, xbz]; (repeat (first | rw [if_pos (by omega)] | rw [if_neg (by omega)] | rw [if_pos True.intro])); (first | done | rfl | exact d5 c 8 (by omega) (by omega) (by omega) (by omega) | omega))
  · (simp only [rd_si, true_and, h2f, xbz]; (repeat (first | rw [if_pos (by omega)] | rw [if_neg (by omega)] | rw [if_pos True.intro])); (first | done | rfl | exact d5 c 9 (by omega) (by omega) (by omega) (by omega) | omega))
  · (simp only [rd_si, true_and, h2f, xbz]; (repeat (first | rw [if_pos (by omega)] | rw [if_neg (by omega)] | rw [if_pos True.intro])); (first | done | rfl | exact d5 c 10 (by omega) (by omega) (by omega) (by omega) | omega))

set_option maxHeartbeats 4000000 in
set_option maxRecDepth 100000 in
theorem c_X9_take {l : Launch} {σ : aw_S} {Post : Option Value → aw_S → Prop} {tw cs : Bool} (hR : σ.2.2 = RF tw cs) {t : Nat} (hct : isCity t) (hrt : RF tw cs 0 1 = some t) {m : mS} (hC : cityC σ t m) (wC : wfCity m) {N : Int} (hD : dayC σ 21 0 m) (wD : wfDay m 0 N) (hN : 0 ≤ N ∧ N ≤ 1000) {r mi p : Int} (hr : (-2147483648 ≤ r ∧ r ≤ 2147483647) ∧ (-2147483648 ≤ mi ∧ mi ≤ 2147483647) ∧ (-2147483648 ≤ p ∧ p ≤ 2147483647)) (h1 : vtake m r mi p → ∀ σ', dayC σ' 21 0 (mtake m r mi p) → frC σ σ' → Post (some (.int (jI (m (200 + r) 0)))) σ') (h0 : ¬ vtake m r mi p → Post (some (.int (jI (-1)))) σ) : AE l yX9_take cX9_take 5 (some .int) 6 135 0 0 SH SH σ [.ref 0, .int (jI r), .int (jI mi), .int (jI p)] Post := by
  show AW l yX9_take cX9_take 5 (some .int) 6 135 0 0 SH Post SH 0 0 σ 0 [some (.ref 0), some (.int (jI r)), some (.int (jI mi)), some (.int (jI p)), none] []
  obtain ⟨c1, c2, c3, c4, c5, c6, c7, c8⟩ := id hC
  obtain ⟨w1, w2, w3, w4, w5, w6, w7, w8⟩ := id wC
  obtain ⟨d1, d2, d3, d4, d5, d6, d7⟩ := id hD
  obtain ⟨v1, v2, v3, v4, v5, v6, v7, v8⟩ := id wD
  simp only [Int.zero_add] at d4 d5 d6 d7 v4 v5 v6 v7 v8
  refine a_ald0 eX9_take_0 ?_
  refine a_ild1 eX9_take_1 ?_
  refine a_cV1 eX9_take_2 lk_X9_102 mV_X9_hasRank sh_0 ⟨_, rfl, rfl⟩ mt_X9_hasRank rfl rfl rfl rfl rfl (c_X9_hasRank hR hct hrt hC wC (by omega) (fun hT2 => ?_) (fun hF2 => ?_))
  · skip
    dsimp only [Option.toList, List.cons_append, List.nil_append]
    refine a_if_eq 28 eX9_take_5 (by decide) (by omega) (fun h => absurd h (by decide)) (fun _ => ?_)
    refine a_ald0 eX9_take_8 ?_
    refine a_getR 2 21 eX9_take_9 fl_X9_26 rfl rfl sh_0 ((congrFun (congrFun hR _) _).trans rf_0_2) ?_
    refine a_getR 4 (21 + 9) eX9_take_12 fl_X9_116 rfl rfl (sh_day (Or.inl rfl)) ((congrFun (congrFun hR _) _).trans (rf_day_4 (Or.inl rfl))) ?_
    refine a_ild1 eX9_take_15 ?_
    refine a_iald eX9_take_16 (sh_day_9 (Or.inl rfl)) rfl (by omega) ?_
    have v4r := v4 r (by omega) (by omega)
    refine a_eqtop (y0 := m 10 r) (by exact (d4 r (by omega) (by omega)).1) ?_
    refine a_if_eq 28 eX9_take_17 (by decide) (by omega) (fun hT17 => ?_) (fun hF17 => ?_)
    · skip
      refine a_iconst eX9_take_28 ?_
      refine a_iret eX9_take_29 rfl rfl ⟨Nat.zero_le _, Nat.zero_le _⟩ ?_
      exact h0 (fun q => by unfold vtake vfare at q; omega)
    · skip
      refine a_ild2 eX9_take_20 ?_
      refine a_ild3 eX9_take_21 ?_
      refine a_cS2 eX9_take_22 lk_X9_187 mS_X9_isFare mt_X9_isFare rfl rfl rfl rfl rfl rfl (c_X9_isFare (by omega) (fun hT22 => ?_) (fun hF22 => ?_))
      · skip
        dsimp only [Option.toList, List.cons_append, List.nil_append]
        refine a_if_ne 30 eX9_take_25 (by decide) (by omega) (fun _ => ?_) (fun h => absurd h (by decide))
        have hv : vtake m r mi p := ⟨by omega, by omega, ⟨by omega, by omega⟩⟩
        have hs := take_st wC wD hv
        have h6 := d6 r 0 (by omega) (by omega) (by omega) (by omega)
        obtain ⟨c, hc0⟩ : ∃ c, c = m (200 + r) 0 := ⟨_, rfl⟩
        rw [← hc0] at hs h6
        obtain ⟨hs1, hs2⟩ := hs
        obtain ⟨⟨hs3, hs4⟩, hs5⟩ := id hs1
        refine a_ald0 eX9_take_30 ?_
        refine a_getR 2 21 eX9_take_31 fl_X9_26 rfl rfl sh_0 ((congrFun (congrFun hR _) _).trans rf_0_2) ?_
        refine a_getR 3 (21 + 2) eX9_take_34 fl_X9_183 rfl rfl (sh_day (Or.inl rfl)) ((congrFun (congrFun hR _) _).trans (rf_day_3 (Or.inl rfl))) ?_
        refine a_ild1 eX9_take_37 ?_
        refine a_aald _ eX9_take_38 (sh_day_2 (Or.inl rfl)) rfl rfl rfl (by omega) ((congrFun (congrFun hR _) _).trans (rf_row (Or.inl rfl) (by omega))) ?_
        refine a_iconst eX9_take_39 ?_
        refine a_iald eX9_take_40 (sh_row (Or.inl rfl) (by omega)) rfl (by omega) ?_
        refine a_eqtop (y0 := c) (by exact h6) ?_
        refine a_ist4 eX9_take_41 (by decide) aw_n2i ?_
        refine a_ald0 eX9_take_43 ?_
        refine a_getR 2 21 eX9_take_44 fl_X9_26 rfl rfl sh_0 ((congrFun (congrFun hR _) _).trans rf_0_2) ?_
        refine a_ald0 eX9_take_47 ?_
        refine a_getR 1 t eX9_take_48 fl_X9_19 rfl rfl sh_0 ((congrFun (congrFun hR _) _).trans hrt) ?_
        refine a_ild4 eX9_take_51 ?_
        refine a_ild2 eX9_take_53 ?_
        refine a_ild3 eX9_take_54 ?_
        refine a_cV4 eX9_take_55 lk_X9_191 mV_X5_serve (sh_day (Or.inl rfl)) ⟨_, rfl, rfl⟩ mt_X5_serve rfl rfl rfl rfl rfl rfl rfl rfl (c_X5_serve hct hR hC wC hD wD hs1 hv.2.2 hN (fun σ1 hD1 fr1 => ?_))
        dsimp only [Option.toList, List.cons_append, List.nil_append]
        have hR := frC_R fr1 hR
        have hC1 := cityC_s hct fr1 hC
        obtain ⟨g1, g2, g3, g4, g5, g6, g7, g8⟩ := id hC1
        have hfs := serve_frm (mi := mi) (p := p) wC wD hs1
        have hws := serve_wf wC hN.1 wD hs1 hv.2.2
        have e4 : mserve m c mi p 0 4 = m 0 4 := (upr_ne (by omega)).trans (lv_0 wC wD hs1)
        obtain ⟨m2, hm2⟩ : ∃ m2, m2 = mserve m c mi p := ⟨_, rfl⟩
        rw [← hm2] at hD1 hfs hws e4
        have e91 : m2 9 1 = m 9 1 := hfs _ _ (by omega) (by omega) (by omega)
        have et : mtake m r mi p = if mi < m 9 0 then upr m2 (100 + c) (xtk m2 c r) else m2 := by unfold mtake; rw [← hc0, ← hm2]
        refine a_ild2 eX9_take_58 ?_
        refine a_ald0 eX9_take_59 ?_
        refine a_getR 1 t eX9_take_60 fl_X9_19 rfl rfl sh_0 ((congrFun (congrFun hR _) _).trans hrt) ?_
        refine a_getI 13 eX9_take_63 fl_X9_195 rfl rfl (sh_city hct) ?_
        refine a_eqtop (y0 := m 9 0) (by exact g7) ?_
        refine a_icmp_ge 111 eX9_take_66 (by decide) (by omega) (fun hT66 => ?_) (fun hF66 => ?_)
        · skip
          refine a_ild4 eX9_take_111 ?_
          refine a_iret eX9_take_113 rfl rfl ⟨Nat.zero_le _, Nat.zero_le _⟩ ?_
          refine aw_ret (x := m (200 + r) 0) ?_ hc0
          refine h1 hv _ ?_ fr1
          rw [et, if_neg (by omega)]
          exact hD1
        · skip
          refine a_ald0 eX9_take_69 ?_
          refine a_getR 2 21 eX9_take_70 fl_X9_26 rfl rfl sh_0 ((congrFun (congrFun hR _) _).trans rf_0_2) ?_
          refine a_getR 2 (21 + 1) eX9_take_73 fl_X9_142 rfl rfl (sh_day (Or.inl rfl)) ((congrFun (congrFun hR _) _).trans (rf_day_2 (Or.inl rfl))) ?_
          refine a_ild4 eX9_take_76 ?_
          refine a_aald _ eX9_take_78 (sh_day_1 (Or.inl rfl)) rfl rfl rfl (by omega) ((congrFun (congrFun hR _) _).trans (rf_cab (Or.inl rfl) (by omega))) ?_
          refine a_ild1 eX9_take_79 ?_
          refine a_putI 5 eX9_take_80 fl_X9_164 rfl rfl (sh_cab (Or.inl rfl) (by omega)) (fun q h => Or.inl (by cases h; rfl)) ?_
          refine a_ald0 eX9_take_83 ?_
          refine a_getR 2 21 eX9_take_84 fl_X9_26 rfl rfl sh_0 ((congrFun (congrFun hR _) _).trans rf_0_2) ?_
          refine a_getR 2 (21 + 1) eX9_take_87 fl_X9_142 rfl rfl (sh_day (Or.inl rfl)) ((congrFun (congrFun hR _) _).trans (rf_day_2 (Or.inl rfl))) ?_
          refine a_ild4 eX9_take_90 ?_
          refine a_aald _ eX9_take_92 (sh_day_1 (Or.inl rfl)) rfl rfl rfl (by omega) ((congrFun (congrFun hR _) _).trans (rf_cab (Or.inl rfl) (by omega))) ?_
          refine a_ald0 eX9_take_93 ?_
          refine a_getR 2 21 eX9_take_94 fl_X9_26 rfl rfl sh_0 ((congrFun (congrFun hR _) _).trans rf_0_2) ?_
          refine a_getI 0 eX9_take_97 fl_X9_198 rfl rfl (sh_day (Or.inl rfl)) ?_
          refine a_eqtop (y0 := m2 0 3) (by simp only [rd_si, rd_sa, and_self, true_and, and_true, ↓reduceIte]; (repeat (first | rw [if_pos (by omega)] | rw [if_neg (by omega)] | rw [if_pos True.intro])); exact hD1.1) ?_
          refine a_ald0 eX9_take_100 ?_
          refine a_getR 1 t eX9_take_101 fl_X9_19 rfl rfl sh_0 ((congrFun (congrFun hR _) _).trans hrt) ?_
          refine a_getI 14 eX9_take_104 fl_X9_201 rfl rfl (sh_city hct) ?_
          refine a_eqtop (y0 := m2 9 1) (by simp only [rd_si, rd_sa, and_self, true_and, and_true, ↓reduceIte]; (repeat (first | rw [if_pos (by omega)] | rw [if_neg (by omega)] | rw [if_pos True.intro])); rw [e91]; exact g8) ?_
          refine a_iadd eX9_take_107 ?_
          refine a_putI 6 eX9_take_108 fl_X9_167 rfl rfl (sh_cab (Or.inl rfl) (by omega)) (fun q h => Or.inl (by cases h; rfl)) ?_
          refine a_ild4 eX9_take_111 ?_
          refine a_iret eX9_take_113 rfl rfl ⟨Nat.zero_le _, Nat.zero_le _⟩ ?_
          refine aw_ret (x := m (200 + r) 0) ?_ hc0
          refine h1 hv _ ?_ (frC_tr fr1 ⟨fun a j h => by simp only [rd_si, rd_sa]; (repeat rw [if_neg (by omega)]), rfl⟩)
          rw [et, if_pos (by omega)]
          refine dayC_cab (by omega) (by omega) hD1 (fun a j q => by simp only [rd_si]; (repeat rw [if_neg (by omega)])) (fun f q1 q2 => ?_)
          have h5 := hD1.2.2.2.2.1 c f (by omega) (by omega) q1 q2
          rw [Int.zero_add] at h5
          simp only [rd_si, true_and, xtk]
          by_cases q5 : f = 5
          · (repeat (first | rw [if_pos (by omega)] | rw [if_neg (by omega)] | rw [if_pos True.intro])); (try rfl)
          · by_cases q6 : f = 6
            · (repeat (first | rw [if_pos (by omega)] | rw [if_neg (by omega)] | rw [if_pos True.intro])); (try rfl)
            · (repeat (first | rw [if_pos (by omega)] | rw [if_neg (by omega)] | rw [if_pos True.intro])); exact h5
      · skip
        dsimp only [Option.toList, List.cons_append, List.nil_append]
        refine a_if_ne 30 eX9_take_25 (by decide) (by omega) (fun h => absurd h (by decide)) (fun _ => ?_)
        refine a_iconst eX9_take_28 ?_
        refine a_iret eX9_take_29 rfl rfl ⟨Nat.zero_le _, Nat.zero_le _⟩ ?_
        exact h0 (fun q => by unfold vtake vfare at q; omega)
  · skip
    dsimp only [Option.toList, List.cons_append, List.nil_append]
    refine a_if_eq 28 eX9_take_5 (by decide) (by omega) (fun _ => ?_) (fun h => absurd h (by decide))
    refine a_iconst eX9_take_28 ?_
    refine a_iret eX9_take_29 rfl rfl ⟨Nat.zero_le _, Nat.zero_le _⟩ ?_
    exact h0 (fun q => by unfold vtake vfare at q; omega)

set_option maxHeartbeats 4000000 in
set_option maxRecDepth 100000 in
theorem c_X9_call {l : Launch} {σ : aw_S} {Post : Option Value → aw_S → Prop} {tw cs : Bool} (hR : σ.2.2 = RF tw cs) {t : Nat} (hct : isCity t) (hrt : RF tw cs 0 1 = some t) {m : mS} (hC : cityC σ t m) (wC : wfCity m) {N : Int} (hD : dayC σ 21 0 m) (wD : wfDay m 0 N) (hN : 0 ≤ N ∧ N ≤ 1000) {c mi p : Int} (hr : (-2147483648 ≤ c ∧ c ≤ 2147483647) ∧ (-2147483648 ≤ mi ∧ mi ≤ 2147483647) ∧ (-2147483648 ≤ p ∧ p ≤ 2147483647)) (h1 : vst m c → vfare mi p → ∀ σ', dayC σ' 21 0 (mcall m c mi p) → frC σ σ' → Post (some (.int (jI 1))) σ') (h0 : ¬ (vst m c ∧ vfare mi p) → Post (some (.int (jI 0))) σ) : AE l yX9_call cX9_call 4 (some .boolean) 6 135 0 0 SH SH σ [.ref 0, .int (jI c), .int (jI mi), .int (jI p)] Post := by
  show AW l yX9_call cX9_call 4 (some .boolean) 6 135 0 0 SH Post SH 0 0 σ 0 [some (.ref 0), some (.int (jI c)), some (.int (jI mi)), some (.int (jI p))] []
  obtain ⟨c1, c2, c3, c4, c5, c6, c7, c8⟩ := id hC
  obtain ⟨w1, w2, w3, w4, w5, w6, w7, w8⟩ := id wC
  obtain ⟨d1, d2, d3, d4, d5, d6, d7⟩ := id hD
  obtain ⟨v1, v2, v3, v4, v5, v6, v7, v8⟩ := id wD
  simp only [Int.zero_add] at d4 d5 d6 d7 v4 v5 v6 v7 v8
  refine a_ald0 eX9_call_0 ?_
  refine a_getR 2 21 eX9_call_1 fl_X9_26 rfl rfl sh_0 ((congrFun (congrFun hR _) _).trans rf_0_2) ?_
  refine a_ild1 eX9_call_4 ?_
  refine a_cV1 eX9_call_5 lk_X9_204 mV_X5_hasStanding (sh_day (Or.inl rfl)) ⟨_, rfl, rfl⟩ mt_X5_hasStanding rfl rfl rfl rfl rfl (c_X5_hasStanding hR (Or.inl rfl) hD wC wD hN (by omega) (fun hT5 => ?_) (fun hF5 => ?_))
  · skip
    dsimp only [Option.toList, List.cons_append, List.nil_append]
    (try simp only [Int.zero_add] at hT5); (try simp only [Int.zero_add] at hF5)
    refine a_if_eq 19 eX9_call_8 (by decide) (by omega) (fun h => absurd h (by decide)) (fun _ => ?_)
    refine a_ild2 eX9_call_11 ?_
    refine a_ild3 eX9_call_12 ?_
    refine a_cS2 eX9_call_13 lk_X9_187 mS_X9_isFare mt_X9_isFare rfl rfl rfl rfl rfl rfl (c_X9_isFare (by omega) (fun hT13 => ?_) (fun hF13 => ?_))
    · skip
      dsimp only [Option.toList, List.cons_append, List.nil_append]
      refine a_if_ne 21 eX9_call_16 (by decide) (by omega) (fun _ => ?_) (fun h => absurd h (by decide))
      have hv : vst m c := hT5
      have hm : vfare mi p := ⟨by omega, by omega⟩
      have hp := pos0 wC wD hv
      have v4r := v4 (m (100 + c) 3) (by omega) (by omega)
      refine a_ald0 eX9_call_21 ?_
      refine a_getR 2 21 eX9_call_22 fl_X9_26 rfl rfl sh_0 ((congrFun (congrFun hR _) _).trans rf_0_2) ?_
      refine a_ild1 eX9_call_25 ?_
      refine a_iconst eX9_call_26 ?_
      refine a_ald0 eX9_call_27 ?_
      refine a_getR 2 21 eX9_call_28 fl_X9_26 rfl rfl sh_0 ((congrFun (congrFun hR _) _).trans rf_0_2) ?_
      refine a_ild1 eX9_call_31 ?_
      refine a_cV1 eX9_call_32 lk_X9_157 mV_X5_placeInRow (sh_day (Or.inl rfl)) ⟨_, rfl, rfl⟩ mt_X5_placeInRow rfl rfl rfl rfl rfl (c_X5_placeInRow hR (Or.inl rfl) hD wC wD hN (by have := (hv).1; omega) (fun _ _ => ?_) (fun q => absurd ⟨(hv).1, by rw [Int.zero_add]; exact (hv).2⟩ q))
      dsimp only [Option.toList, List.cons_append, List.nil_append]
      refine a_cV3 eX9_call_35 lk_X9_207 mV_X5_tell (sh_day (Or.inl rfl)) ⟨_, rfl, rfl⟩ mt_X5_tell rfl rfl rfl rfl rfl rfl rfl (c_X5_tell hR hD wC wD hN hv.1 rfl (by omega) (fun σ1 hD1 fr1 => ?_))
      dsimp only [Option.toList, List.cons_append, List.nil_append]
      have hR := frC_R fr1 hR
      refine a_ald0 eX9_call_38 ?_
      refine a_getR 2 21 eX9_call_39 fl_X9_26 rfl rfl sh_0 ((congrFun (congrFun hR _) _).trans rf_0_2) ?_
      refine a_ald0 eX9_call_42 ?_
      refine a_getR 1 t eX9_call_43 fl_X9_19 rfl rfl sh_0 ((congrFun (congrFun hR _) _).trans hrt) ?_
      refine a_ild1 eX9_call_46 ?_
      refine a_ild2 eX9_call_47 ?_
      refine a_ild3 eX9_call_48 ?_
      refine a_cV4 eX9_call_49 lk_X9_191 mV_X5_serve (sh_day (Or.inl rfl)) ⟨_, rfl, rfl⟩ mt_X5_serve rfl rfl rfl rfl rfl rfl rfl rfl (c_X5_serve hct hR (cityC_m frm_tell (cityC_s hct fr1 hC)) (wfCity_fr frm_tell wC) hD1 (wfDay_tell w1.2 wD) (call_st (by omega) hv) hm hN (fun σ2 hD2 fr2 => ?_))
      dsimp only [Option.toList, List.cons_append, List.nil_append]
      refine a_iconst eX9_call_52 ?_
      refine a_zret eX9_call_53 rfl (by first | exact Or.inl rfl | exact Or.inr rfl | omega) rfl ⟨Nat.zero_le _, Nat.zero_le _⟩ ?_
      exact h1 hv hm σ2 hD2 (frC_tr fr1 fr2)
    · skip
      dsimp only [Option.toList, List.cons_append, List.nil_append]
      refine a_if_ne 21 eX9_call_16 (by decide) (by omega) (fun h => absurd h (by decide)) (fun _ => ?_)
      refine a_iconst eX9_call_19 ?_
      refine a_zret eX9_call_20 rfl (by first | exact Or.inl rfl | exact Or.inr rfl | omega) rfl ⟨Nat.zero_le _, Nat.zero_le _⟩ ?_
      exact h0 (fun q => by unfold vst vfare at q; omega)
  · skip
    dsimp only [Option.toList, List.cons_append, List.nil_append]
    (try simp only [Int.zero_add] at hT5); (try simp only [Int.zero_add] at hF5)
    refine a_if_eq 19 eX9_call_8 (by decide) (by omega) (fun _ => ?_) (fun h => absurd h (by decide))
    refine a_iconst eX9_call_19 ?_
    refine a_zret eX9_call_20 rfl (by first | exact Or.inl rfl | exact Or.inr rfl | omega) rfl ⟨Nat.zero_le _, Nat.zero_le _⟩ ?_
    exact h0 (fun q => by unfold vst vfare at q; omega)

set_option maxHeartbeats 4000000 in
set_option maxRecDepth 100000 in
theorem c_X9_refuse {l : Launch} {σ : aw_S} {Post : Option Value → aw_S → Prop} {tw cs : Bool} (hR : σ.2.2 = RF tw cs) {t : Nat} (hct : isCity t) (hrt : RF tw cs 0 1 = some t) {m : mS} (hC : cityC σ t m) (wC : wfCity m) {N : Int} (hD : dayC σ 21 0 m) (wD : wfDay m 0 N) (hN : 0 ≤ N ∧ N ≤ 1000) {r : Int} (hr : (-2147483648 ≤ r ∧ r ≤ 2147483647)) (h1 : vref m r → ∀ σ', dayC σ' 21 0 (mrefuse m r) → frC σ σ' → Post (some (.int (jI (m (200 + r) 0)))) σ') (h0 : ¬ vref m r → Post (some (.int (jI (-1)))) σ) : AE l yX9_refuse cX9_refuse 4 (some .int) 5 110 0 0 SH SH σ [.ref 0, .int (jI r)] Post := by
  show AW l yX9_refuse cX9_refuse 4 (some .int) 5 110 0 0 SH Post SH 0 0 σ 0 [some (.ref 0), some (.int (jI r)), none, none] []
  obtain ⟨c1, c2, c3, c4, c5, c6, c7, c8⟩ := id hC
  obtain ⟨w1, w2, w3, w4, w5, w6, w7, w8⟩ := id wC
  obtain ⟨d1, d2, d3, d4, d5, d6, d7⟩ := id hD
  obtain ⟨v1, v2, v3, v4, v5, v6, v7, v8⟩ := id wD
  simp only [Int.zero_add] at d4 d5 d6 d7 v4 v5 v6 v7 v8
  refine a_ald0 eX9_refuse_0 ?_
  refine a_ild1 eX9_refuse_1 ?_
  refine a_cV1 eX9_refuse_2 lk_X9_102 mV_X9_hasRank sh_0 ⟨_, rfl, rfl⟩ mt_X9_hasRank rfl rfl rfl rfl rfl (c_X9_hasRank hR hct hrt hC wC (by omega) (fun hT2 => ?_) (fun hF2 => ?_))
  · skip
    dsimp only [Option.toList, List.cons_append, List.nil_append]
    refine a_if_eq 20 eX9_refuse_5 (by decide) (by omega) (fun h => absurd h (by decide)) (fun _ => ?_)
    refine a_ald0 eX9_refuse_8 ?_
    refine a_getR 2 21 eX9_refuse_9 fl_X9_26 rfl rfl sh_0 ((congrFun (congrFun hR _) _).trans rf_0_2) ?_
    refine a_getR 4 (21 + 9) eX9_refuse_12 fl_X9_116 rfl rfl (sh_day (Or.inl rfl)) ((congrFun (congrFun hR _) _).trans (rf_day_4 (Or.inl rfl))) ?_
    refine a_ild1 eX9_refuse_15 ?_
    refine a_iald eX9_refuse_16 (sh_day_9 (Or.inl rfl)) rfl (by omega) ?_
    have v4r := v4 r (by omega) (by omega)
    have d4r := d4 r (by omega) (by omega)
    refine a_eqtop (y0 := m 10 r) (by exact d4r.1) ?_
    refine a_if_ne 22 eX9_refuse_17 (by decide) (by omega) (fun hT17 => ?_) (fun hF17 => ?_)
    · skip
      have hv : vref m r := ⟨by omega, by omega⟩
      have hs := row_st (k := 0) wC wD (r := r) (by omega) (by omega)
      have h6 := d6 r 0 (by omega) (by omega) (by omega) (by omega)
      have hk0 := pos0_eq (k := 0) wC wD hs.1 (by rw [hs.2]; exact ⟨by omega, by omega, rfl⟩)
      have hwr := rf_wf wC wD hv
      have hrd := rf_rowD (m := m) (r := r) (by omega)
      have eml : mlv m (m (200 + r) 0) = mrem m r 0 := by unfold mlv; rw [hs.2, hk0]
      obtain ⟨c, hc0⟩ : ∃ c, c = m (200 + r) 0 := ⟨_, rfl⟩
      rw [← hc0] at hs h6 eml
      obtain ⟨hs1, hs2⟩ := hs
      obtain ⟨⟨hs3, hs4⟩, hs5⟩ := id hs1
      have e1 := d5 c 1 (by omega) (by omega) (by omega) (by omega)
      have e3 := d5 c 3 (by omega) (by omega) (by omega) (by omega)
      refine a_ald0 eX9_refuse_22 ?_
      refine a_getR 2 21 eX9_refuse_23 fl_X9_26 rfl rfl sh_0 ((congrFun (congrFun hR _) _).trans rf_0_2) ?_
      refine a_getR 3 (21 + 2) eX9_refuse_26 fl_X9_183 rfl rfl (sh_day (Or.inl rfl)) ((congrFun (congrFun hR _) _).trans (rf_day_3 (Or.inl rfl))) ?_
      refine a_ild1 eX9_refuse_29 ?_
      refine a_aald _ eX9_refuse_30 (sh_day_2 (Or.inl rfl)) rfl rfl rfl (by omega) ((congrFun (congrFun hR _) _).trans (rf_row (Or.inl rfl) (by omega))) ?_
      refine a_iconst eX9_refuse_31 ?_
      refine a_iald eX9_refuse_32 (sh_row (Or.inl rfl) (by omega)) rfl (by omega) ?_
      refine a_eqtop (y0 := c) (by exact h6) ?_
      refine a_ist2 eX9_refuse_33 (by decide) aw_n2i ?_
      refine a_ald0 eX9_refuse_34 ?_
      refine a_getR 2 21 eX9_refuse_35 fl_X9_26 rfl rfl sh_0 ((congrFun (congrFun hR _) _).trans rf_0_2) ?_
      refine a_getR 4 (21 + 9) eX9_refuse_38 fl_X9_116 rfl rfl (sh_day (Or.inl rfl)) ((congrFun (congrFun hR _) _).trans (rf_day_4 (Or.inl rfl))) ?_
      refine a_ild1 eX9_refuse_41 ?_
      refine a_iald eX9_refuse_42 (sh_day_9 (Or.inl rfl)) rfl (by omega) ?_
      refine a_eqtop (y0 := m 10 r) (by exact d4r.1) ?_
      refine a_iconst eX9_refuse_43 ?_
      refine a_isub eX9_refuse_44 ?_
      refine a_ist3 eX9_refuse_45 (by decide) aw_n2i ?_
      refine a_ald0 eX9_refuse_46 ?_
      refine a_getR 2 21 eX9_refuse_47 fl_X9_26 rfl rfl sh_0 ((congrFun (congrFun hR _) _).trans rf_0_2) ?_
      refine a_ild2 eX9_refuse_50 ?_
      refine a_cV1 eX9_refuse_51 lk_X9_211 mV_X5_leaveRow (sh_day (Or.inl rfl)) ⟨_, rfl, rfl⟩ mt_X5_leaveRow rfl rfl rfl rfl rfl (c_X5_leaveRow hR hD wC wD hN hs1 (fun σ1 hD1 fr1 => ?_))
      dsimp only [Option.toList, List.cons_append, List.nil_append]
      have hR := frC_R fr1 hR
      rw [eml] at hD1
      have f4 := hD1.2.2.2.1 r (by omega) (by omega)
      rw [Int.zero_add, mrem_s (by omega)] at f4
      have f5 := hD1.2.2.2.2.1 c
      rw [show mrem m r 0 0 4 = m 0 4 from mrem_ne (by omega) (by omega), show mrem m r 0 (0 + 100 + c) = m (100 + c) from funext (fun j => mrem_ne (by omega) (by omega))] at f5
      have f6 := hD1.2.2.2.2.2.1 r
      have f6 : ∀ j : Int, 0 ≤ j → j < m 10 r - 1 → σ1.1 (21 + 3 + r.toNat) j = m (200 + r) (j + 1) := fun j j1 j2 => by
        have := f6 j (by omega) (by omega) j1 (by rw [Int.zero_add, mrem_s (by omega)]; exact j2)
        rw [Int.zero_add, mrem_r, if_neg (by omega)] at this
        exact this
      refine a_ald0 eX9_refuse_54 ?_
      refine a_getR 2 21 eX9_refuse_55 fl_X9_26 rfl rfl sh_0 ((congrFun (congrFun hR _) _).trans rf_0_2) ?_
      refine a_ild2 eX9_refuse_58 ?_
      refine a_ild1 eX9_refuse_59 ?_
      refine a_ild3 eX9_refuse_60 ?_
      refine a_cV3 eX9_refuse_61 lk_X9_214 mV_X5_putInRow (sh_day (Or.inl rfl)) ⟨_, rfl, rfl⟩ mt_X5_putInRow rfl rfl rfl rfl rfl rfl rfl (c_X5_putInRow (s := m 10 r - 1) hR (by omega) (by omega) f4.1 (by omega) (by omega) ?_)
      dsimp only [Option.toList, List.cons_append, List.nil_append]
      refine AW.gen (fun σ2 hσ2 => ?_)
      have h2s : σ2.2 = σ1.2 := by rw [hσ2]; rfl
      have hR : σ2.2.2 = RF tw cs := by rw [h2s]; exact hR
      have h2o : ∀ (a : Nat) (j : Int), a ≠ 21 + 3 + r.toNat → ¬ (a = 21 + 9 ∧ j = r) → σ2.1 a j = σ1.1 a j := fun a j q1 q2 => by
        rw [hσ2]
        simp only [rd_si, rd_sa]
        by_cases z : a = 21 + 12 + c.toNat ∧ j = 3
        · rw [if_pos z, z.1, z.2]; rw [f5 3 (by omega) (by omega) (by omega) (by omega)]; omega
        · rw [if_neg z]
          by_cases z1 : a = 21 + 12 + c.toNat ∧ j = 1
          · rw [if_pos z1, z1.1, z1.2]; rw [f5 1 (by omega) (by omega) (by omega) (by omega)]; omega
          · rw [if_neg z1, if_neg (by omega), if_neg (by omega)]
      have hD2 : dayC σ2 21 0 (mrf m r) := by
        have hr2 : rowD (mrem m r 0) (mrf m r) r (m 10 r) (fun j => if j < m 10 r - 1 then m (200 + r) (j + 1) else m (200 + r) 0) := ⟨hrd.1, hrd.2.1, fun a j q1 q2 => (hrd.2.2 a j q1 q2).trans (mrem_ne q1 q2).symm⟩
        refine dayC_row (by omega) (by rw [mrem_ne (by omega) (by omega)]; omega) hr2 hD1 h2o (by rw [hσ2]; simp only [rd_si, rd_sa, and_self, true_and, and_true, ↓reduceIte]; (repeat (first | rw [if_pos (by omega)] | rw [if_neg (by omega)] | rw [if_pos True.intro])); omega) (fun j j1 j2 => ?_)
        rw [hσ2]
        simp only [rd_si, rd_sa, and_self, true_and, and_true, ↓reduceIte]
        rw [if_neg (by omega), if_neg (by omega), if_neg (by omega)]
        by_cases q : j < m 10 r - 1
        · rw [if_pos q, if_pos q]; exact f6 j j1 q
        · rw [if_neg q, if_neg q, if_pos (by omega)]; exact hc0
      have fr2 : frC σ1 σ2 := ⟨fun a j h => h2o a j (by omega) (by omega), h2s⟩
      have hfm : frm m (mrf m r) := rowD_frm (by omega) hrd
      have ec : mrf m r (100 + c) 3 = r := (hrd.2.2 _ _ (by omega) (by omega)).trans hs2
      have e04 : mrf m r 0 4 = m 0 4 := hrd.2.2 _ _ (by omega) (by omega)
      refine a_ald0 eX9_refuse_64 ?_
      refine a_getR 2 21 eX9_refuse_65 fl_X9_26 rfl rfl sh_0 ((congrFun (congrFun hR _) _).trans rf_0_2) ?_
      refine a_ild2 eX9_refuse_68 ?_
      refine a_iconst eX9_refuse_69 ?_
      refine a_ild3 eX9_refuse_70 ?_
      refine a_cV3 eX9_refuse_71 lk_X9_207 mV_X5_tell (sh_day (Or.inl rfl)) ⟨_, rfl, rfl⟩ mt_X5_tell rfl rfl rfl rfl rfl rfl rfl (c_X5_tell (c := c) (rk := r) hR hD2 (wfCity_fr hfm wC) hwr hN (by rw [e04]; exact ⟨hs3, hs4⟩) ec (by omega) (fun σ3 hD3 fr3 => ?_))
      dsimp only [Option.toList, List.cons_append, List.nil_append]
      refine a_ild2 eX9_refuse_74 ?_
      refine a_iret eX9_refuse_75 rfl rfl ⟨Nat.zero_le _, Nat.zero_le _⟩ ?_
      refine aw_ret (x := m (200 + r) 0) ?_ hc0
      refine h1 hv σ3 ?_ (frC_tr fr1 (frC_tr fr2 fr3))
      unfold mrefuse
      rw [← hc0]
      exact hD3
    · skip
      refine a_iconst eX9_refuse_20 ?_
      refine a_iret eX9_refuse_21 rfl rfl ⟨Nat.zero_le _, Nat.zero_le _⟩ ?_
      exact h0 (fun q => by unfold vref at q; omega)
  · skip
    dsimp only [Option.toList, List.cons_append, List.nil_append]
    refine a_if_eq 20 eX9_refuse_5 (by decide) (by omega) (fun _ => ?_) (fun h => absurd h (by decide))
    refine a_iconst eX9_refuse_20 ?_
    refine a_iret eX9_refuse_21 rfl rfl ⟨Nat.zero_le _, Nat.zero_le _⟩ ?_
    exact h0 (fun q => by unfold vref at q; omega)

set_option maxHeartbeats 4000000 in
set_option maxRecDepth 100000 in
theorem c_X9_change {l : Launch} {σ : aw_S} {Post : Option Value → aw_S → Prop} {tw cs : Bool} (hR : σ.2.2 = RF tw cs) {t : Nat} (hct : isCity t) (hrt : RF tw cs 0 1 = some t) {m : mS} (hC : cityC σ t m) (wC : wfCity m) {N : Int} (hD : dayC σ 21 0 m) (wD : wfDay m 0 N) (hN : 0 ≤ N ∧ N ≤ 1000) {c e : Int} (hr : (-2147483648 ≤ c ∧ c ≤ 2147483647) ∧ (-2147483648 ≤ e ∧ e ≤ 2147483647)) (h1 : vchange m c e → ∀ σ', dayC σ' 21 0 (mchange m c e) → frC σ σ' → Post (some (.int (jI 1))) σ') (h0 : ¬ vchange m c e → Post (some (.int (jI 0))) σ) : AE l yX9_change cX9_change 6 (some .boolean) 4 87 0 0 SH SH σ [.ref 0, .int (jI c), .int (jI e)] Post := by
  show AW l yX9_change cX9_change 6 (some .boolean) 4 87 0 0 SH Post SH 0 0 σ 0 [some (.ref 0), some (.int (jI c)), some (.int (jI e)), none, none, none] []
  obtain ⟨c1, c2, c3, c4, c5, c6, c7, c8⟩ := id hC
  obtain ⟨w1, w2, w3, w4, w5, w6, w7, w8⟩ := id wC
  obtain ⟨d1, d2, d3, d4, d5, d6, d7⟩ := id hD
  obtain ⟨v1, v2, v3, v4, v5, v6, v7, v8⟩ := id wD
  simp only [Int.zero_add] at d4 d5 d6 d7 v4 v5 v6 v7 v8
  refine a_ild1 eX9_change_0 ?_
  refine a_ild2 eX9_change_1 ?_
  refine a_icmp_eq 27 eX9_change_2 (by decide) (by omega) (fun hT2 => ?_) (fun hF2 => ?_)
  · skip
    refine a_iconst eX9_change_27 ?_
    refine a_zret eX9_change_28 rfl (by first | exact Or.inl rfl | exact Or.inr rfl | omega) rfl ⟨Nat.zero_le _, Nat.zero_le _⟩ ?_
    exact h0 (fun q => by unfold vchange vst at q; omega)
  · skip
    refine a_ald0 eX9_change_5 ?_
    refine a_getR 2 21 eX9_change_6 fl_X9_26 rfl rfl sh_0 ((congrFun (congrFun hR _) _).trans rf_0_2) ?_
    refine a_ild1 eX9_change_9 ?_
    refine a_cV1 eX9_change_10 lk_X9_204 mV_X5_hasStanding (sh_day (Or.inl rfl)) ⟨_, rfl, rfl⟩ mt_X5_hasStanding rfl rfl rfl rfl rfl (c_X5_hasStanding hR (Or.inl rfl) hD wC wD hN (by omega) (fun hT10 => ?_) (fun hF10 => ?_))
    · skip
      dsimp only [Option.toList, List.cons_append, List.nil_append]
      (try simp only [Int.zero_add] at hT10); (try simp only [Int.zero_add] at hF10)
      refine a_if_eq 27 eX9_change_13 (by decide) (by omega) (fun h => absurd h (by decide)) (fun _ => ?_)
      refine a_ald0 eX9_change_16 ?_
      refine a_getR 2 21 eX9_change_17 fl_X9_26 rfl rfl sh_0 ((congrFun (congrFun hR _) _).trans rf_0_2) ?_
      refine a_ild2 eX9_change_20 ?_
      refine a_cV1 eX9_change_21 lk_X9_204 mV_X5_hasStanding (sh_day (Or.inl rfl)) ⟨_, rfl, rfl⟩ mt_X5_hasStanding rfl rfl rfl rfl rfl (c_X5_hasStanding hR (Or.inl rfl) hD wC wD hN (by omega) (fun hT21 => ?_) (fun hF21 => ?_))
      · skip
        dsimp only [Option.toList, List.cons_append, List.nil_append]
        (try simp only [Int.zero_add] at hT21); (try simp only [Int.zero_add] at hF21)
        refine a_if_ne 29 eX9_change_24 (by decide) (by omega) (fun _ => ?_) (fun h => absurd h (by decide))
        have hv1 : vst m c := hT10
        have hv2 : vst m e := hT21
        have hp1 := pos0 wC wD hv1
        have hp2 := pos0 wC wD hv2
        obtain ⟨r, hrk⟩ : ∃ r, r = m (100 + c) 3 := ⟨_, rfl⟩
        obtain ⟨a1, ha1⟩ : ∃ a1, a1 = mpos m 0 c := ⟨_, rfl⟩
        obtain ⟨a2, ha2⟩ : ∃ a2, a2 = mpos m 0 e := ⟨_, rfl⟩
        rw [← hrk, ← ha1] at hp1
        rw [← ha2] at hp2
        obtain ⟨hp11, hp12, hp13⟩ := hp1
        obtain ⟨hp21, hp22, hp23⟩ := hp2
        refine a_ald0 eX9_change_29 ?_
        refine a_getR 2 21 eX9_change_30 fl_X9_26 rfl rfl sh_0 ((congrFun (congrFun hR _) _).trans rf_0_2) ?_
        refine a_getR 2 (21 + 1) eX9_change_33 fl_X9_142 rfl rfl (sh_day (Or.inl rfl)) ((congrFun (congrFun hR _) _).trans (rf_day_2 (Or.inl rfl))) ?_
        refine a_ild1 eX9_change_36 ?_
        refine a_aald _ eX9_change_37 (sh_day_1 (Or.inl rfl)) rfl rfl rfl (by omega) ((congrFun (congrFun hR _) _).trans (rf_cab (Or.inl rfl) (by omega))) ?_
        refine a_getI 3 eX9_change_38 fl_X9_154 rfl rfl (sh_cab (Or.inl rfl) (by omega)) ?_
        refine a_eqtop (y0 := r) (by rw [hrk]; exact d5 c 3 (by omega) (by omega) (by omega) (by omega)) ?_
        refine a_ist3 eX9_change_41 (by decide) aw_n2i ?_
        refine a_ald0 eX9_change_42 ?_
        refine a_getR 2 21 eX9_change_43 fl_X9_26 rfl rfl sh_0 ((congrFun (congrFun hR _) _).trans rf_0_2) ?_
        refine a_getR 2 (21 + 1) eX9_change_46 fl_X9_142 rfl rfl (sh_day (Or.inl rfl)) ((congrFun (congrFun hR _) _).trans (rf_day_2 (Or.inl rfl))) ?_
        refine a_ild2 eX9_change_49 ?_
        refine a_aald _ eX9_change_50 (sh_day_1 (Or.inl rfl)) rfl rfl rfl (by omega) ((congrFun (congrFun hR _) _).trans (rf_cab (Or.inl rfl) (by omega))) ?_
        refine a_getI 3 eX9_change_51 fl_X9_154 rfl rfl (sh_cab (Or.inl rfl) (by omega)) ?_
        refine a_eqtop (y0 := m (100 + e) 3) (by exact d5 e 3 (by omega) (by omega) (by omega) (by omega)) ?_
        refine a_ild3 eX9_change_54 ?_
        refine a_icmp_eq 60 eX9_change_55 (by decide) (by omega) (fun hT55 => ?_) (fun hF55 => ?_)
        · skip
          have her : m (100 + e) 3 = r := hT55
          rw [her] at hp22 hp23
          have v4r := v4 r (by omega) (by omega)
          have hv : vchange m c e := ⟨hv1, hv2, by omega, by omega⟩
          have hwr := sw_wf (r := r) (a := a1) (b := a2) wC wD (by omega) hp12 hp22
          have hrd := sw_rowD (m := m) (r := r) (a := a1) (b := a2) (by omega)
          refine a_ald0 eX9_change_60 ?_
          refine a_getR 2 21 eX9_change_61 fl_X9_26 rfl rfl sh_0 ((congrFun (congrFun hR _) _).trans rf_0_2) ?_
          refine a_ild1 eX9_change_64 ?_
          refine a_cV1 eX9_change_65 lk_X9_157 mV_X5_placeInRow (sh_day (Or.inl rfl)) ⟨_, rfl, rfl⟩ mt_X5_placeInRow rfl rfl rfl rfl rfl (c_X5_placeInRow hR (Or.inl rfl) hD wC wD hN (by have := (hv1).1; omega) (fun _ _ => ?_) (fun q => absurd ⟨(hv1).1, by rw [Int.zero_add]; exact (hv1).2⟩ q))
          dsimp only [Option.toList, List.cons_append, List.nil_append]
          refine a_eqtop (y0 := a1) (by rw [ha1]) ?_
          refine a_ist4 eX9_change_68 (by decide) aw_n2i ?_
          refine a_ald0 eX9_change_70 ?_
          refine a_getR 2 21 eX9_change_71 fl_X9_26 rfl rfl sh_0 ((congrFun (congrFun hR _) _).trans rf_0_2) ?_
          refine a_ild2 eX9_change_74 ?_
          refine a_cV1 eX9_change_75 lk_X9_157 mV_X5_placeInRow (sh_day (Or.inl rfl)) ⟨_, rfl, rfl⟩ mt_X5_placeInRow rfl rfl rfl rfl rfl (c_X5_placeInRow hR (Or.inl rfl) hD wC wD hN (by have := (hv2).1; omega) (fun _ _ => ?_) (fun q => absurd ⟨(hv2).1, by rw [Int.zero_add]; exact (hv2).2⟩ q))
          dsimp only [Option.toList, List.cons_append, List.nil_append]
          refine a_eqtop (y0 := a2) (by rw [ha2]) ?_
          refine a_ist5 eX9_change_78 (by decide) aw_n2i ?_
          refine a_ald0 eX9_change_80 ?_
          refine a_getR 2 21 eX9_change_81 fl_X9_26 rfl rfl sh_0 ((congrFun (congrFun hR _) _).trans rf_0_2) ?_
          refine a_getR 3 (21 + 2) eX9_change_84 fl_X9_183 rfl rfl (sh_day (Or.inl rfl)) ((congrFun (congrFun hR _) _).trans (rf_day_3 (Or.inl rfl))) ?_
          refine a_ild3 eX9_change_87 ?_
          refine a_aald _ eX9_change_88 (sh_day_2 (Or.inl rfl)) rfl rfl rfl (by omega) ((congrFun (congrFun hR _) _).trans (rf_row (Or.inl rfl) (by omega))) ?_
          refine a_ild4 eX9_change_89 ?_
          refine a_ild2 eX9_change_91 ?_
          refine a_iast eX9_change_92 (sh_row (Or.inl rfl) (by omega)) rfl (by omega) ?_
          refine a_ald0 eX9_change_93 ?_
          refine a_getR 2 21 eX9_change_94 fl_X9_26 rfl rfl sh_0 ((congrFun (congrFun hR _) _).trans rf_0_2) ?_
          refine a_getR 3 (21 + 2) eX9_change_97 fl_X9_183 rfl rfl (sh_day (Or.inl rfl)) ((congrFun (congrFun hR _) _).trans (rf_day_3 (Or.inl rfl))) ?_
          refine a_ild3 eX9_change_100 ?_
          refine a_aald _ eX9_change_101 (sh_day_2 (Or.inl rfl)) rfl rfl rfl (by omega) ((congrFun (congrFun hR _) _).trans (rf_row (Or.inl rfl) (by omega))) ?_
          refine a_ild5 eX9_change_102 ?_
          refine a_ild1 eX9_change_104 ?_
          refine a_iast eX9_change_105 (sh_row (Or.inl rfl) (by omega)) rfl (by omega) ?_
          refine AW.gen (fun σ2 hσ2 => ?_)
          have h2s : σ2.2 = σ.2 := by rw [hσ2]; rfl
          have hR : σ2.2.2 = RF tw cs := by rw [h2s]; exact hR
          have h2o : ∀ (a : Nat) (j : Int), a ≠ 21 + 3 + r.toNat → σ2.1 a j = σ.1 a j := fun a j q1 => by rw [hσ2]; simp only [rd_si]; (repeat rw [if_neg (by omega)])
          have hD2 : dayC σ2 21 0 (msw m r a1 a2) := by
            refine dayC_row (by omega) (by omega) hrd hD (fun a j q1 q2 => h2o a j q1) ((h2o _ _ (by omega)).trans (d4 r (by omega) (by omega)).1) (fun j j1 j2 => ?_)
            rw [hσ2]
            simp only [rd_si, true_and, swp]
            by_cases q1 : j = a1
            · rw [if_neg (by intro z; have : a1 = a2 := by omega
                             subst this; have := hp13.symm.trans hp23; omega), if_pos q1, if_pos q1]; exact hp23.symm
            · by_cases q2 : j = a2
              · rw [if_pos q2, if_neg q1, if_pos q2]; exact hp13.symm
              · rw [if_neg q2, if_neg q1, if_neg q1, if_neg q2]; exact d6 r j (by omega) (by omega) j1 j2
          have fr2 : frC σ σ2 := ⟨fun a j h => h2o a j (by omega), h2s⟩
          have hfm : frm m (msw m r a1 a2) := rowD_frm (by omega) hrd
          have hvc := hv1.1
          have ec : msw m r a1 a2 (100 + c) 3 = r := (hrd.2.2 _ _ (by omega) (by omega)).trans hrk.symm
          have e04 : msw m r a1 a2 0 4 = m 0 4 := hrd.2.2 _ _ (by omega) (by omega)
          refine a_ald0 eX9_change_106 ?_
          refine a_getR 2 21 eX9_change_107 fl_X9_26 rfl rfl sh_0 ((congrFun (congrFun hR _) _).trans rf_0_2) ?_
          refine a_ild1 eX9_change_110 ?_
          refine a_iconst eX9_change_111 ?_
          refine a_ild4 eX9_change_112 ?_
          refine a_ild5 eX9_change_114 ?_
          refine a_isub eX9_change_116 ?_
          refine a_mabs eX9_change_117 lk_X9_217 (by omega) rfl rfl ?_
          refine a_eqtop (y0 := aw_ap a1 a2) (by unfold aw_ap; (repeat split) <;> omega) ?_
          refine a_cV3 eX9_change_120 lk_X9_207 mV_X5_tell (sh_day (Or.inl rfl)) ⟨_, rfl, rfl⟩ mt_X5_tell rfl rfl rfl rfl rfl rfl rfl (c_X5_tell (c := c) (rk := r) hR hD2 (wfCity_fr hfm wC) hwr hN (by rw [e04]; exact hvc) ec (by have := aw_ap_b (a := a1) (b := a2) (by omega) (by omega); omega) (fun σ3 hD3 fr3 => ?_))
          dsimp only [Option.toList, List.cons_append, List.nil_append]
          refine a_iconst eX9_change_123 ?_
          refine a_zret eX9_change_124 rfl (by first | exact Or.inl rfl | exact Or.inr rfl | omega) rfl ⟨Nat.zero_le _, Nat.zero_le _⟩ ?_
          refine h1 hv σ3 ?_ (frC_tr fr2 fr3)
          unfold mchange
          rw [← hrk, ← ha1, ← ha2]
          exact hD3
        · skip
          refine a_iconst eX9_change_58 ?_
          refine a_zret eX9_change_59 rfl (by first | exact Or.inl rfl | exact Or.inr rfl | omega) rfl ⟨Nat.zero_le _, Nat.zero_le _⟩ ?_
          exact h0 (fun q => by unfold vchange vst at q; omega)
      · skip
        dsimp only [Option.toList, List.cons_append, List.nil_append]
        (try simp only [Int.zero_add] at hT21); (try simp only [Int.zero_add] at hF21)
        refine a_if_ne 29 eX9_change_24 (by decide) (by omega) (fun h => absurd h (by decide)) (fun _ => ?_)
        refine a_iconst eX9_change_27 ?_
        refine a_zret eX9_change_28 rfl (by first | exact Or.inl rfl | exact Or.inr rfl | omega) rfl ⟨Nat.zero_le _, Nat.zero_le _⟩ ?_
        exact h0 (fun q => by unfold vchange vst at q; omega)
    · skip
      dsimp only [Option.toList, List.cons_append, List.nil_append]
      (try simp only [Int.zero_add] at hT10); (try simp only [Int.zero_add] at hF10)
      refine a_if_eq 27 eX9_change_13 (by decide) (by omega) (fun _ => ?_) (fun h => absurd h (by decide))
      refine a_iconst eX9_change_27 ?_
      refine a_zret eX9_change_28 rfl (by first | exact Or.inl rfl | exact Or.inr rfl | omega) rfl ⟨Nat.zero_le _, Nat.zero_le _⟩ ?_
      exact h0 (fun q => by unfold vchange vst at q; omega)
