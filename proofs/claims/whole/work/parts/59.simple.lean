set_option maxHeartbeats 4000000 in
set_option maxRecDepth 100000 in
theorem c_X9_wish {l : Launch} {σ : aw_S} {Post : Option Value → aw_S → Prop} {tw cs : Bool} (hR : σ.2.2 = RF tw cs) {t : Nat} (hct : isCity t) (hrt : RF tw cs 0 1 = some t) {m : mS} (hC : cityC σ t m) (wC : wfCity m) {N : Int} (hD : dayC σ 21 0 m) (wD : wfDay m 0 N) (hN : 0 ≤ N ∧ N ≤ 1000) {c r : Int} (hr : (-2147483648 ≤ c ∧ c ≤ 2147483647) ∧ (-2147483648 ≤ r ∧ r ≤ 2147483647)) (h1 : vwish m c r → ∀ σ', dayC σ' 21 0 (mwish m c r) → frC σ σ' → Post (some (.int (jI 1))) σ') (h0 : ¬ vwish m c r → Post (some (.int (jI 0))) σ) : AE l yX9_wish cX9_wish 3 (some .boolean) 3 64 0 0 SH SH σ [.ref 0, .int (jI c), .int (jI r)] Post := by
  show AW l yX9_wish cX9_wish 3 (some .boolean) 3 64 0 0 SH Post SH 0 0 σ 0 [some (.ref 0), some (.int (jI c)), some (.int (jI r))] []
  obtain ⟨c1, c2, c3, c4, c5, c6, c7, c8⟩ := id hC
  obtain ⟨w1, w2, w3, w4, w5, w6, w7, w8⟩ := id wC
  obtain ⟨d1, d2, d3, d4, d5, d6, d7⟩ := id hD
  obtain ⟨v1, v2, v3, v4, v5, v6, v7, v8⟩ := id wD
  simp only [Int.zero_add] at d4 d5 d6 d7 v4 v5 v6 v7 v8
  refine a_ald0 eX9_wish_0 ?_
  refine a_getR 2 21 eX9_wish_1 fl_X9_26 rfl rfl sh_0 ((congrFun (congrFun hR _) _).trans rf_0_2) ?_
  refine a_ild1 eX9_wish_4 ?_
  refine a_cV1 eX9_wish_5 lk_X9_204 mV_X5_hasStanding (sh_day (Or.inl rfl)) ⟨_, rfl, rfl⟩ mt_X5_hasStanding rfl rfl rfl rfl rfl (c_X5_hasStanding hR (Or.inl rfl) hD wC wD hN (by omega) (fun hT5 => ?_) (fun hF5 => ?_))
  · skip
    dsimp only [Option.toList, List.cons_append, List.nil_append]
    (try simp only [Int.zero_add] at hT5); (try simp only [Int.zero_add] at hF5)
    refine a_if_eq 40 eX9_wish_8 (by decide) (by omega) (fun h => absurd h (by decide)) (fun _ => ?_)
    have w5 := v5 c (by omega) (by omega)
    unfold wfCab at w5
    refine a_ald0 eX9_wish_11 ?_
    refine a_getR 2 21 eX9_wish_12 fl_X9_26 rfl rfl sh_0 ((congrFun (congrFun hR _) _).trans rf_0_2) ?_
    refine a_getR 2 (21 + 1) eX9_wish_15 fl_X9_142 rfl rfl (sh_day (Or.inl rfl)) ((congrFun (congrFun hR _) _).trans (rf_day_2 (Or.inl rfl))) ?_
    refine a_ild1 eX9_wish_18 ?_
    refine a_aald _ eX9_wish_19 (sh_day_1 (Or.inl rfl)) rfl rfl rfl (by omega) ((congrFun (congrFun hR _) _).trans (rf_cab (Or.inl rfl) (by omega))) ?_
    refine a_getI 3 eX9_wish_20 fl_X9_154 rfl rfl (sh_cab (Or.inl rfl) (by omega)) ?_
    refine a_eqtop (y0 := m (100 + c) 3) (by exact d5 c 3 (by omega) (by omega) (by omega) (by omega)) ?_
    refine a_ild2 eX9_wish_23 ?_
    refine a_icmp_eq 40 eX9_wish_24 (by decide) (by omega) (fun hT24 => ?_) (fun hF24 => ?_)
    · skip
      refine a_iconst eX9_wish_40 ?_
      refine a_zret eX9_wish_41 rfl (by first | exact Or.inl rfl | exact Or.inr rfl | omega) rfl ⟨Nat.zero_le _, Nat.zero_le _⟩ ?_
      exact h0 (fun q => by unfold vwish at q; omega)
    · skip
      refine a_ild2 eX9_wish_27 ?_
      refine a_iconst eX9_wish_28 ?_
      refine a_icmp_eq 42 eX9_wish_29 (by decide) (by omega) (fun hT29 => ?_) (fun hF29 => ?_)
      · skip
        refine a_ald0 eX9_wish_42 ?_
        refine a_getR 2 21 eX9_wish_43 fl_X9_26 rfl rfl sh_0 ((congrFun (congrFun hR _) _).trans rf_0_2) ?_
        refine a_getR 2 (21 + 1) eX9_wish_46 fl_X9_142 rfl rfl (sh_day (Or.inl rfl)) ((congrFun (congrFun hR _) _).trans (rf_day_2 (Or.inl rfl))) ?_
        refine a_ild1 eX9_wish_49 ?_
        refine a_aald _ eX9_wish_50 (sh_day_1 (Or.inl rfl)) rfl rfl rfl (by omega) ((congrFun (congrFun hR _) _).trans (rf_cab (Or.inl rfl) (by omega))) ?_
        refine a_ild2 eX9_wish_51 ?_
        refine a_putI 9 eX9_wish_52 fl_X9_176 rfl rfl (sh_cab (Or.inl rfl) (by omega)) (fun q h => Or.inl (by cases h; rfl)) ?_
        refine a_iconst eX9_wish_55 ?_
        refine a_zret eX9_wish_56 rfl (by first | exact Or.inl rfl | exact Or.inr rfl | omega) rfl ⟨Nat.zero_le _, Nat.zero_le _⟩ ?_
        refine h1 ⟨by omega, by omega, by omega⟩ _ ?_ ⟨fun a j h => by simp only [rd_si, rd_sa]; (repeat rw [if_neg (by omega)]), rfl⟩
        refine dayC_cab (by omega) (by omega) hD (fun a j q => by simp only [rd_si]; (repeat rw [if_neg (by omega)])) (fun f q1 q2 => ?_)
        simp only [rd_si, true_and, xwi]
        by_cases q : f = 9
        · rw [if_pos q, if_pos q]
        · rw [if_neg q, if_neg q]; exact d5 c f (by omega) (by omega) q1 q2
      · skip
        refine a_ald0 eX9_wish_32 ?_
        refine a_ild2 eX9_wish_33 ?_
        refine a_cV1 eX9_wish_34 lk_X9_102 mV_X9_hasRank sh_0 ⟨_, rfl, rfl⟩ mt_X9_hasRank rfl rfl rfl rfl rfl (c_X9_hasRank hR hct hrt hC wC (by omega) (fun hT34 => ?_) (fun hF34 => ?_))
        · skip
          dsimp only [Option.toList, List.cons_append, List.nil_append]
          refine a_if_ne 42 eX9_wish_37 (by decide) (by omega) (fun _ => ?_) (fun h => absurd h (by decide))
          refine a_ald0 eX9_wish_42 ?_
          refine a_getR 2 21 eX9_wish_43 fl_X9_26 rfl rfl sh_0 ((congrFun (congrFun hR _) _).trans rf_0_2) ?_
          refine a_getR 2 (21 + 1) eX9_wish_46 fl_X9_142 rfl rfl (sh_day (Or.inl rfl)) ((congrFun (congrFun hR _) _).trans (rf_day_2 (Or.inl rfl))) ?_
          refine a_ild1 eX9_wish_49 ?_
          refine a_aald _ eX9_wish_50 (sh_day_1 (Or.inl rfl)) rfl rfl rfl (by omega) ((congrFun (congrFun hR _) _).trans (rf_cab (Or.inl rfl) (by omega))) ?_
          refine a_ild2 eX9_wish_51 ?_
          refine a_putI 9 eX9_wish_52 fl_X9_176 rfl rfl (sh_cab (Or.inl rfl) (by omega)) (fun q h => Or.inl (by cases h; rfl)) ?_
          refine a_iconst eX9_wish_55 ?_
          refine a_zret eX9_wish_56 rfl (by first | exact Or.inl rfl | exact Or.inr rfl | omega) rfl ⟨Nat.zero_le _, Nat.zero_le _⟩ ?_
          refine h1 ⟨by omega, by omega, by omega⟩ _ ?_ ⟨fun a j h => by simp only [rd_si, rd_sa]; (repeat rw [if_neg (by omega)]), rfl⟩
          refine dayC_cab (by omega) (by omega) hD (fun a j q => by simp only [rd_si]; (repeat rw [if_neg (by omega)])) (fun f q1 q2 => ?_)
          simp only [rd_si, true_and, xwi]
          by_cases q : f = 9
          · rw [if_pos q, if_pos q]
          · rw [if_neg q, if_neg q]; exact d5 c f (by omega) (by omega) q1 q2
        · skip
          dsimp only [Option.toList, List.cons_append, List.nil_append]
          refine a_if_ne 42 eX9_wish_37 (by decide) (by omega) (fun h => absurd h (by decide)) (fun _ => ?_)
          refine a_iconst eX9_wish_40 ?_
          refine a_zret eX9_wish_41 rfl (by first | exact Or.inl rfl | exact Or.inr rfl | omega) rfl ⟨Nat.zero_le _, Nat.zero_le _⟩ ?_
          exact h0 (fun q => by unfold vwish at q; omega)
  · skip
    dsimp only [Option.toList, List.cons_append, List.nil_append]
    (try simp only [Int.zero_add] at hT5); (try simp only [Int.zero_add] at hF5)
    refine a_if_eq 40 eX9_wish_8 (by decide) (by omega) (fun _ => ?_) (fun h => absurd h (by decide))
    refine a_iconst eX9_wish_40 ?_
    refine a_zret eX9_wish_41 rfl (by first | exact Or.inl rfl | exact Or.inr rfl | omega) rfl ⟨Nat.zero_le _, Nat.zero_le _⟩ ?_
    exact h0 (fun q => by unfold vwish at q; omega)

set_option maxHeartbeats 4000000 in
set_option maxRecDepth 100000 in
theorem c_X10_wish {l : Launch} {σ : aw_S} {Post : Option Value → aw_S → Prop} {tw cs : Bool} (hR : σ.2.2 = RF tw cs) {m : mS} (hM : cityM σ m) (wC : wfCity m) {N : Int} (hM2 : dayM σ m) (wD : wfDay m 0 N) (hN : 0 ≤ N ∧ N ≤ 1000) {c r : Int} (hr : (-2147483648 ≤ c ∧ c ≤ 2147483647) ∧ (-2147483648 ≤ r ∧ r ≤ 2147483647)) (h1 : vwish m c r → ∀ σ', dayM σ' (mwish m c r) → frM σ σ' → Post (some (.int (jI 1))) σ') (h0 : ¬ vwish m c r → Post (some (.int (jI 0))) σ) : AE l yX10_wish cX10_wish 3 (some .boolean) 3 65 0 0 SH SH σ [.ref 171, .int (jI c), .int (jI r)] Post := by
  show AW l yX10_wish cX10_wish 3 (some .boolean) 3 65 0 0 SH Post SH 0 0 σ 0 [some (.ref 171), some (.int (jI c)), some (.int (jI r))] []
  obtain ⟨c1, c2, c3, c4, c5, c6, c7⟩ := id hM
  obtain ⟨w1, w2, w3, w4, w5, w6, w7, w8⟩ := id wC
  obtain ⟨d1, d2, d3, d4, d5, d6, d7⟩ := id hM2
  obtain ⟨v1, v2, v3, v4, v5, v6, v7, v8⟩ := id wD
  simp only [Int.zero_add] at d4 d5 d6 d7 v4 v5 v6 v7 v8
  refine a_ald0 eX10_wish_0 ?_
  refine a_ild1 eX10_wish_1 ?_
  refine a_iconst eX10_wish_2 ?_
  refine a_cV2 eX10_wish_3 lk_X10_293 mV_X10_isAt sh_171 ⟨_, rfl, rfl⟩ mt_X10_isAt rfl rfl rfl rfl rfl rfl (c_X10_isAt hR hM2 wC wD hN (by omega) (fun hT3 => ?_) (fun hF3 => ?_))
  · skip
    dsimp only [Option.toList, List.cons_append, List.nil_append]
    refine a_if_eq 32 eX10_wish_6 (by decide) (by omega) (fun h => absurd h (by decide)) (fun _ => ?_)
    have kc := d5 c (by omega) (by omega)
    unfold cabM at kc
    have k2 := kc.2.2.2.1 (Or.inr (by omega))
    have w5 := v5 c (by omega) (by omega)
    unfold wfCab at w5
    refine a_ild2 eX10_wish_9 ?_
    refine a_iconst eX10_wish_10 ?_
    refine a_icmp_eq 22 eX10_wish_11 (by decide) (by omega) (fun hT11 => ?_) (fun hF11 => ?_)
    · skip
      refine a_ild2 eX10_wish_22 ?_
      refine a_ald0 eX10_wish_23 ?_
      refine a_ild1 eX10_wish_24 ?_
      refine a_iconst eX10_wish_25 ?_
      refine a_cV2 eX10_wish_26 lk_X10_276 mV_X10_of0 sh_171 ⟨_, rfl, rfl⟩ mt_X10_of0 rfl rfl rfl rfl rfl rfl (c_X10_of0 hR (by omega) ?_)
      dsimp only [Option.toList, List.cons_append, List.nil_append]
      refine a_eqtop (y0 := m (100 + c) 3) (by exact k2) ?_
      refine a_icmp_ne 34 eX10_wish_29 (by decide) (by omega) (fun hT29 => ?_) (fun hF29 => ?_)
      · skip
        refine a_ald0 eX10_wish_34 ?_
        refine a_ild1 eX10_wish_35 ?_
        refine a_bipush eX10_wish_36 (by decide) ?_
        refine a_ild2 eX10_wish_38 ?_
        refine a_cV3 eX10_wish_39 lk_X10_269 mV_X10_sets sh_171 ⟨_, rfl, rfl⟩ mt_X10_sets rfl rfl rfl rfl rfl rfl rfl (c_X10_sets hR (by omega) ?_)
        dsimp only [Option.toList, List.cons_append, List.nil_append]
        refine a_iconst eX10_wish_42 ?_
        refine a_zret eX10_wish_43 rfl (by first | exact Or.inl rfl | exact Or.inr rfl | omega) rfl ⟨Nat.zero_le _, Nat.zero_le _⟩ ?_
        refine h1 ⟨by omega, by omega, by omega⟩ _ ?_ ⟨fun a j h h9 => by simp only [rd_si, rd_sa]; (repeat rw [if_neg (by omega)]), rfl⟩
        refine dayM_cab (by omega) (by omega) hM2 (fun a j q => by simp only [rd_si]; (repeat rw [if_neg (by omega)])) ?_
        unfold cabM
        simp only [rd_si, true_and, xwi]
        obtain ⟨k0, k9, k1, k2, k3, k4, k5, k6, k7, k8, k10⟩ := kc
        refine ⟨?_, ?_, ?_, ?_, ?_, ?_, ?_, ?_, ?_, ?_, ?_⟩
        · (repeat (first | rw [if_pos (by omega)] | rw [if_neg (by omega)] | rw [if_pos True.intro])); (first | done | exact k0)
        · (repeat (first | rw [if_pos (by omega)] | rw [if_neg (by omega)] | rw [if_pos True.intro])); (first | done | exact k9)
        · intro q; (repeat (first | rw [if_pos (by omega)] | rw [if_neg (by omega)] | rw [if_pos True.intro])); (first | done | exact k1 q)
        · intro q; (repeat (first | rw [if_pos (by omega)] | rw [if_neg (by omega)] | rw [if_pos True.intro])); (first | done | exact k2 q)
        · intro q; (repeat (first | rw [if_pos (by omega)] | rw [if_neg (by omega)] | rw [if_pos True.intro])); (first | done | exact k3 q)
        · (repeat (first | rw [if_pos (by omega)] | rw [if_neg (by omega)] | rw [if_pos True.intro])); (first | done | exact k4)
        · (repeat (first | rw [if_pos (by omega)] | rw [if_neg (by omega)] | rw [if_pos True.intro])); (first | done | exact k5)
        · (repeat (first | rw [if_pos (by omega)] | rw [if_neg (by omega)] | rw [if_pos True.intro])); (first | done | exact k6)
        · (repeat (first | rw [if_pos (by omega)] | rw [if_neg (by omega)] | rw [if_pos True.intro])); (first | done | exact k7)
        · (repeat (first | rw [if_pos (by omega)] | rw [if_neg (by omega)] | rw [if_pos True.intro])); (first | done | rfl | exact k8)
        · (repeat (first | rw [if_pos (by omega)] | rw [if_neg (by omega)] | rw [if_pos True.intro])); (first | done | exact k10)
      · skip
        refine a_iconst eX10_wish_32 ?_
        refine a_zret eX10_wish_33 rfl (by first | exact Or.inl rfl | exact Or.inr rfl | omega) rfl ⟨Nat.zero_le _, Nat.zero_le _⟩ ?_
        exact h0 (fun q => by unfold vwish at q; omega)
    · skip
      refine a_ald0 eX10_wish_14 ?_
      refine a_ild2 eX10_wish_15 ?_
      refine a_cV1 eX10_wish_16 lk_X10_255 mV_X10_isRank sh_171 ⟨_, rfl, rfl⟩ mt_X10_isRank rfl rfl rfl rfl rfl (c_X10_isRank (by omega) (by omega) (fun hT16 => ?_) (fun hF16 => ?_))
      · skip
        dsimp only [Option.toList, List.cons_append, List.nil_append]
        refine a_if_eq 32 eX10_wish_19 (by decide) (by omega) (fun h => absurd h (by decide)) (fun _ => ?_)
        refine a_ild2 eX10_wish_22 ?_
        refine a_ald0 eX10_wish_23 ?_
        refine a_ild1 eX10_wish_24 ?_
        refine a_iconst eX10_wish_25 ?_
        refine a_cV2 eX10_wish_26 lk_X10_276 mV_X10_of0 sh_171 ⟨_, rfl, rfl⟩ mt_X10_of0 rfl rfl rfl rfl rfl rfl (c_X10_of0 hR (by omega) ?_)
        dsimp only [Option.toList, List.cons_append, List.nil_append]
        refine a_eqtop (y0 := m (100 + c) 3) (by exact k2) ?_
        refine a_icmp_ne 34 eX10_wish_29 (by decide) (by omega) (fun hT29 => ?_) (fun hF29 => ?_)
        · skip
          refine a_ald0 eX10_wish_34 ?_
          refine a_ild1 eX10_wish_35 ?_
          refine a_bipush eX10_wish_36 (by decide) ?_
          refine a_ild2 eX10_wish_38 ?_
          refine a_cV3 eX10_wish_39 lk_X10_269 mV_X10_sets sh_171 ⟨_, rfl, rfl⟩ mt_X10_sets rfl rfl rfl rfl rfl rfl rfl (c_X10_sets hR (by omega) ?_)
          dsimp only [Option.toList, List.cons_append, List.nil_append]
          refine a_iconst eX10_wish_42 ?_
          refine a_zret eX10_wish_43 rfl (by first | exact Or.inl rfl | exact Or.inr rfl | omega) rfl ⟨Nat.zero_le _, Nat.zero_le _⟩ ?_
          refine h1 ⟨by omega, by omega, by omega⟩ _ ?_ ⟨fun a j h h9 => by simp only [rd_si, rd_sa]; (repeat rw [if_neg (by omega)]), rfl⟩
          refine dayM_cab (by omega) (by omega) hM2 (fun a j q => by simp only [rd_si]; (repeat rw [if_neg (by omega)])) ?_
          unfold cabM
          simp only [rd_si, true_and, xwi]
          obtain ⟨k0, k9, k1, k2, k3, k4, k5, k6, k7, k8, k10⟩ := kc
          refine ⟨?_, ?_, ?_, ?_, ?_, ?_, ?_, ?_, ?_, ?_, ?_⟩
          · (repeat (first | rw [if_pos (by omega)] | rw [if_neg (by omega)] | rw [if_pos True.intro])); (first | done | exact k0)
          · (repeat (first | rw [if_pos (by omega)] | rw [if_neg (by omega)] | rw [if_pos True.intro])); (first | done | exact k9)
          · intro q; (repeat (first | rw [if_pos (by omega)] | rw [if_neg (by omega)] | rw [if_pos True.intro])); (first | done | exact k1 q)
          · intro q; (repeat (first | rw [if_pos (by omega)] | rw [if_neg (by omega)] | rw [if_pos True.intro])); (first | done | exact k2 q)
          · intro q; (repeat (first | rw [if_pos (by omega)] | rw [if_neg (by omega)] | rw [if_pos True.intro])); (first | done | exact k3 q)
          · (repeat (first | rw [if_pos (by omega)] | rw [if_neg (by omega)] | rw [if_pos True.intro])); (first | done | exact k4)
          · (repeat (first | rw [if_pos (by omega)] | rw [if_neg (by omega)] | rw [if_pos True.intro])); (first | done | exact k5)
          · (repeat (first | rw [if_pos (by omega)] | rw [if_neg (by omega)] | rw [if_pos True.intro])); (first | done | exact k6)
          · (repeat (first | rw [if_pos (by omega)] | rw [if_neg (by omega)] | rw [if_pos True.intro])); (first | done | exact k7)
          · (repeat (first | rw [if_pos (by omega)] | rw [if_neg (by omega)] | rw [if_pos True.intro])); (first | done | rfl | exact k8)
          · (repeat (first | rw [if_pos (by omega)] | rw [if_neg (by omega)] | rw [if_pos True.intro])); (first | done | exact k10)
        · skip
          refine a_iconst eX10_wish_32 ?_
          refine a_zret eX10_wish_33 rfl (by first | exact Or.inl rfl | exact Or.inr rfl | omega) rfl ⟨Nat.zero_le _, Nat.zero_le _⟩ ?_
          exact h0 (fun q => by unfold vwish at q; omega)
      · skip
        dsimp only [Option.toList, List.cons_append, List.nil_append]
        refine a_if_eq 32 eX10_wish_19 (by decide) (by omega) (fun _ => ?_) (fun h => absurd h (by decide))
        refine a_iconst eX10_wish_32 ?_
        refine a_zret eX10_wish_33 rfl (by first | exact Or.inl rfl | exact Or.inr rfl | omega) rfl ⟨Nat.zero_le _, Nat.zero_le _⟩ ?_
        exact h0 (fun q => by unfold vwish at q; omega)
  · skip
    dsimp only [Option.toList, List.cons_append, List.nil_append]
    refine a_if_eq 32 eX10_wish_6 (by decide) (by omega) (fun _ => ?_) (fun h => absurd h (by decide))
    refine a_iconst eX10_wish_32 ?_
    refine a_zret eX10_wish_33 rfl (by first | exact Or.inl rfl | exact Or.inr rfl | omega) rfl ⟨Nat.zero_le _, Nat.zero_le _⟩ ?_
    exact h0 (fun q => by unfold vwish at q; omega)

set_option maxHeartbeats 4000000 in
set_option maxRecDepth 100000 in
theorem c_X9_people {l : Launch} {σ : aw_S} {Post : Option Value → aw_S → Prop} {tw cs : Bool} (hR : σ.2.2 = RF tw cs) {t : Nat} (hct : isCity t) (hrt : RF tw cs 0 1 = some t) {m : mS} (hC : cityC σ t m) (wC : wfCity m) {N : Int} (hD : dayC σ 21 0 m) (wD : wfDay m 0 N) (hN : 0 ≤ N ∧ N ≤ 1000) {r v : Int} (hr : (-2147483648 ≤ r ∧ r ≤ 2147483647) ∧ (-2147483648 ≤ v ∧ v ≤ 2147483647)) (h1 : vpeople m r v → ∀ σ', dayC σ' 21 0 (mpeople m r v) → frC σ σ' → Post (some (.int (jI 1))) σ') (h0 : ¬ vpeople m r v → Post (some (.int (jI 0))) σ) : AE l yX9_people cX9_people 3 (some .boolean) 2 43 0 0 SH SH σ [.ref 0, .int (jI r), .int (jI v)] Post := by
  show AW l yX9_people cX9_people 3 (some .boolean) 2 43 0 0 SH Post SH 0 0 σ 0 [some (.ref 0), some (.int (jI r)), some (.int (jI v))] []
  obtain ⟨c1, c2, c3, c4, c5, c6, c7, c8⟩ := id hC
  obtain ⟨w1, w2, w3, w4, w5, w6, w7, w8⟩ := id wC
  obtain ⟨d1, d2, d3, d4, d5, d6, d7⟩ := id hD
  obtain ⟨v1, v2, v3, v4, v5, v6, v7, v8⟩ := id wD
  simp only [Int.zero_add] at d4 d5 d6 d7 v4 v5 v6 v7 v8
  refine a_ald0 eX9_people_0 ?_
  refine a_ild1 eX9_people_1 ?_
  refine a_cV1 eX9_people_2 lk_X9_102 mV_X9_hasRank sh_0 ⟨_, rfl, rfl⟩ mt_X9_hasRank rfl rfl rfl rfl rfl (c_X9_hasRank hR hct hrt hC wC (by omega) (fun hT2 => ?_) (fun hF2 => ?_))
  · skip
    dsimp only [Option.toList, List.cons_append, List.nil_append]
    refine a_if_eq 18 eX9_people_5 (by decide) (by omega) (fun h => absurd h (by decide)) (fun _ => ?_)
    refine a_ild2 eX9_people_8 ?_
    refine a_iconst eX9_people_9 ?_
    refine a_bipush eX9_people_10 (by decide) ?_
    refine a_cS3 eX9_people_12 lk_X9_81 mS_X9_within mt_X9_within rfl rfl rfl rfl rfl rfl rfl (c_X9_within (by omega) (fun hT12 => ?_) (fun hF12 => ?_))
    · skip
      dsimp only [Option.toList, List.cons_append, List.nil_append]
      refine a_if_ne 20 eX9_people_15 (by decide) (by omega) (fun _ => ?_) (fun h => absurd h (by decide))
      refine a_ald0 eX9_people_20 ?_
      refine a_getR 2 21 eX9_people_21 fl_X9_26 rfl rfl sh_0 ((congrFun (congrFun hR _) _).trans rf_0_2) ?_
      refine a_getR 5 (21 + 10) eX9_people_24 fl_X9_119 rfl rfl (sh_day (Or.inl rfl)) ((congrFun (congrFun hR _) _).trans (rf_day_5 (Or.inl rfl))) ?_
      refine a_ild1 eX9_people_27 ?_
      refine a_ild2 eX9_people_28 ?_
      refine a_iast eX9_people_29 (sh_day_10 (Or.inl rfl)) rfl (by omega) ?_
      refine a_iconst eX9_people_30 ?_
      refine a_zret eX9_people_31 rfl (by first | exact Or.inl rfl | exact Or.inr rfl | omega) rfl ⟨Nat.zero_le _, Nat.zero_le _⟩ ?_
      refine h1 ⟨by omega, by omega⟩ _ ?_ ⟨fun a j h => by simp only [rd_si, rd_sa]; (repeat rw [if_neg (by omega)]), rfl⟩
      exact dayC_people hD (by omega) (fun a j q => by simp only [rd_si]; (repeat rw [if_neg (by omega)])) rd_si_eq
    · skip
      dsimp only [Option.toList, List.cons_append, List.nil_append]
      refine a_if_ne 20 eX9_people_15 (by decide) (by omega) (fun h => absurd h (by decide)) (fun _ => ?_)
      refine a_iconst eX9_people_18 ?_
      refine a_zret eX9_people_19 rfl (by first | exact Or.inl rfl | exact Or.inr rfl | omega) rfl ⟨Nat.zero_le _, Nat.zero_le _⟩ ?_
      exact h0 (fun q => by unfold vpeople at q; omega)
  · skip
    dsimp only [Option.toList, List.cons_append, List.nil_append]
    refine a_if_eq 18 eX9_people_5 (by decide) (by omega) (fun _ => ?_) (fun h => absurd h (by decide))
    refine a_iconst eX9_people_18 ?_
    refine a_zret eX9_people_19 rfl (by first | exact Or.inl rfl | exact Or.inr rfl | omega) rfl ⟨Nat.zero_le _, Nat.zero_le _⟩ ?_
    exact h0 (fun q => by unfold vpeople at q; omega)

set_option maxHeartbeats 4000000 in
set_option maxRecDepth 100000 in
theorem c_X10_people {l : Launch} {σ : aw_S} {Post : Option Value → aw_S → Prop} {tw cs : Bool} (hR : σ.2.2 = RF tw cs) {m : mS} (hM : cityM σ m) (wC : wfCity m) {N : Int} (hM2 : dayM σ m) (wD : wfDay m 0 N) (hN : 0 ≤ N ∧ N ≤ 1000) {r v : Int} (hr : (-2147483648 ≤ r ∧ r ≤ 2147483647) ∧ (-2147483648 ≤ v ∧ v ≤ 2147483647)) (h1 : vpeople m r v → ∀ σ', dayM σ' (mpeople m r v) → frM σ σ' → Post (some (.int (jI 1))) σ') (h0 : ¬ vpeople m r v → Post (some (.int (jI 0))) σ) : AE l yX10_people cX10_people 3 (some .boolean) 2 43 0 0 SH SH σ [.ref 171, .int (jI r), .int (jI v)] Post := by
  show AW l yX10_people cX10_people 3 (some .boolean) 2 43 0 0 SH Post SH 0 0 σ 0 [some (.ref 171), some (.int (jI r)), some (.int (jI v))] []
  obtain ⟨c1, c2, c3, c4, c5, c6, c7⟩ := id hM
  obtain ⟨w1, w2, w3, w4, w5, w6, w7, w8⟩ := id wC
  obtain ⟨d1, d2, d3, d4, d5, d6, d7⟩ := id hM2
  obtain ⟨v1, v2, v3, v4, v5, v6, v7, v8⟩ := id wD
  simp only [Int.zero_add] at d4 d5 d6 d7 v4 v5 v6 v7 v8
  refine a_ald0 eX10_people_0 ?_
  refine a_ild1 eX10_people_1 ?_
  refine a_cV1 eX10_people_2 lk_X10_255 mV_X10_isRank sh_171 ⟨_, rfl, rfl⟩ mt_X10_isRank rfl rfl rfl rfl rfl (c_X10_isRank (by omega) (by omega) (fun hT2 => ?_) (fun hF2 => ?_))
  · skip
    dsimp only [Option.toList, List.cons_append, List.nil_append]
    refine a_if_eq 18 eX10_people_5 (by decide) (by omega) (fun h => absurd h (by decide)) (fun _ => ?_)
    refine a_ild2 eX10_people_8 ?_
    refine a_iconst eX10_people_9 ?_
    refine a_bipush eX10_people_10 (by decide) ?_
    refine a_cS3 eX10_people_12 lk_X10_128 mS_X10_in mt_X10_in rfl rfl rfl rfl rfl rfl rfl (c_X10_in (by omega) (fun hT12 => ?_) (fun hF12 => ?_))
    · skip
      dsimp only [Option.toList, List.cons_append, List.nil_append]
      refine a_if_ne 20 eX10_people_15 (by decide) (by omega) (fun _ => ?_) (fun h => absurd h (by decide))
      refine a_ald0 eX10_people_20 ?_
      refine a_getR 28 186 eX10_people_21 fl_X10_54 rfl rfl sh_171 ((congrFun (congrFun hR _) _).trans rf_171_28) ?_
      refine a_ild1 eX10_people_24 ?_
      refine a_ild2 eX10_people_25 ?_
      refine a_iast eX10_people_26 sh_186 rfl (by omega) ?_
      refine a_iconst eX10_people_27 ?_
      refine a_zret eX10_people_28 rfl (by first | exact Or.inl rfl | exact Or.inr rfl | omega) rfl ⟨Nat.zero_le _, Nat.zero_le _⟩ ?_
      refine h1 ⟨by omega, by omega⟩ _ ?_ ⟨fun a j h h9 => by simp only [rd_si, rd_sa]; (repeat rw [if_neg (by omega)]), rfl⟩
      exact dayM_people hM2 (fun a j q => by simp only [rd_si]; (repeat rw [if_neg (by omega)])) rd_si_eq
    · skip
      dsimp only [Option.toList, List.cons_append, List.nil_append]
      refine a_if_ne 20 eX10_people_15 (by decide) (by omega) (fun h => absurd h (by decide)) (fun _ => ?_)
      refine a_iconst eX10_people_18 ?_
      refine a_zret eX10_people_19 rfl (by first | exact Or.inl rfl | exact Or.inr rfl | omega) rfl ⟨Nat.zero_le _, Nat.zero_le _⟩ ?_
      exact h0 (fun q => by unfold vpeople at q; omega)
  · skip
    dsimp only [Option.toList, List.cons_append, List.nil_append]
    refine a_if_eq 18 eX10_people_5 (by decide) (by omega) (fun _ => ?_) (fun h => absurd h (by decide))
    refine a_iconst eX10_people_18 ?_
    refine a_zret eX10_people_19 rfl (by first | exact Or.inl rfl | exact Or.inr rfl | omega) rfl ⟨Nat.zero_le _, Nat.zero_le _⟩ ?_
    exact h0 (fun q => by unfold vpeople at q; omega)

set_option maxHeartbeats 4000000 in
set_option maxRecDepth 100000 in
theorem c_X5_addCab {l : Launch} {σ : aw_S} {Post : Option Value → aw_S → Prop} {tw cs : Bool} (hR : σ.2.2 = RF tw cs) {N : Int} {m : mS} (hD : dayC σ 21 0 m) (wC : wfCity m) (wD : wfDay m 0 N) (hN : 0 ≤ N ∧ N ≤ 1000) {z p : Int} (hz : 0 ≤ z ∧ z ≤ 3) (hp : 0 ≤ p ∧ p ≤ 99) (h1 : m 0 4 < 16 → ∀ σ', dayC σ' 21 0 (mcab m z p) → frC σ σ' → Post (some (.int (jI (m 0 4)))) σ') (h0 : ¬ m 0 4 < 16 → Post (some (.int (jI (-1)))) σ) : AE l yX5_addCab cX5_addCab 3 (some .int) 2 43 0 0 SH SH σ [.ref 21, .int (jI z), .int (jI p)] Post := by
  show AW l yX5_addCab cX5_addCab 3 (some .int) 2 43 0 0 SH Post SH 0 0 σ 0 [some (.ref 21), some (.int (jI z)), some (.int (jI p))] []
  obtain ⟨d1, d2, d3, d4, d5, d6, d7⟩ := id hD
  obtain ⟨w1, w2, w3, w4, w5, w6, w7, w8⟩ := id wC
  obtain ⟨v1, v2, v3, v4, v5, v6, v7, v8⟩ := id wD
  simp only [Int.zero_add] at d4 d5 d6 d7 v4 v5 v6 v7 v8
  refine a_ald0 eX5_addCab_0 ?_
  refine a_getI 1 eX5_addCab_1 fl_X5_37 rfl rfl (sh_day (Or.inl rfl)) ?_
  refine a_bipush eX5_addCab_4 (by decide) ?_
  refine a_icmp_lt 11 eX5_addCab_6 (by decide) (by omega) (fun hT6 => ?_) (fun hF6 => ?_)
  · skip
    refine a_ald0 eX5_addCab_11 ?_
    refine a_getR 2 (21 + 1) eX5_addCab_12 fl_X5_11 rfl rfl (sh_day (Or.inl rfl)) ((congrFun (congrFun hR _) _).trans (rf_day_2 (Or.inl rfl))) ?_
    refine a_ald0 eX5_addCab_15 ?_
    refine a_getI 1 eX5_addCab_16 fl_X5_37 rfl rfl (sh_day (Or.inl rfl)) ?_
    refine a_eqtop (y0 := m 0 4) (by exact d2) ?_
    refine a_aald _ eX5_addCab_19 (sh_day_1 (Or.inl rfl)) rfl rfl rfl (by omega) ((congrFun (congrFun hR _) _).trans (rf_cab (Or.inl rfl) (by omega))) ?_
    refine a_ild1 eX5_addCab_20 ?_
    refine a_ild2 eX5_addCab_21 ?_
    refine a_cV2 eX5_addCab_22 lk_X5_70 mV_X2_begin (sh_cab (Or.inl rfl) (by omega)) ⟨_, rfl, rfl⟩ mt_X2_begin rfl rfl rfl rfl rfl rfl (c_X2_begin (Or.inl rfl) (by omega) ?_)
    dsimp only [Option.toList, List.cons_append, List.nil_append]
    refine a_ald0 eX5_addCab_25 ?_
    refine a_dup eX5_addCab_26 rfl ?_
    refine a_getI 1 eX5_addCab_27 fl_X5_37 rfl rfl (sh_day (Or.inl rfl)) ?_
    refine a_eqtop (y0 := m 0 4) (by simp only [rd_si, rd_sa, and_self, true_and, and_true, ↓reduceIte]; (repeat (first | rw [if_pos (by omega)] | rw [if_neg (by omega)] | rw [if_pos True.intro])); exact d2) ?_
    refine a_iconst eX5_addCab_30 ?_
    refine a_iadd eX5_addCab_31 ?_
    refine a_putI 1 eX5_addCab_32 fl_X5_37 rfl rfl (sh_day (Or.inl rfl)) (fun q h => Or.inl (by cases h; rfl)) ?_
    refine a_ald0 eX5_addCab_35 ?_
    refine a_getI 1 eX5_addCab_36 fl_X5_37 rfl rfl (sh_day (Or.inl rfl)) ?_
    refine a_eqtop (y0 := m 0 4 + 1) (by simp only [rd_si, rd_sa, and_self, true_and, and_true, ↓reduceIte]; (repeat (first | rw [if_pos (by omega)] | rw [if_neg (by omega)] | rw [if_pos True.intro])); (try rfl)) ?_
    refine a_iconst eX5_addCab_39 ?_
    refine a_isub eX5_addCab_40 ?_
    refine a_iret eX5_addCab_41 rfl rfl ⟨Nat.zero_le _, Nat.zero_le _⟩ ?_
    refine aw_ret (x := m 0 4) ?_ (by omega)
    refine h1 (by omega) _ ?_ ⟨fun a j h => by simp only [rd_si, rd_sa]; (repeat rw [if_neg (by omega)]), rfl⟩
    refine dayC_ncab hD (by omega) (fun a j q1 q2 => by simp only [rd_si]; (repeat rw [if_neg (by omega)])) rd_si_eq (fun f q1 q2 => ?_)
    rcases (show f = 0 ∨ f = 1 ∨ f = 2 ∨ f = 3 ∨ f = 4 ∨ f = 5 ∨ f = 6 ∨ f = 7 ∨ f = 8 ∨ f = 9 ∨ f = 10 by omega) with rfl | rfl | rfl | rfl | rfl | rfl | rfl | rfl | rfl | rfl | rfl
    · (simp only [rd_si, true_and]; (repeat (first | rw [if_pos (by omega)] | rw [if_neg (by omega)] | rw [if_pos True.intro])); (try rfl))
    · (simp only [rd_si, true_and]; (repeat (first | rw [if_pos (by omega)] | rw [if_neg (by omega)] | rw [if_pos True.intro])); (try rfl))
    · (simp only [rd_si, true_and]; (repeat (first | rw [if_pos (by omega)] | rw [if_neg (by omega)] | rw [if_pos True.intro])); (try rfl))
    · (simp only [rd_si, true_and]; (repeat (first | rw [if_pos (by omega)] | rw [if_neg (by omega)] | rw [if_pos True.intro])); (try rfl))
    · (simp only [rd_si, true_and]; (repeat (first | rw [if_pos (by omega)] | rw [if_neg (by omega)] | rw [if_pos True.intro])); (try rfl))
    · (simp only [rd_si, true_and]; (repeat (first | rw [if_pos (by omega)] | rw [if_neg (by omega)] | rw [if_pos True.intro])); (try rfl))
    · (simp only [rd_si, true_and]; (repeat (first | rw [if_pos (by omega)] | rw [if_neg (by omega)] | rw [if_pos True.intro])); (try rfl))
    · (simp only [rd_si, true_and]; (repeat (first | rw [if_pos (by omega)] | rw [if_neg (by omega)] | rw [if_pos True.intro])); (try rfl))
    · (simp only [rd_si, true_and]; (repeat (first | rw [if_pos (by omega)] | rw [if_neg (by omega)] | rw [if_pos True.intro])); (try rfl))
    · (simp only [rd_si, true_and]; (repeat (first | rw [if_pos (by omega)] | rw [if_neg (by omega)] | rw [if_pos True.intro])); (try rfl))
    · (simp only [rd_si, true_and]; (repeat (first | rw [if_pos (by omega)] | rw [if_neg (by omega)] | rw [if_pos True.intro])); (try rfl))
  · skip
    refine a_iconst eX5_addCab_9 ?_
    refine a_iret eX5_addCab_10 rfl rfl ⟨Nat.zero_le _, Nat.zero_le _⟩ ?_
    exact h0 (by omega)

set_option maxHeartbeats 4000000 in
set_option maxRecDepth 100000 in
theorem c_X9_cab {l : Launch} {σ : aw_S} {Post : Option Value → aw_S → Prop} {tw cs : Bool} (hR : σ.2.2 = RF tw cs) {t : Nat} (hct : isCity t) (hrt : RF tw cs 0 1 = some t) {m : mS} (hC : cityC σ t m) (wC : wfCity m) {N : Int} (hD : dayC σ 21 0 m) (wD : wfDay m 0 N) (hN : 0 ≤ N ∧ N ≤ 1000) {z p : Int} (hr : (-2147483648 ≤ z ∧ z ≤ 2147483647) ∧ (-2147483648 ≤ p ∧ p ≤ 2147483647)) (h1 : vcab m z p → ∀ σ', dayC σ' 21 0 (mcab m z p) → frC σ σ' → Post (some (.int (jI (m 0 4)))) σ') (h0 : ¬ vcab m z p → Post (some (.int (jI (-1)))) σ) : AE l yX9_cab cX9_cab 3 (some .int) 3 65 0 0 SH SH σ [.ref 0, .int (jI z), .int (jI p)] Post := by
  show AW l yX9_cab cX9_cab 3 (some .int) 3 65 0 0 SH Post SH 0 0 σ 0 [some (.ref 0), some (.int (jI z)), some (.int (jI p))] []
  obtain ⟨c1, c2, c3, c4, c5, c6, c7, c8⟩ := id hC
  obtain ⟨w1, w2, w3, w4, w5, w6, w7, w8⟩ := id wC
  obtain ⟨d1, d2, d3, d4, d5, d6, d7⟩ := id hD
  obtain ⟨v1, v2, v3, v4, v5, v6, v7, v8⟩ := id wD
  simp only [Int.zero_add] at d4 d5 d6 d7 v4 v5 v6 v7 v8
  refine a_ald0 eX9_cab_0 ?_
  refine a_cV0 eX9_cab_1 lk_X9_129 mV_X9_hasCity sh_0 ⟨_, rfl, rfl⟩ mt_X9_hasCity rfl rfl rfl rfl (c_X9_hasCity hR hct hrt hC wC (fun hT1 => ?_) (fun hF1 => ?_))
  · skip
    dsimp only [Option.toList, List.cons_append, List.nil_append]
    refine a_if_eq 26 eX9_cab_4 (by decide) (by omega) (fun h => absurd h (by decide)) (fun _ => ?_)
    refine a_ild1 eX9_cab_7 ?_
    refine a_iconst eX9_cab_8 ?_
    refine a_iconst eX9_cab_9 ?_
    refine a_cS3 eX9_cab_10 lk_X9_81 mS_X9_within mt_X9_within rfl rfl rfl rfl rfl rfl rfl (c_X9_within (by omega) (fun hT10 => ?_) (fun hF10 => ?_))
    · skip
      dsimp only [Option.toList, List.cons_append, List.nil_append]
      refine a_if_eq 26 eX9_cab_13 (by decide) (by omega) (fun h => absurd h (by decide)) (fun _ => ?_)
      refine a_ild2 eX9_cab_16 ?_
      refine a_iconst eX9_cab_17 ?_
      refine a_bipush eX9_cab_18 (by decide) ?_
      refine a_cS3 eX9_cab_20 lk_X9_81 mS_X9_within mt_X9_within rfl rfl rfl rfl rfl rfl rfl (c_X9_within (by omega) (fun hT20 => ?_) (fun hF20 => ?_))
      · skip
        dsimp only [Option.toList, List.cons_append, List.nil_append]
        refine a_if_ne 28 eX9_cab_23 (by decide) (by omega) (fun _ => ?_) (fun h => absurd h (by decide))
        refine a_ald0 eX9_cab_28 ?_
        refine a_getR 2 21 eX9_cab_29 fl_X9_26 rfl rfl sh_0 ((congrFun (congrFun hR _) _).trans rf_0_2) ?_
        refine a_ild1 eX9_cab_32 ?_
        refine a_ild2 eX9_cab_33 ?_
        refine a_cV2 eX9_cab_34 lk_X9_136 mV_X5_addCab (sh_day (Or.inl rfl)) ⟨_, rfl, rfl⟩ mt_X5_addCab rfl rfl rfl rfl rfl rfl (c_X5_addCab hR hD wC wD hN (by omega) (by omega) (fun hT34 σ1 hD1 fr1 => ?_) (fun hF34 => ?_))
        · skip
          dsimp only [Option.toList, List.cons_append, List.nil_append]
          refine a_iret eX9_cab_37 rfl rfl ⟨Nat.zero_le _, Nat.zero_le _⟩ ?_
          first
            | exact h1 ⟨by omega, by omega, by omega, by omega⟩ σ1 hD1 fr1
            | exact h0 (fun q => by unfold vcab at q; omega)
        · skip
          dsimp only [Option.toList, List.cons_append, List.nil_append]
          refine a_iret eX9_cab_37 rfl rfl ⟨Nat.zero_le _, Nat.zero_le _⟩ ?_
          first
            | exact h1 ⟨by omega, by omega, by omega, by omega⟩ σ1 hD1 fr1
            | exact h0 (fun q => by unfold vcab at q; omega)
      · skip
        dsimp only [Option.toList, List.cons_append, List.nil_append]
        refine a_if_ne 28 eX9_cab_23 (by decide) (by omega) (fun h => absurd h (by decide)) (fun _ => ?_)
        refine a_iconst eX9_cab_26 ?_
        refine a_iret eX9_cab_27 rfl rfl ⟨Nat.zero_le _, Nat.zero_le _⟩ ?_
        exact h0 (fun q => by unfold vcab at q; omega)
    · skip
      dsimp only [Option.toList, List.cons_append, List.nil_append]
      refine a_if_eq 26 eX9_cab_13 (by decide) (by omega) (fun _ => ?_) (fun h => absurd h (by decide))
      refine a_iconst eX9_cab_26 ?_
      refine a_iret eX9_cab_27 rfl rfl ⟨Nat.zero_le _, Nat.zero_le _⟩ ?_
      exact h0 (fun q => by unfold vcab at q; omega)
  · skip
    dsimp only [Option.toList, List.cons_append, List.nil_append]
    refine a_if_eq 26 eX9_cab_4 (by decide) (by omega) (fun _ => ?_) (fun h => absurd h (by decide))
    refine a_iconst eX9_cab_26 ?_
    refine a_iret eX9_cab_27 rfl rfl ⟨Nat.zero_le _, Nat.zero_le _⟩ ?_
    exact h0 (fun q => by unfold vcab at q; omega)

set_option maxHeartbeats 4000000 in
set_option maxRecDepth 100000 in
theorem c_X10_cab {l : Launch} {σ : aw_S} {Post : Option Value → aw_S → Prop} {tw cs : Bool} (hR : σ.2.2 = RF tw cs) {m : mS} (hM : cityM σ m) (wC : wfCity m) {N : Int} (hM2 : dayM σ m) (wD : wfDay m 0 N) (hN : 0 ≤ N ∧ N ≤ 1000) {z p : Int} (hr : (-2147483648 ≤ z ∧ z ≤ 2147483647) ∧ (-2147483648 ≤ p ∧ p ≤ 2147483647)) (h1 : vcab m z p → ∀ σ', dayM σ' (mcab m z p) → frM σ σ' → Post (some (.int (jI (m 0 4)))) σ') (h0 : ¬ vcab m z p → Post (some (.int (jI (-1)))) σ) : AE l yX10_cab cX10_cab 4 (some .int) 1 23 0 0 SH SH σ [.ref 171, .int (jI z), .int (jI p)] Post := by
  show AW l yX10_cab cX10_cab 4 (some .int) 1 23 0 0 SH Post SH 0 0 σ 0 [some (.ref 171), some (.int (jI z)), some (.int (jI p)), none] []
  obtain ⟨c1, c2, c3, c4, c5, c6, c7⟩ := id hM
  obtain ⟨w1, w2, w3, w4, w5, w6, w7, w8⟩ := id wC
  obtain ⟨d1, d2, d3, d4, d5, d6, d7⟩ := id hM2
  obtain ⟨v1, v2, v3, v4, v5, v6, v7, v8⟩ := id wD
  simp only [Int.zero_add] at d4 d5 d6 d7 v4 v5 v6 v7 v8
  refine a_ald0 eX10_cab_0 ?_
  refine a_getI 14 eX10_cab_1 fl_X10_235 rfl rfl sh_171 ?_
  refine a_if_eq 35 eX10_cab_4 (by decide) (by omega) (fun hT4 => ?_) (fun hF4 => ?_)
  · skip
    refine a_iconst eX10_cab_35 ?_
    refine a_iret eX10_cab_36 rfl rfl ⟨Nat.zero_le _, Nat.zero_le _⟩ ?_
    exact h0 (fun q => by unfold vcab at q; omega)
  · skip
    refine a_ild1 eX10_cab_7 ?_
    refine a_iconst eX10_cab_8 ?_
    refine a_iconst eX10_cab_9 ?_
    refine a_cS3 eX10_cab_10 lk_X10_128 mS_X10_in mt_X10_in rfl rfl rfl rfl rfl rfl rfl (c_X10_in (by omega) (fun hT10 => ?_) (fun hF10 => ?_))
    · skip
      dsimp only [Option.toList, List.cons_append, List.nil_append]
      refine a_if_eq 35 eX10_cab_13 (by decide) (by omega) (fun h => absurd h (by decide)) (fun _ => ?_)
      refine a_ild2 eX10_cab_16 ?_
      refine a_iconst eX10_cab_17 ?_
      refine a_bipush eX10_cab_18 (by decide) ?_
      refine a_cS3 eX10_cab_20 lk_X10_128 mS_X10_in mt_X10_in rfl rfl rfl rfl rfl rfl rfl (c_X10_in (by omega) (fun hT20 => ?_) (fun hF20 => ?_))
      · skip
        dsimp only [Option.toList, List.cons_append, List.nil_append]
        refine a_if_eq 35 eX10_cab_23 (by decide) (by omega) (fun h => absurd h (by decide)) (fun _ => ?_)
        refine a_ald0 eX10_cab_26 ?_
        refine a_getI 22 eX10_cab_27 fl_X10_246 rfl rfl sh_171 ?_
        refine a_bipush eX10_cab_30 (by decide) ?_
        refine a_icmp_ne 37 eX10_cab_32 (by decide) (by omega) (fun hT32 => ?_) (fun hF32 => ?_)
        · skip
          refine a_ald0 eX10_cab_37 ?_
          refine a_getI 22 eX10_cab_38 fl_X10_246 rfl rfl sh_171 ?_
          refine a_eqtop (y0 := m 0 4) (by exact d2) ?_
          refine a_ist3 eX10_cab_41 (by decide) aw_n2i ?_
          refine a_ald0 eX10_cab_42 ?_
          refine a_dup eX10_cab_43 rfl ?_
          refine a_getI 22 eX10_cab_44 fl_X10_246 rfl rfl sh_171 ?_
          refine a_eqtop (y0 := m 0 4) (by exact d2) ?_
          refine a_iconst eX10_cab_47 ?_
          refine a_iadd eX10_cab_48 ?_
          refine a_putI 22 eX10_cab_49 fl_X10_246 rfl rfl sh_171 (fun q h => Or.inl (by cases h; rfl)) ?_
          refine a_ald0 eX10_cab_52 ?_
          refine a_ild3 eX10_cab_53 ?_
          refine a_iconst eX10_cab_54 ?_
          refine a_iconst eX10_cab_55 ?_
          refine a_cV3 eX10_cab_56 lk_X10_269 mV_X10_sets sh_171 ⟨_, rfl, rfl⟩ mt_X10_sets rfl rfl rfl rfl rfl rfl rfl (c_X10_sets hR (by omega) ?_)
          dsimp only [Option.toList, List.cons_append, List.nil_append]
          refine a_ald0 eX10_cab_59 ?_
          refine a_ild3 eX10_cab_60 ?_
          refine a_iconst eX10_cab_61 ?_
          refine a_ild2 eX10_cab_62 ?_
          refine a_cV3 eX10_cab_63 lk_X10_269 mV_X10_sets sh_171 ⟨_, rfl, rfl⟩ mt_X10_sets rfl rfl rfl rfl rfl rfl rfl (c_X10_sets hR (by omega) ?_)
          dsimp only [Option.toList, List.cons_append, List.nil_append]
          refine a_ald0 eX10_cab_66 ?_
          refine a_ild3 eX10_cab_67 ?_
          refine a_iconst eX10_cab_68 ?_
          refine a_iconst eX10_cab_69 ?_
          refine a_cV3 eX10_cab_70 lk_X10_269 mV_X10_sets sh_171 ⟨_, rfl, rfl⟩ mt_X10_sets rfl rfl rfl rfl rfl rfl rfl (c_X10_sets hR (by omega) ?_)
          dsimp only [Option.toList, List.cons_append, List.nil_append]
          refine a_ald0 eX10_cab_73 ?_
          refine a_ild3 eX10_cab_74 ?_
          refine a_iconst eX10_cab_75 ?_
          refine a_iconst eX10_cab_76 ?_
          refine a_cV3 eX10_cab_77 lk_X10_269 mV_X10_sets sh_171 ⟨_, rfl, rfl⟩ mt_X10_sets rfl rfl rfl rfl rfl rfl rfl (c_X10_sets hR (by omega) ?_)
          dsimp only [Option.toList, List.cons_append, List.nil_append]
          refine a_ald0 eX10_cab_80 ?_
          refine a_ild3 eX10_cab_81 ?_
          refine a_iconst eX10_cab_82 ?_
          refine a_iconst eX10_cab_83 ?_
          refine a_cV3 eX10_cab_84 lk_X10_269 mV_X10_sets sh_171 ⟨_, rfl, rfl⟩ mt_X10_sets rfl rfl rfl rfl rfl rfl rfl (c_X10_sets hR (by omega) ?_)
          dsimp only [Option.toList, List.cons_append, List.nil_append]
          refine a_ald0 eX10_cab_87 ?_
          refine a_ild3 eX10_cab_88 ?_
          refine a_iconst eX10_cab_89 ?_
          refine a_iconst eX10_cab_90 ?_
          refine a_cV3 eX10_cab_91 lk_X10_269 mV_X10_sets sh_171 ⟨_, rfl, rfl⟩ mt_X10_sets rfl rfl rfl rfl rfl rfl rfl (c_X10_sets hR (by omega) ?_)
          dsimp only [Option.toList, List.cons_append, List.nil_append]
          refine a_ald0 eX10_cab_94 ?_
          refine a_ild3 eX10_cab_95 ?_
          refine a_bipush eX10_cab_96 (by decide) ?_
          refine a_iconst eX10_cab_98 ?_
          refine a_cV3 eX10_cab_99 lk_X10_269 mV_X10_sets sh_171 ⟨_, rfl, rfl⟩ mt_X10_sets rfl rfl rfl rfl rfl rfl rfl (c_X10_sets hR (by omega) ?_)
          dsimp only [Option.toList, List.cons_append, List.nil_append]
          refine a_ald0 eX10_cab_102 ?_
          refine a_ild3 eX10_cab_103 ?_
          refine a_bipush eX10_cab_104 (by decide) ?_
          refine a_iconst eX10_cab_106 ?_
          refine a_cV3 eX10_cab_107 lk_X10_269 mV_X10_sets sh_171 ⟨_, rfl, rfl⟩ mt_X10_sets rfl rfl rfl rfl rfl rfl rfl (c_X10_sets hR (by omega) ?_)
          dsimp only [Option.toList, List.cons_append, List.nil_append]
          refine a_ald0 eX10_cab_110 ?_
          refine a_ild3 eX10_cab_111 ?_
          refine a_bipush eX10_cab_112 (by decide) ?_
          refine a_iconst eX10_cab_114 ?_
          refine a_cV3 eX10_cab_115 lk_X10_269 mV_X10_sets sh_171 ⟨_, rfl, rfl⟩ mt_X10_sets rfl rfl rfl rfl rfl rfl rfl (c_X10_sets hR (by omega) ?_)
          dsimp only [Option.toList, List.cons_append, List.nil_append]
          refine a_ald0 eX10_cab_118 ?_
          refine a_ild3 eX10_cab_119 ?_
          refine a_bipush eX10_cab_120 (by decide) ?_
          refine a_ild1 eX10_cab_122 ?_
          refine a_cV3 eX10_cab_123 lk_X10_269 mV_X10_sets sh_171 ⟨_, rfl, rfl⟩ mt_X10_sets rfl rfl rfl rfl rfl rfl rfl (c_X10_sets hR (by omega) ?_)
          dsimp only [Option.toList, List.cons_append, List.nil_append]
          refine a_ald0 eX10_cab_126 ?_
          refine a_ild3 eX10_cab_127 ?_
          refine a_bipush eX10_cab_128 (by decide) ?_
          refine a_iconst eX10_cab_130 ?_
          refine a_cV3 eX10_cab_131 lk_X10_269 mV_X10_sets sh_171 ⟨_, rfl, rfl⟩ mt_X10_sets rfl rfl rfl rfl rfl rfl rfl (c_X10_sets hR (by omega) ?_)
          dsimp only [Option.toList, List.cons_append, List.nil_append]
          refine a_ild3 eX10_cab_134 ?_
          refine a_iret eX10_cab_135 rfl rfl ⟨Nat.zero_le _, Nat.zero_le _⟩ ?_
          refine h1 ⟨by omega, by omega, by omega, by omega⟩ _ ?_ ⟨fun a j h h9 => by simp only [rd_si, rd_sa]; (repeat rw [if_neg (by omega)]), rfl⟩
          refine dayM_ncab hM2 (by omega) (fun a j q1 q2 => by simp only [rd_si]; (repeat rw [if_neg (by omega)])) (by simp only [rd_si]; (repeat (first | rw [if_pos (by omega)] | rw [if_neg (by omega)] | rw [if_pos True.intro])); (try rfl)) ?_
          unfold cabM
          simp only [rd_si, true_and, xcab]
          refine ⟨?_, ?_, ?_, ?_, ?_, ?_, ?_, ?_, ?_, ?_, ?_⟩
          · (repeat (first | rw [if_pos (by omega)] | rw [if_neg (by omega)] | rw [if_pos True.intro])); (try rfl)
          · (repeat (first | rw [if_pos (by omega)] | rw [if_neg (by omega)] | rw [if_pos True.intro])); (try rfl)
          · intro _; (repeat (first | rw [if_pos (by omega)] | rw [if_neg (by omega)] | rw [if_pos True.intro])); (try rfl)
          · intro q; simp at q
          · intro q; simp at q
          · (repeat (first | rw [if_pos (by omega)] | rw [if_neg (by omega)] | rw [if_pos True.intro])); (try rfl)
          · (repeat (first | rw [if_pos (by omega)] | rw [if_neg (by omega)] | rw [if_pos True.intro])); (try rfl)
          · (repeat (first | rw [if_pos (by omega)] | rw [if_neg (by omega)] | rw [if_pos True.intro])); (try rfl)
          · (repeat (first | rw [if_pos (by omega)] | rw [if_neg (by omega)] | rw [if_pos True.intro])); (try rfl)
          · (repeat (first | rw [if_pos (by omega)] | rw [if_neg (by omega)] | rw [if_pos True.intro])); (try rfl)
          · (repeat (first | rw [if_pos (by omega)] | rw [if_neg (by omega)] | rw [if_pos True.intro])); (try rfl)
        · skip
          refine a_iconst eX10_cab_35 ?_
          refine a_iret eX10_cab_36 rfl rfl ⟨Nat.zero_le _, Nat.zero_le _⟩ ?_
          exact h0 (fun q => by unfold vcab at q; omega)
      · skip
        dsimp only [Option.toList, List.cons_append, List.nil_append]
        refine a_if_eq 35 eX10_cab_23 (by decide) (by omega) (fun _ => ?_) (fun h => absurd h (by decide))
        refine a_iconst eX10_cab_35 ?_
        refine a_iret eX10_cab_36 rfl rfl ⟨Nat.zero_le _, Nat.zero_le _⟩ ?_
        exact h0 (fun q => by unfold vcab at q; omega)
    · skip
      dsimp only [Option.toList, List.cons_append, List.nil_append]
      refine a_if_eq 35 eX10_cab_13 (by decide) (by omega) (fun _ => ?_) (fun h => absurd h (by decide))
      refine a_iconst eX10_cab_35 ?_
      refine a_iret eX10_cab_36 rfl rfl ⟨Nat.zero_le _, Nat.zero_le _⟩ ?_
      exact h0 (fun q => by unfold vcab at q; omega)
