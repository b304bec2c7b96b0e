set_option maxHeartbeats 4000000 in
set_option maxRecDepth 100000 in
theorem c_X5_has {l : Launch} {σ : aw_S} {Post : Option Value → aw_S → Prop} {tw cs : Bool} (hR : σ.2.2 = RF tw cs) {d : Nat} (hd : isDay d) {b N : Int} {m : mS} (hD : dayC σ d b m) (wC : wfCity m) (wD : wfDay m b N) (hN : 0 ≤ N ∧ N ≤ 1000) {c : Int} (hr : (-2147483648 ≤ c ∧ c ≤ 2147483647)) (h1 : (0 ≤ c ∧ c < m b 4) → Post (some (.int (jI 1))) σ) (h0 : ¬ ((0 ≤ c ∧ c < m b 4)) → Post (some (.int (jI 0))) σ) : AE l yX5_has cX5_has 2 (some .boolean) 1 22 0 0 SH SH σ [.ref d, .int (jI c)] Post := by
  show AW l yX5_has cX5_has 2 (some .boolean) 1 22 0 0 SH Post SH 0 0 σ 0 [some (.ref d), some (.int (jI c))] []
  obtain ⟨d1, d2, d3, d4, d5, d6, d7⟩ := id hD
  obtain ⟨w1, w2, w3, w4, w5, w6, w7, w8⟩ := id wC
  obtain ⟨v1, v2, v3, v4, v5, v6, v7, v8⟩ := id wD
  refine a_ild1 eX5_has_0 ?_
  refine a_iconst eX5_has_1 ?_
  refine a_ald0 eX5_has_2 ?_
  refine a_getI 1 eX5_has_3 fl_X5_37 rfl rfl (sh_day hd) ?_
  refine a_iconst eX5_has_6 ?_
  refine a_isub eX5_has_7 ?_
  refine a_cN3 eX5_has_8 ln_X5_59 mS_X9_within mt_X9_within rfl rfl rfl rfl rfl rfl rfl (c_X9_within (by omega) (fun hT8 => ?_) (fun hF8 => ?_))
  · skip
    dsimp only [Option.toList, List.cons_append, List.nil_append]
    refine a_zret eX5_has_11 rfl (by first | exact Or.inl rfl | exact Or.inr rfl | omega) rfl ⟨Nat.zero_le _, Nat.zero_le _⟩ ?_
    first | exact h1 (by omega) | exact h0 (by omega)
  · skip
    dsimp only [Option.toList, List.cons_append, List.nil_append]
    refine a_zret eX5_has_11 rfl (by first | exact Or.inl rfl | exact Or.inr rfl | omega) rfl ⟨Nat.zero_le _, Nat.zero_le _⟩ ?_
    first | exact h1 (by omega) | exact h0 (by omega)

set_option maxHeartbeats 4000000 in
set_option maxRecDepth 100000 in
theorem c_X5_hasStanding {l : Launch} {σ : aw_S} {Post : Option Value → aw_S → Prop} {tw cs : Bool} (hR : σ.2.2 = RF tw cs) {d : Nat} (hd : isDay d) {b N : Int} {m : mS} (hD : dayC σ d b m) (wC : wfCity m) (wD : wfDay m b N) (hN : 0 ≤ N ∧ N ≤ 1000) {c : Int} (hr : (-2147483648 ≤ c ∧ c ≤ 2147483647)) (h1 : ((0 ≤ c ∧ c < m b 4) ∧ m (b + 100 + c) 1 = 2) → Post (some (.int (jI 1))) σ) (h0 : ¬ (((0 ≤ c ∧ c < m b 4) ∧ m (b + 100 + c) 1 = 2)) → Post (some (.int (jI 0))) σ) : AE l yX5_hasStanding cX5_hasStanding 2 (some .boolean) 2 43 0 0 SH SH σ [.ref d, .int (jI c)] Post := by
  show AW l yX5_hasStanding cX5_hasStanding 2 (some .boolean) 2 43 0 0 SH Post SH 0 0 σ 0 [some (.ref d), some (.int (jI c))] []
  obtain ⟨d1, d2, d3, d4, d5, d6, d7⟩ := id hD
  obtain ⟨w1, w2, w3, w4, w5, w6, w7, w8⟩ := id wC
  obtain ⟨v1, v2, v3, v4, v5, v6, v7, v8⟩ := id wD
  refine a_ald0 eX5_hasStanding_0 ?_
  refine a_ild1 eX5_hasStanding_1 ?_
  refine a_cV1 eX5_hasStanding_2 lk_X5_63 mV_X5_has (sh_day hd) ⟨_, rfl, rfl⟩ mt_X5_has rfl rfl rfl rfl rfl (c_X5_has hR hd hD wC wD hN (by omega) (fun hT2 => ?_) (fun hF2 => ?_))
  · skip
    dsimp only [Option.toList, List.cons_append, List.nil_append]
    refine a_if_eq 25 eX5_hasStanding_5 (by decide) (by omega) (fun h => absurd h (by decide)) (fun _ => ?_)
    refine a_ald0 eX5_hasStanding_8 ?_
    refine a_getR 2 (d + 1) eX5_hasStanding_9 fl_X5_11 rfl rfl (sh_day hd) ((congrFun (congrFun hR _) _).trans (rf_day_2 hd)) ?_
    refine a_ild1 eX5_hasStanding_12 ?_
    have ec := d5 c 1 (by omega) (by omega) (by omega) (by omega)
    have wc := (v5 c (by omega) (by omega)).2.1
    refine a_aald _ eX5_hasStanding_13 (sh_day_1 hd) rfl rfl rfl (by omega) ((congrFun (congrFun hR _) _).trans (rf_cab hd (by omega))) ?_
    refine a_getI 1 eX5_hasStanding_14 fl_X5_67 rfl rfl (sh_cab hd (by omega)) ?_
    refine a_iconst eX5_hasStanding_17 ?_
    refine a_icmp_ne 25 eX5_hasStanding_18 (by decide) (by omega) (fun hT18 => ?_) (fun hF18 => ?_)
    · skip
      refine a_iconst eX5_hasStanding_25 ?_
      refine a_zret eX5_hasStanding_26 rfl (by first | exact Or.inl rfl | exact Or.inr rfl | omega) rfl ⟨Nat.zero_le _, Nat.zero_le _⟩ ?_
      first | exact h1 (by omega) | exact h0 (by omega)
    · skip
      refine a_iconst eX5_hasStanding_21 ?_
      refine a_goto 26 eX5_hasStanding_22 (by decide) ?_
      refine a_zret eX5_hasStanding_26 rfl (by first | exact Or.inl rfl | exact Or.inr rfl | omega) rfl ⟨Nat.zero_le _, Nat.zero_le _⟩ ?_
      first | exact h1 (by omega) | exact h0 (by omega)
  · skip
    dsimp only [Option.toList, List.cons_append, List.nil_append]
    refine a_if_eq 25 eX5_hasStanding_5 (by decide) (by omega) (fun _ => ?_) (fun h => absurd h (by decide))
    refine a_iconst eX5_hasStanding_25 ?_
    refine a_zret eX5_hasStanding_26 rfl (by first | exact Or.inl rfl | exact Or.inr rfl | omega) rfl ⟨Nat.zero_le _, Nat.zero_le _⟩ ?_
    first | exact h1 (by omega) | exact h0 (by omega)
