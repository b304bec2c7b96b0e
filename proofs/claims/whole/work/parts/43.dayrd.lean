set_option maxHeartbeats 4000000 in
set_option maxRecDepth 100000 in
theorem c_X5_has {l : Launch} {σ : aw_S} {Post : Option Value → aw_S → Prop} {tw cs : Bool} (hR : σ.2.2 = RF tw cs) {d : Nat} (hd : isDay d) {b N : Int} {m : mS} (hD : dayC σ d b m) (wC : wfCity m) (wD : wfDay m b N) (hN : 0 ≤ N ∧ N ≤ 1000) {c : Int} (hr : (-2147483648 ≤ c ∧ c ≤ 2147483647)) (h1 : (0 ≤ c ∧ c < m b 4) → Post (some (.int (jI 1))) σ) (h0 : ¬ ((0 ≤ c ∧ c < m b 4)) → Post (some (.int (jI 0))) σ) : AE l yX5_has cX5_has 2 (some .boolean) 1 22 0 0 SH SH σ [.ref d, .int (jI c)] Post := by
  show AW l yX5_has cX5_has 2 (some .boolean) 1 22 0 0 SH Post SH 0 0 σ 0 [some (.ref d), some (.int (jI c))] []
  obtain ⟨d1, d2, d3, d4, d5, d6, d7⟩ := id hD
  obtain ⟨w1, w2, w3, w4, w5, w6, w7, w8⟩ := id wC
  obtain ⟨v1, v2, v3, v4, v5, v6, v7, v8⟩ := id wD
  refine a_ild1 eX5_has_0 ?_
  refine a_iconst eX5_has_1 ?_
  refine a_ald0 eX5_has_2 ?_
  refine a_getI 1 eX5_has_3 fl_X5_37 rfl rfl (sh_day hd) ?_
  refine a_iconst eX5_has_6 ?_
  refine a_isub eX5_has_7 ?_
  refine a_cN3 eX5_has_8 ln_X5_59 mS_X9_within mt_X9_within rfl rfl rfl rfl rfl rfl rfl (c_X9_within (by omega) (fun hT8 => ?_) (fun hF8 => ?_))
  · skip
    dsimp only [Option.toList, List.cons_append, List.nil_append]
    refine a_zret eX5_has_11 rfl (by first | exact Or.inl rfl | exact Or.inr rfl | omega) rfl ⟨Nat.zero_le _, Nat.zero_le _⟩ ?_
    first | exact h1 (by omega) | exact h0 (by omega)
  · skip
    dsimp only [Option.toList, List.cons_append, List.nil_append]
    refine a_zret eX5_has_11 rfl (by first | exact Or.inl rfl | exact Or.inr rfl | omega) rfl ⟨Nat.zero_le _, Nat.zero_le _⟩ ?_
    first | exact h1 (by omega) | exact h0 (by omega)

set_option maxHeartbeats 4000000 in
set_option maxRecDepth 100000 in
theorem c_X5_hasStanding {l : Launch} {σ : aw_S} {Post : Option Value → aw_S → Prop} {tw cs : Bool} (hR : σ.2.2 = RF tw cs) {d : Nat} (hd : isDay d) {b N : Int} {m : mS} (hD : dayC σ d b m) (wC : wfCity m) (wD : wfDay m b N) (hN : 0 ≤ N ∧ N ≤ 1000) {c : Int} (hr : (-2147483648 ≤ c ∧ c ≤ 2147483647)) (h1 : ((0 ≤ c ∧ c < m b 4) ∧ m (b + 100 + c) 1 = 2) → Post (some (.int (jI 1))) σ) (h0 : ¬ (((0 ≤ c ∧ c < m b 4) ∧ m (b + 100 + c) 1 = 2)) → Post (some (.int (jI 0))) σ) : AE l yX5_hasStanding cX5_hasStanding 2 (some .boolean) 2 43 0 0 SH SH σ [.ref d, .int (jI c)] Post := by
  show AW l yX5_hasStanding cX5_hasStanding 2 (some .boolean) 2 43 0 0 SH Post SH 0 0 σ 0 [some (.ref d), some (.int (jI c))] []
  obtain ⟨d1, d2, d3, d4, d5, d6, d7⟩ := id hD
  obtain ⟨w1, w2, w3, w4, w5, w6, w7, w8⟩ := id wC
  obtain ⟨v1, v2, v3, v4, v5, v6, v7, v8⟩ := id wD
  refine a_ald0 eX5_hasStanding_0 ?_
  refine a_ild1 eX5_hasStanding_1 ?_
  refine a_cV1 eX5_hasStanding_2 lk_X5_63 mV_X5_has (sh_day hd) ⟨_, rfl, rfl⟩ mt_X5_has rfl rfl rfl rfl rfl (c_X5_has hR hd hD wC wD hN (by omega) (fun hT2 => ?_) (fun hF2 => ?_))
  · skip
    dsimp only [Option.toList, List.cons_append, List.nil_append]
    refine a_if_eq 25 eX5_hasStanding_5 (by decide) (by omega) (fun h => absurd h (by decide)) (fun _ => ?_)
    refine a_ald0 eX5_hasStanding_8 ?_
    refine a_getR 2 (d + 1) eX5_hasStanding_9 fl_X5_11 rfl rfl (sh_day hd) ((congrFun (congrFun hR _) _).trans (rf_day_2 hd)) ?_
    refine a_ild1 eX5_hasStanding_12 ?_
    have ec := d5 c 1 (by omega) (by omega) (by omega) (by omega)
    have wc := (v5 c (by omega) (by omega)).2.1
    refine a_aald _ eX5_hasStanding_13 (sh_day_1 hd) rfl rfl rfl (by omega) ((congrFun (congrFun hR _) _).trans (rf_cab hd (by omega))) ?_
    refine a_getI 1 eX5_hasStanding_14 fl_X5_67 rfl rfl (sh_cab hd (by omega)) ?_
    refine a_iconst eX5_hasStanding_17 ?_
    refine a_icmp_ne 25 eX5_hasStanding_18 (by decide) (by omega) (fun hT18 => ?_) (fun hF18 => ?_)
    · skip
      refine a_iconst eX5_hasStanding_25 ?_
      refine a_zret eX5_hasStanding_26 rfl (by first | exact Or.inl rfl | exact Or.inr rfl | omega) rfl ⟨Nat.zero_le _, Nat.zero_le _⟩ ?_
      first | exact h1 (by omega) | exact h0 (by omega)
    · skip
      refine a_iconst eX5_hasStanding_21 ?_
      refine a_goto 26 eX5_hasStanding_22 (by decide) ?_
      refine a_zret eX5_hasStanding_26 rfl (by first | exact Or.inl rfl | exact Or.inr rfl | omega) rfl ⟨Nat.zero_le _, Nat.zero_le _⟩ ?_
      first | exact h1 (by omega) | exact h0 (by omega)
  · skip
    dsimp only [Option.toList, List.cons_append, List.nil_append]
    refine a_if_eq 25 eX5_hasStanding_5 (by decide) (by omega) (fun _ => ?_) (fun h => absurd h (by decide))
    refine a_iconst eX5_hasStanding_25 ?_
    refine a_zret eX5_hasStanding_26 rfl (by first | exact Or.inl rfl | exact Or.inr rfl | omega) rfl ⟨Nat.zero_le _, Nat.zero_le _⟩ ?_
    first | exact h1 (by omega) | exact h0 (by omega)

/-- where in its row a CAB stands -/
noncomputable def mpos (m : mS) (b c : Int) : Int := Classical.epsilon (fun k : Int => 0 ≤ k ∧ k < m (b + 10) (m (b + 100 + c) 3) ∧ m (b + 200 + m (b + 100 + c) 3) k = c)
theorem mpos_spec {m : mS} {b N c : Int} (wD : wfDay m b N) (hc : 0 ≤ c ∧ c < m b 4) (h2 : m (b + 100 + c) 1 = 2) : 0 ≤ mpos m b c ∧ mpos m b c < m (b + 10) (m (b + 100 + c) 3) ∧ m (b + 200 + m (b + 100 + c) 3) (mpos m b c) = c := by
  obtain ⟨v1, v2, v3, v4, v5, v6, v7, v8⟩ := wD
  exact Classical.epsilon_spec (p := fun k : Int => 0 ≤ k ∧ k < m (b + 10) (m (b + 100 + c) 3) ∧ m (b + 200 + m (b + 100 + c) 3) k = c) (aw_ub (v8 c hc.1 hc.2 h2))
theorem mpos_rk {m : mS} {b N c : Int} (wC : wfCity m) (wD : wfDay m b N) (hc : 0 ≤ c ∧ c < m b 4) (h2 : m (b + 100 + c) 1 = 2) : 0 ≤ m (b + 100 + c) 3 ∧ m (b + 100 + c) 3 < m 0 0 ∧ m 0 0 ≤ 6 := by
  obtain ⟨v1, v2, v3, v4, v5, v6, v7, v8⟩ := wD
  have h := (v5 c hc.1 hc.2).2.2.2.1 (Or.inr h2)
  exact ⟨h.1, h.2, wC.1.2⟩
theorem mpos_eq {m : mS} {b N c k : Int} (wC : wfCity m) (wD : wfDay m b N) (hc : 0 ≤ c ∧ c < m b 4) (h2 : m (b + 100 + c) 1 = 2) (hk : 0 ≤ k ∧ k < m (b + 10) (m (b + 100 + c) 3) ∧ m (b + 200 + m (b + 100 + c) 3) k = c) : k = mpos m b c := by
  have h := mpos_spec wD hc h2
  have hr := mpos_rk wC wD hc h2
  exact wD.2.2.2.2.2.2.1 _ k _ hr.1 (by omega) hk.1 hk.2.1 h.1 h.2.1 (hk.2.2.trans h.2.2.symm)
set_option maxHeartbeats 4000000 in
set_option maxRecDepth 100000 in
theorem lp_placeInRow {l : Launch} {σ : aw_S} {Post : Option Value → aw_S → Prop} {tw cs : Bool} (hR : σ.2.2 = RF tw cs) {d : Nat} (hd : isDay d) {b N : Int} {m : mS} (hD : dayC σ d b m) (wC : wfCity m) (wD : wfDay m b N) (hN : 0 ≤ N ∧ N ≤ 1000) {c : Int} (hc : 0 ≤ c ∧ c < m b 4) (h2 : m (b + 100 + c) 1 = 2) (hk : Post (some (.int (jI (mpos m b c)))) σ)  : ∀ (n : Nat) (k : Int), ((16 - k).toNat ≤ n) → (0 ≤ k ∧ k ≤ mpos m b c) → AW l yX5_placeInRow cX5_placeInRow 4 (some .int) 3 64 0 0 SH Post SH 0 0 (σ) 22 [some (.ref d), some (.int (jI c)), some (.int (jI (m (b + 100 + c) 3))), some (.int (jI k))] [] := by
  intro n
  induction n with
  | zero =>
    intro k hm hkk
    obtain ⟨d1, d2, d3, d4, d5, d6, d7⟩ := id hD
    obtain ⟨w1, w2, w3, w4, w5, w6, w7, w8⟩ := id wC
    obtain ⟨v1, v2, v3, v4, v5, v6, v7, v8⟩ := id wD
    have ps := mpos_spec wD hc h2
    have pr := mpos_rk wC wD hc h2
    have e4 := (d4 (m (b + 100 + c) 3) (by omega) (by omega)).1
    have b4 := v4 (m (b + 100 + c) 3) (by omega) (by omega)
    refine a_ild3 eX5_placeInRow_22 ?_
    refine a_ald0 eX5_placeInRow_23 ?_
    refine a_getR 4 (d + 9) eX5_placeInRow_24 fl_X5_22 rfl rfl (sh_day hd) ((congrFun (congrFun hR _) _).trans (rf_day_4 hd)) ?_
    refine a_ild2 eX5_placeInRow_27 ?_
    refine a_iald eX5_placeInRow_28 (sh_day_9 hd) rfl (by omega) ?_
    refine a_icmp_ge 52 eX5_placeInRow_29 (by decide) (by omega) (fun hT29 => ?_) (fun hF29 => ?_)
    · skip
      refine a_iconst eX5_placeInRow_52 ?_
      refine a_iret eX5_placeInRow_53 rfl rfl ⟨Nat.zero_le _, Nat.zero_le _⟩ ?_
      exfalso; omega
    · skip
      exfalso; omega
  | succ n ih =>
    intro k hm hkk
    obtain ⟨d1, d2, d3, d4, d5, d6, d7⟩ := id hD
    obtain ⟨w1, w2, w3, w4, w5, w6, w7, w8⟩ := id wC
    obtain ⟨v1, v2, v3, v4, v5, v6, v7, v8⟩ := id wD
    have ps := mpos_spec wD hc h2
    have pr := mpos_rk wC wD hc h2
    have e4 := (d4 (m (b + 100 + c) 3) (by omega) (by omega)).1
    have b4 := v4 (m (b + 100 + c) 3) (by omega) (by omega)
    refine a_ild3 eX5_placeInRow_22 ?_
    refine a_ald0 eX5_placeInRow_23 ?_
    refine a_getR 4 (d + 9) eX5_placeInRow_24 fl_X5_22 rfl rfl (sh_day hd) ((congrFun (congrFun hR _) _).trans (rf_day_4 hd)) ?_
    refine a_ild2 eX5_placeInRow_27 ?_
    refine a_iald eX5_placeInRow_28 (sh_day_9 hd) rfl (by omega) ?_
    refine a_icmp_ge 52 eX5_placeInRow_29 (by decide) (by omega) (fun hT29 => ?_) (fun hF29 => ?_)
    · skip
      refine a_iconst eX5_placeInRow_52 ?_
      refine a_iret eX5_placeInRow_53 rfl rfl ⟨Nat.zero_le _, Nat.zero_le _⟩ ?_
      exfalso; omega
    · skip
      have e9 := d6 (m (b + 100 + c) 3) k (by omega) (by omega) (by omega) (by omega)
      have b9 := v6 (m (b + 100 + c) 3) k (by omega) (by omega) (by omega) (by omega)
      refine a_ald0 eX5_placeInRow_32 ?_
      refine a_getR 3 (d + 2) eX5_placeInRow_33 fl_X5_19 rfl rfl (sh_day hd) ((congrFun (congrFun hR _) _).trans (rf_day_3 hd)) ?_
      refine a_ild2 eX5_placeInRow_36 ?_
      refine a_aald _ eX5_placeInRow_37 (sh_day_2 hd) rfl rfl rfl (by omega) ((congrFun (congrFun hR _) _).trans (rf_row hd (by omega))) ?_
      refine a_ild3 eX5_placeInRow_38 ?_
      refine a_iald eX5_placeInRow_39 (sh_row hd (by omega)) rfl (by omega) ?_
      refine a_ild1 eX5_placeInRow_40 ?_
      refine a_icmp_ne 46 eX5_placeInRow_41 (by decide) (by omega) (fun hT41 => ?_) (fun hF41 => ?_)
      · skip
        refine a_iinc3 eX5_placeInRow_46 (by decide) aw_n2i ?_
        refine a_goto 22 eX5_placeInRow_49 (by decide) ?_
        refine ih (k + 1) (by omega) ⟨by omega, ?_⟩
        have hne : k ≠ mpos m b c := fun e => hT41 (by rw [e9, e]; exact ps.2.2)
        omega
      · skip
        refine a_ild3 eX5_placeInRow_44 ?_
        refine a_iret eX5_placeInRow_45 rfl rfl ⟨Nat.zero_le _, Nat.zero_le _⟩ ?_
        exact aw_ret hk (mpos_eq wC wD hc h2 ⟨by omega, by omega, by omega⟩)

set_option maxHeartbeats 4000000 in
set_option maxRecDepth 100000 in
theorem c_X5_placeInRow {l : Launch} {σ : aw_S} {Post : Option Value → aw_S → Prop} {tw cs : Bool} (hR : σ.2.2 = RF tw cs) {d : Nat} (hd : isDay d) {b N : Int} {m : mS} (hD : dayC σ d b m) (wC : wfCity m) (wD : wfDay m b N) (hN : 0 ≤ N ∧ N ≤ 1000) {c : Int} (hr : (-2147483648 ≤ c ∧ c ≤ 2147483647)) (h1 : (0 ≤ c ∧ c < m b 4) → m (b + 100 + c) 1 = 2 → Post (some (.int (jI (mpos m b c)))) σ) (h0 : ¬ ((0 ≤ c ∧ c < m b 4) ∧ m (b + 100 + c) 1 = 2) → Post (some (.int (jI (-1)))) σ) : AE l yX5_placeInRow cX5_placeInRow 4 (some .int) 3 64 0 0 SH SH σ [.ref d, .int (jI c)] Post := by
  show AW l yX5_placeInRow cX5_placeInRow 4 (some .int) 3 64 0 0 SH Post SH 0 0 σ 0 [some (.ref d), some (.int (jI c)), none, none] []
  obtain ⟨d1, d2, d3, d4, d5, d6, d7⟩ := id hD
  obtain ⟨w1, w2, w3, w4, w5, w6, w7, w8⟩ := id wC
  obtain ⟨v1, v2, v3, v4, v5, v6, v7, v8⟩ := id wD
  refine a_ald0 eX5_placeInRow_0 ?_
  refine a_ild1 eX5_placeInRow_1 ?_
  refine a_cV1 eX5_placeInRow_2 lk_X5_74 mV_X5_hasStanding (sh_day hd) ⟨_, rfl, rfl⟩ mt_X5_hasStanding rfl rfl rfl rfl rfl (c_X5_hasStanding hR hd hD wC wD hN (by omega) (fun hT2 => ?_) (fun hF2 => ?_))
  · skip
    dsimp only [Option.toList, List.cons_append, List.nil_append]
    refine a_if_ne 10 eX5_placeInRow_5 (by decide) (by omega) (fun _ => ?_) (fun h => absurd h (by decide))
    have e3 := d5 c 3 (by omega) (by omega) (by omega) (by omega)
    refine a_ald0 eX5_placeInRow_10 ?_
    refine a_getR 2 (d + 1) eX5_placeInRow_11 fl_X5_11 rfl rfl (sh_day hd) ((congrFun (congrFun hR _) _).trans (rf_day_2 hd)) ?_
    refine a_ild1 eX5_placeInRow_14 ?_
    refine a_aald _ eX5_placeInRow_15 (sh_day_1 hd) rfl rfl rfl (by omega) ((congrFun (congrFun hR _) _).trans (rf_cab hd (by omega))) ?_
    refine a_getI 3 eX5_placeInRow_16 fl_X5_77 rfl rfl (sh_cab hd (by omega)) ?_
    refine a_ist2 eX5_placeInRow_19 (by decide) aw_n2i ?_
    rw [e3]
    refine a_iconst eX5_placeInRow_20 ?_
    refine a_ist3 eX5_placeInRow_21 (by decide) aw_n2i ?_
    exact lp_placeInRow hR hd hD wC wD hN hT2.1 hT2.2 (h1 hT2.1 hT2.2) _ 0 (Nat.le_refl _) ⟨by omega, (mpos_spec wD hT2.1 hT2.2).1⟩
  · skip
    dsimp only [Option.toList, List.cons_append, List.nil_append]
    refine a_if_ne 10 eX5_placeInRow_5 (by decide) (by omega) (fun h => absurd h (by decide)) (fun _ => ?_)
    refine a_iconst eX5_placeInRow_8 ?_
    refine a_iret eX5_placeInRow_9 rfl rfl ⟨Nat.zero_le _, Nat.zero_le _⟩ ?_
    exact h0 (by assumption)

set_option maxHeartbeats 4000000 in
set_option maxRecDepth 100000 in
theorem c_X10_isAt {l : Launch} {σ : aw_S} {Post : Option Value → aw_S → Prop} {tw cs : Bool} (hR : σ.2.2 = RF tw cs) {N : Int} {m : mS} (hM : dayM σ m) (wC : wfCity m) (wD : wfDay m 0 N) (hN : 0 ≤ N ∧ N ≤ 1000) {c s : Int} (hr : (-2147483648 ≤ c ∧ c ≤ 2147483647) ∧ (-2147483648 ≤ s ∧ s ≤ 2147483647)) (h1 : ((0 ≤ c ∧ c < m 0 4) ∧ m (100 + c) 1 = s) → Post (some (.int (jI 1))) σ) (h0 : ¬ (((0 ≤ c ∧ c < m 0 4) ∧ m (100 + c) 1 = s)) → Post (some (.int (jI 0))) σ) : AE l yX10_isAt cX10_isAt 3 (some .boolean) 2 43 0 0 SH SH σ [.ref 171, .int (jI c), .int (jI s)] Post := by
  show AW l yX10_isAt cX10_isAt 3 (some .boolean) 2 43 0 0 SH Post SH 0 0 σ 0 [some (.ref 171), some (.int (jI c)), some (.int (jI s))] []
  obtain ⟨d1, d2, d3, d4, d5, d6, d7⟩ := id hM
  obtain ⟨w1, w2, w3, w4, w5, w6, w7, w8⟩ := id wC
  obtain ⟨v1, v2, v3, v4, v5, v6, v7, v8⟩ := id wD
  simp only [Int.zero_add] at d4 d5 d6 d7 v4 v5 v6 v7 v8
  refine a_ald0 eX10_isAt_0 ?_
  refine a_ild1 eX10_isAt_1 ?_
  refine a_cV1 eX10_isAt_2 lk_X10_273 mV_X10_isCab sh_171 ⟨_, rfl, rfl⟩ mt_X10_isCab rfl rfl rfl rfl rfl (c_X10_isCab (by omega) (by omega) (fun hT2 => ?_) (fun hF2 => ?_))
  · skip
    dsimp only [Option.toList, List.cons_append, List.nil_append]
    refine a_if_eq 22 eX10_isAt_5 (by decide) (by omega) (fun h => absurd h (by decide)) (fun _ => ?_)
    have ec : σ.1 182 (11 * c + 0) = m (100 + c) 1 := by rw [Int.add_zero]; exact (d5 c (by omega) (by omega)).1
    have wc := (v5 c (by omega) (by omega)).2.1
    refine a_ald0 eX10_isAt_8 ?_
    refine a_ild1 eX10_isAt_9 ?_
    refine a_iconst eX10_isAt_10 ?_
    refine a_cV2 eX10_isAt_11 lk_X10_276 mV_X10_of0 sh_171 ⟨_, rfl, rfl⟩ mt_X10_of0 rfl rfl rfl rfl rfl rfl (c_X10_of0 hR (by omega) ?_)
    dsimp only [Option.toList, List.cons_append, List.nil_append]
    refine a_ild2 eX10_isAt_14 ?_
    refine a_icmp_ne 22 eX10_isAt_15 (by decide) (by omega) (fun hT15 => ?_) (fun hF15 => ?_)
    · skip
      refine a_iconst eX10_isAt_22 ?_
      refine a_zret eX10_isAt_23 rfl (by first | exact Or.inl rfl | exact Or.inr rfl | omega) rfl ⟨Nat.zero_le _, Nat.zero_le _⟩ ?_
      first | exact h1 (by omega) | exact h0 (by omega)
    · skip
      refine a_iconst eX10_isAt_18 ?_
      refine a_goto 23 eX10_isAt_19 (by decide) ?_
      refine a_zret eX10_isAt_23 rfl (by first | exact Or.inl rfl | exact Or.inr rfl | omega) rfl ⟨Nat.zero_le _, Nat.zero_le _⟩ ?_
      first | exact h1 (by omega) | exact h0 (by omega)
  · skip
    dsimp only [Option.toList, List.cons_append, List.nil_append]
    refine a_if_eq 22 eX10_isAt_5 (by decide) (by omega) (fun _ => ?_) (fun h => absurd h (by decide))
    refine a_iconst eX10_isAt_22 ?_
    refine a_zret eX10_isAt_23 rfl (by first | exact Or.inl rfl | exact Or.inr rfl | omega) rfl ⟨Nat.zero_le _, Nat.zero_le _⟩ ?_
    first | exact h1 (by omega) | exact h0 (by omega)

set_option maxHeartbeats 4000000 in
set_option maxRecDepth 100000 in
theorem lp_posOf {l : Launch} {σ : aw_S} {Post : Option Value → aw_S → Prop} {tw cs : Bool} (hR : σ.2.2 = RF tw cs) {N : Int} {m : mS} (hM : dayM σ m) (wC : wfCity m) (wD : wfDay m 0 N) (hN : 0 ≤ N ∧ N ≤ 1000) {c : Int} (hc : 0 ≤ c ∧ c < m 0 4) (h2 : m (100 + c) 1 = 2) (hk : Post (some (.int (jI (mpos m 0 c)))) σ)  : ∀ (n : Nat) (k : Int), ((16 - k).toNat ≤ n) → (0 ≤ k ∧ k ≤ mpos m 0 c) → AW l yX10_posOf cX10_posOf 4 (some .int) 1 22 0 0 SH Post SH 0 0 (σ) 9 [some (.ref 171), some (.int (jI c)), some (.int (jI (m (100 + c) 3))), some (.int (jI k))] [] := by
  intro n
  induction n with
  | zero =>
    intro k hm hkk
    obtain ⟨d1, d2, d3, d4, d5, d6, d7⟩ := id hM
    obtain ⟨w1, w2, w3, w4, w5, w6, w7, w8⟩ := id wC
    obtain ⟨v1, v2, v3, v4, v5, v6, v7, v8⟩ := id wD
    simp only [Int.zero_add] at d4 d5 d6 d7 v4 v5 v6 v7 v8
    have ps := mpos_spec wD hc (by rw [Int.zero_add]; exact h2)
    have pr := mpos_rk wC wD hc (by rw [Int.zero_add]; exact h2)
    simp only [Int.zero_add] at ps pr
    have b4 := v4 (m (100 + c) 3) (by omega) (by omega)
    have e9 := d6 (m (100 + c) 3) k (by omega) (by omega) (by omega) (by omega)
    have b9 := v6 (m (100 + c) 3) k (by omega) (by omega) (by omega) (by omega)
    refine a_ald0 eX10_posOf_9 ?_
    refine a_getR 24 183 eX10_posOf_10 fl_X10_45 rfl rfl sh_171 ((congrFun (congrFun hR _) _).trans rf_171_24) ?_
    refine a_bipush eX10_posOf_13 (by decide) ?_
    refine a_ild2 eX10_posOf_15 ?_
    refine a_imul eX10_posOf_16 ?_
    refine a_ild3 eX10_posOf_17 ?_
    refine a_iadd eX10_posOf_18 ?_
    refine a_iald eX10_posOf_19 sh_183 rfl (by omega) ?_
    refine a_ild1 eX10_posOf_20 ?_
    refine a_icmp_eq 30 eX10_posOf_21 (by decide) (by omega) (fun hT21 => ?_) (fun hF21 => ?_)
    · skip
      refine a_ild3 eX10_posOf_30 ?_
      refine a_iret eX10_posOf_31 rfl rfl ⟨Nat.zero_le _, Nat.zero_le _⟩ ?_
      exact aw_ret hk (mpos_eq wC wD hc (by rw [Int.zero_add]; exact h2) (by simp only [Int.zero_add]; exact ⟨by omega, by omega, by omega⟩))
    · skip
      exfalso; omega
  | succ n ih =>
    intro k hm hkk
    obtain ⟨d1, d2, d3, d4, d5, d6, d7⟩ := id hM
    obtain ⟨w1, w2, w3, w4, w5, w6, w7, w8⟩ := id wC
    obtain ⟨v1, v2, v3, v4, v5, v6, v7, v8⟩ := id wD
    simp only [Int.zero_add] at d4 d5 d6 d7 v4 v5 v6 v7 v8
    have ps := mpos_spec wD hc (by rw [Int.zero_add]; exact h2)
    have pr := mpos_rk wC wD hc (by rw [Int.zero_add]; exact h2)
    simp only [Int.zero_add] at ps pr
    have b4 := v4 (m (100 + c) 3) (by omega) (by omega)
    have e9 := d6 (m (100 + c) 3) k (by omega) (by omega) (by omega) (by omega)
    have b9 := v6 (m (100 + c) 3) k (by omega) (by omega) (by omega) (by omega)
    refine a_ald0 eX10_posOf_9 ?_
    refine a_getR 24 183 eX10_posOf_10 fl_X10_45 rfl rfl sh_171 ((congrFun (congrFun hR _) _).trans rf_171_24) ?_
    refine a_bipush eX10_posOf_13 (by decide) ?_
    refine a_ild2 eX10_posOf_15 ?_
    refine a_imul eX10_posOf_16 ?_
    refine a_ild3 eX10_posOf_17 ?_
    refine a_iadd eX10_posOf_18 ?_
    refine a_iald eX10_posOf_19 sh_183 rfl (by omega) ?_
    refine a_ild1 eX10_posOf_20 ?_
    refine a_icmp_eq 30 eX10_posOf_21 (by decide) (by omega) (fun hT21 => ?_) (fun hF21 => ?_)
    · skip
      refine a_ild3 eX10_posOf_30 ?_
      refine a_iret eX10_posOf_31 rfl rfl ⟨Nat.zero_le _, Nat.zero_le _⟩ ?_
      exact aw_ret hk (mpos_eq wC wD hc (by rw [Int.zero_add]; exact h2) (by simp only [Int.zero_add]; exact ⟨by omega, by omega, by omega⟩))
    · skip
      refine a_iinc3 eX10_posOf_24 (by decide) aw_n2i ?_
      refine a_goto 9 eX10_posOf_27 (by decide) ?_
      refine ih (k + 1) (by omega) ⟨by omega, ?_⟩
      have hne : k ≠ mpos m 0 c := fun e => hF21 (by rw [e9, e]; exact ps.2.2)
      omega

set_option maxHeartbeats 4000000 in
set_option maxRecDepth 100000 in
theorem c_X10_posOf {l : Launch} {σ : aw_S} {Post : Option Value → aw_S → Prop} {tw cs : Bool} (hR : σ.2.2 = RF tw cs) {N : Int} {m : mS} (hM : dayM σ m) (wC : wfCity m) (wD : wfDay m 0 N) (hN : 0 ≤ N ∧ N ≤ 1000) {c : Int} (hc : 0 ≤ c ∧ c < m 0 4) (h2 : m (100 + c) 1 = 2) (hk : Post (some (.int (jI (mpos m 0 c)))) σ)  : AE l yX10_posOf cX10_posOf 4 (some .int) 1 22 0 0 SH SH σ [.ref 171, .int (jI c)] Post := by
  show AW l yX10_posOf cX10_posOf 4 (some .int) 1 22 0 0 SH Post SH 0 0 σ 0 [some (.ref 171), some (.int (jI c)), none, none] []
  obtain ⟨d1, d2, d3, d4, d5, d6, d7⟩ := id hM
  obtain ⟨w1, w2, w3, w4, w5, w6, w7, w8⟩ := id wC
  obtain ⟨v1, v2, v3, v4, v5, v6, v7, v8⟩ := id wD
  simp only [Int.zero_add] at d4 d5 d6 d7 v4 v5 v6 v7 v8
  have ps := mpos_spec wD hc (by rw [Int.zero_add]; exact h2)
  have pr := mpos_rk wC wD hc (by rw [Int.zero_add]; exact h2)
  simp only [Int.zero_add] at ps pr
  have b4 := v4 (m (100 + c) 3) (by omega) (by omega)
  refine a_ald0 eX10_posOf_0 ?_
  refine a_ild1 eX10_posOf_1 ?_
  refine a_iconst eX10_posOf_2 ?_
  refine a_cV2 eX10_posOf_3 lk_X10_276 mV_X10_of0 sh_171 ⟨_, rfl, rfl⟩ mt_X10_of0 rfl rfl rfl rfl rfl rfl (c_X10_of0 hR (by omega) ?_)
  dsimp only [Option.toList, List.cons_append, List.nil_append]
  rw [(d5 c (by omega) (by omega)).2.2.2.1 (Or.inr h2)]
  refine a_ist2 eX10_posOf_6 (by decide) aw_n2i ?_
  refine a_iconst eX10_posOf_7 ?_
  refine a_ist3 eX10_posOf_8 (by decide) aw_n2i ?_
  exact lp_posOf hR hM wC wD hN hc h2 hk _ 0 (Nat.le_refl _) ⟨by omega, ps.1⟩
