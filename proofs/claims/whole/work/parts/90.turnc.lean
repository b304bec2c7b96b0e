set_option maxHeartbeats 4000000 in
set_option maxRecDepth 100000 in
theorem c2_X5_has {l : Launch} {σ : aw_S} {Post : Option Value → aw_S → Prop} {tw cs : Bool} (hR : σ.2.2 = RF tw cs) {m' : mS} (hD : dayC σ 21 0 m') (wq : wkq m') {c : Nat} (hc : (c : Int) < m' 0 4) (hk : Post (some (.int (jI 1))) σ)  : AE l yX5_has cX5_has 2 (some .boolean) 1 22 0 0 SH SH σ [.ref 21, .int (jI (c : Int))] Post := by
  show AW l yX5_has cX5_has 2 (some .boolean) 1 22 0 0 SH Post SH 0 0 σ 0 [some (.ref 21), some (.int (jI (c : Int)))] []
  obtain ⟨d1, d2, d3, d4, d5, d6, d7⟩ := id hD
  obtain ⟨w1, w2, w3, w4⟩ := id wq
  simp only [Int.zero_add] at d4 d5 d6 d7
  have w4c := w4 (c : Int) (by omega) hc
  have e1 := d5 (c : Int) 1 (by omega) (by omega) (by omega) (by omega)
  have e3 := d5 (c : Int) 3 (by omega) (by omega) (by omega) (by omega)
  have e9 := d5 (c : Int) 9 (by omega) (by omega) (by omega) (by omega)
  refine a_ild1 eX5_has_0 ?_
  refine a_iconst eX5_has_1 ?_
  refine a_ald0 eX5_has_2 ?_
  refine a_getI 1 eX5_has_3 fl_X5_37 rfl rfl (sh_day (Or.inl rfl)) ?_
  refine a_eqtop (y0 := m' 0 4) (by exact d2) ?_
  refine a_iconst eX5_has_6 ?_
  refine a_isub eX5_has_7 ?_
  refine a_cN3 eX5_has_8 ln_X5_59 mS_X9_within mt_X9_within rfl rfl rfl rfl rfl rfl rfl (c_X9_within (by omega) (fun hT8 => ?_) (fun hF8 => ?_))
  · skip
    dsimp only [Option.toList, List.cons_append, List.nil_append]
    refine a_zret eX5_has_11 rfl (by first | exact Or.inl rfl | exact Or.inr rfl | omega) rfl ⟨Nat.zero_le _, Nat.zero_le _⟩ ?_
    first
      | exact hk
      | (exfalso; omega)
  · skip
    dsimp only [Option.toList, List.cons_append, List.nil_append]
    refine a_zret eX5_has_11 rfl (by first | exact Or.inl rfl | exact Or.inr rfl | omega) rfl ⟨Nat.zero_le _, Nat.zero_le _⟩ ?_
    first
      | exact hk
      | (exfalso; omega)

set_option maxHeartbeats 4000000 in
set_option maxRecDepth 100000 in
theorem c2_X5_hasStanding {l : Launch} {σ : aw_S} {Post : Option Value → aw_S → Prop} {tw cs : Bool} (hR : σ.2.2 = RF tw cs) {m' : mS} (hD : dayC σ 21 0 m') (wq : wkq m') {c : Nat} (hc : (c : Int) < m' 0 4) (h1 : m' (100 + (c : Int)) 1 = 2 → Post (some (.int (jI 1))) σ) (h0 : ¬ m' (100 + (c : Int)) 1 = 2 → Post (some (.int (jI 0))) σ)  : AE l yX5_hasStanding cX5_hasStanding 2 (some .boolean) 2 43 0 0 SH SH σ [.ref 21, .int (jI (c : Int))] Post := by
  show AW l yX5_hasStanding cX5_hasStanding 2 (some .boolean) 2 43 0 0 SH Post SH 0 0 σ 0 [some (.ref 21), some (.int (jI (c : Int)))] []
  obtain ⟨d1, d2, d3, d4, d5, d6, d7⟩ := id hD
  obtain ⟨w1, w2, w3, w4⟩ := id wq
  simp only [Int.zero_add] at d4 d5 d6 d7
  have w4c := w4 (c : Int) (by omega) hc
  have e1 := d5 (c : Int) 1 (by omega) (by omega) (by omega) (by omega)
  have e3 := d5 (c : Int) 3 (by omega) (by omega) (by omega) (by omega)
  have e9 := d5 (c : Int) 9 (by omega) (by omega) (by omega) (by omega)
  refine a_ald0 eX5_hasStanding_0 ?_
  refine a_ild1 eX5_hasStanding_1 ?_
  refine a_cV1 eX5_hasStanding_2 lk_X5_63 mV_X5_has (sh_day (Or.inl rfl)) ⟨_, rfl, rfl⟩ mt_X5_has rfl rfl rfl rfl rfl (c2_X5_has hR hD wq hc ?_)
  dsimp only [Option.toList, List.cons_append, List.nil_append]
  refine a_if_eq 25 eX5_hasStanding_5 (by decide) (by omega) (fun h => absurd h (by decide)) (fun _ => ?_)
  refine a_ald0 eX5_hasStanding_8 ?_
  refine a_getR 2 (21 + 1) eX5_hasStanding_9 fl_X5_11 rfl rfl (sh_day (Or.inl rfl)) ((congrFun (congrFun hR _) _).trans (rf_day_2 (Or.inl rfl))) ?_
  refine a_ild1 eX5_hasStanding_12 ?_
  refine a_aald _ eX5_hasStanding_13 (sh_day_1 (Or.inl rfl)) rfl rfl rfl (by omega) ((congrFun (congrFun hR _) _).trans (rf_cab (Or.inl rfl) (by omega))) ?_
  refine a_getI 1 eX5_hasStanding_14 fl_X5_67 rfl rfl (sh_cab (Or.inl rfl) (by omega)) ?_
  refine a_eqtop (y0 := m' (100 + (c : Int)) 1) (by exact e1) ?_
  refine a_iconst eX5_hasStanding_17 ?_
  refine a_icmp_ne 25 eX5_hasStanding_18 (by decide) (by omega) (fun hT18 => ?_) (fun hF18 => ?_)
  · skip
    refine a_iconst eX5_hasStanding_25 ?_
    refine a_zret eX5_hasStanding_26 rfl (by first | exact Or.inl rfl | exact Or.inr rfl | omega) rfl ⟨Nat.zero_le _, Nat.zero_le _⟩ ?_
    exact h0 (by omega)
  · skip
    refine a_iconst eX5_hasStanding_21 ?_
    refine a_goto 26 eX5_hasStanding_22 (by decide) ?_
    refine a_zret eX5_hasStanding_26 rfl (by first | exact Or.inl rfl | exact Or.inr rfl | omega) rfl ⟨Nat.zero_le _, Nat.zero_le _⟩ ?_
    exact h1 (by omega)

set_option maxHeartbeats 4000000 in
set_option maxRecDepth 100000 in
theorem lp_pir2 {l : Launch} {σ : aw_S} {Post : Option Value → aw_S → Prop} {tw cs : Bool} (hR : σ.2.2 = RF tw cs) {m' : mS} (hD : dayC σ 21 0 m') (wq : wkq m') {c : Nat} (hc : (c : Int) < m' 0 4) (h1 : m' (100 + (c : Int)) 1 = 2 → ∀ v, isFst (fun k => m' (200 + m' (100 + (c : Int)) 3) k = (c : Int)) (m' 10 (m' (100 + (c : Int)) 3)) v → Post (some (.int (jI v))) σ) (h0 : ¬ m' (100 + (c : Int)) 1 = 2 → Post (some (.int (jI (-1)))) σ) (h2 : m' (100 + (c : Int)) 1 = 2)  : ∀ (n : Nat) (k : Int), ((m' 10 (m' (100 + (c : Int)) 3) - k).toNat ≤ n) → (0 ≤ k ∧ k ≤ m' 10 (m' (100 + (c : Int)) 3)) → (∀ q : Int, 0 ≤ q → q < k → ¬ m' (200 + m' (100 + (c : Int)) 3) q = (c : Int)) → AW l yX5_placeInRow cX5_placeInRow 4 (some .int) 3 64 0 0 SH Post SH 0 0 (σ) 22 [some (.ref 21), some (.int (jI (c : Int))), some (.int (jI (m' (100 + (c : Int)) 3))), some (.int (jI k))] [] := by
  intro n
  induction n with
  | zero =>
    intro k hm hk0 hno
    obtain ⟨d1, d2, d3, d4, d5, d6, d7⟩ := id hD
    obtain ⟨w1, w2, w3, w4⟩ := id wq
    simp only [Int.zero_add] at d4 d5 d6 d7
    have w4c := w4 (c : Int) (by omega) hc
    have e1 := d5 (c : Int) 1 (by omega) (by omega) (by omega) (by omega)
    have e3 := d5 (c : Int) 3 (by omega) (by omega) (by omega) (by omega)
    have e9 := d5 (c : Int) 9 (by omega) (by omega) (by omega) (by omega)
    have hr3 := w4c.2 h2
    have w2r := w2 (m' (100 + (c : Int)) 3) hr3.1 hr3.2
    have d4r := d4 (m' (100 + (c : Int)) 3) hr3.1 hr3.2
    refine a_ild3 eX5_placeInRow_22 ?_
    refine a_ald0 eX5_placeInRow_23 ?_
    refine a_getR 4 (21 + 9) eX5_placeInRow_24 fl_X5_22 rfl rfl (sh_day (Or.inl rfl)) ((congrFun (congrFun hR _) _).trans (rf_day_4 (Or.inl rfl))) ?_
    refine a_ild2 eX5_placeInRow_27 ?_
    refine a_iald eX5_placeInRow_28 (sh_day_9 (Or.inl rfl)) rfl (by omega) ?_
    refine a_eqtop (y0 := m' 10 (m' (100 + (c : Int)) 3)) (by exact d4r.1) ?_
    refine a_icmp_ge 52 eX5_placeInRow_29 (by decide) (by omega) (fun hT29 => ?_) (fun hF29 => ?_)
    · skip
      refine a_iconst eX5_placeInRow_52 ?_
      refine a_iret eX5_placeInRow_53 rfl rfl ⟨Nat.zero_le _, Nat.zero_le _⟩ ?_
      exact h1 h2 (-1) (Or.inl ⟨rfl, fun q q1 q2 => hno q q1 (by omega)⟩)
    · skip
      exfalso; omega
  | succ n ih =>
    intro k hm hk0 hno
    obtain ⟨d1, d2, d3, d4, d5, d6, d7⟩ := id hD
    obtain ⟨w1, w2, w3, w4⟩ := id wq
    simp only [Int.zero_add] at d4 d5 d6 d7
    have w4c := w4 (c : Int) (by omega) hc
    have e1 := d5 (c : Int) 1 (by omega) (by omega) (by omega) (by omega)
    have e3 := d5 (c : Int) 3 (by omega) (by omega) (by omega) (by omega)
    have e9 := d5 (c : Int) 9 (by omega) (by omega) (by omega) (by omega)
    have hr3 := w4c.2 h2
    have w2r := w2 (m' (100 + (c : Int)) 3) hr3.1 hr3.2
    have d4r := d4 (m' (100 + (c : Int)) 3) hr3.1 hr3.2
    refine a_ild3 eX5_placeInRow_22 ?_
    refine a_ald0 eX5_placeInRow_23 ?_
    refine a_getR 4 (21 + 9) eX5_placeInRow_24 fl_X5_22 rfl rfl (sh_day (Or.inl rfl)) ((congrFun (congrFun hR _) _).trans (rf_day_4 (Or.inl rfl))) ?_
    refine a_ild2 eX5_placeInRow_27 ?_
    refine a_iald eX5_placeInRow_28 (sh_day_9 (Or.inl rfl)) rfl (by omega) ?_
    refine a_eqtop (y0 := m' 10 (m' (100 + (c : Int)) 3)) (by exact d4r.1) ?_
    refine a_icmp_ge 52 eX5_placeInRow_29 (by decide) (by omega) (fun hT29 => ?_) (fun hF29 => ?_)
    · skip
      refine a_iconst eX5_placeInRow_52 ?_
      refine a_iret eX5_placeInRow_53 rfl rfl ⟨Nat.zero_le _, Nat.zero_le _⟩ ?_
      exact h1 h2 (-1) (Or.inl ⟨rfl, fun q q1 q2 => hno q q1 (by omega)⟩)
    · skip
      have dk := d6 (m' (100 + (c : Int)) 3) k hr3.1 hr3.2 (by omega) (by omega)
      have w3k := w3 (m' (100 + (c : Int)) 3) k hr3.1 hr3.2 (by omega) (by omega)
      refine a_ald0 eX5_placeInRow_32 ?_
      refine a_getR 3 (21 + 2) eX5_placeInRow_33 fl_X5_19 rfl rfl (sh_day (Or.inl rfl)) ((congrFun (congrFun hR _) _).trans (rf_day_3 (Or.inl rfl))) ?_
      refine a_ild2 eX5_placeInRow_36 ?_
      refine a_aald _ eX5_placeInRow_37 (sh_day_2 (Or.inl rfl)) rfl rfl rfl (by omega) ((congrFun (congrFun hR _) _).trans (rf_row (Or.inl rfl) (by omega))) ?_
      refine a_ild3 eX5_placeInRow_38 ?_
      refine a_iald eX5_placeInRow_39 (sh_row (Or.inl rfl) (by omega)) rfl (by omega) ?_
      refine a_eqtop (y0 := m' (200 + m' (100 + (c : Int)) 3) k) (by exact dk) ?_
      refine a_ild1 eX5_placeInRow_40 ?_
      refine a_icmp_ne 46 eX5_placeInRow_41 (by decide) (by omega) (fun hT41 => ?_) (fun hF41 => ?_)
      · skip
        refine a_iinc3 eX5_placeInRow_46 (by decide) aw_n2i ?_
        refine a_goto 22 eX5_placeInRow_49 (by decide) ?_
        refine ih (k + 1) (by omega) (by omega) (fun q q1 q2 => ?_)
        by_cases e : q = k
        · subst e; omega
        · exact hno q q1 (by omega)
      · skip
        refine a_ild3 eX5_placeInRow_44 ?_
        refine a_iret eX5_placeInRow_45 rfl rfl ⟨Nat.zero_le _, Nat.zero_le _⟩ ?_
        exact h1 h2 k (Or.inr ⟨by omega, by omega, by omega, hno⟩)

set_option maxHeartbeats 4000000 in
set_option maxRecDepth 100000 in
theorem c2_X5_placeInRow {l : Launch} {σ : aw_S} {Post : Option Value → aw_S → Prop} {tw cs : Bool} (hR : σ.2.2 = RF tw cs) {m' : mS} (hD : dayC σ 21 0 m') (wq : wkq m') {c : Nat} (hc : (c : Int) < m' 0 4) (h1 : m' (100 + (c : Int)) 1 = 2 → ∀ v, isFst (fun k => m' (200 + m' (100 + (c : Int)) 3) k = (c : Int)) (m' 10 (m' (100 + (c : Int)) 3)) v → Post (some (.int (jI v))) σ) (h0 : ¬ m' (100 + (c : Int)) 1 = 2 → Post (some (.int (jI (-1)))) σ)  : AE l yX5_placeInRow cX5_placeInRow 4 (some .int) 3 64 0 0 SH SH σ [.ref 21, .int (jI (c : Int))] Post := by
  show AW l yX5_placeInRow cX5_placeInRow 4 (some .int) 3 64 0 0 SH Post SH 0 0 σ 0 [some (.ref 21), some (.int (jI (c : Int))), none, none] []
  obtain ⟨d1, d2, d3, d4, d5, d6, d7⟩ := id hD
  obtain ⟨w1, w2, w3, w4⟩ := id wq
  simp only [Int.zero_add] at d4 d5 d6 d7
  have w4c := w4 (c : Int) (by omega) hc
  have e1 := d5 (c : Int) 1 (by omega) (by omega) (by omega) (by omega)
  have e3 := d5 (c : Int) 3 (by omega) (by omega) (by omega) (by omega)
  have e9 := d5 (c : Int) 9 (by omega) (by omega) (by omega) (by omega)
  refine a_ald0 eX5_placeInRow_0 ?_
  refine a_ild1 eX5_placeInRow_1 ?_
  refine a_cV1 eX5_placeInRow_2 lk_X5_74 mV_X5_hasStanding (sh_day (Or.inl rfl)) ⟨_, rfl, rfl⟩ mt_X5_hasStanding rfl rfl rfl rfl rfl (c2_X5_hasStanding hR hD wq hc (fun hT2 => ?_) (fun hF2 => ?_))
  · skip
    dsimp only [Option.toList, List.cons_append, List.nil_append]
    refine a_if_ne 10 eX5_placeInRow_5 (by decide) (by omega) (fun _ => ?_) (fun h => absurd h (by decide))
    refine a_ald0 eX5_placeInRow_10 ?_
    refine a_getR 2 (21 + 1) eX5_placeInRow_11 fl_X5_11 rfl rfl (sh_day (Or.inl rfl)) ((congrFun (congrFun hR _) _).trans (rf_day_2 (Or.inl rfl))) ?_
    refine a_ild1 eX5_placeInRow_14 ?_
    refine a_aald _ eX5_placeInRow_15 (sh_day_1 (Or.inl rfl)) rfl rfl rfl (by omega) ((congrFun (congrFun hR _) _).trans (rf_cab (Or.inl rfl) (by omega))) ?_
    refine a_getI 3 eX5_placeInRow_16 fl_X5_77 rfl rfl (sh_cab (Or.inl rfl) (by omega)) ?_
    refine a_eqtop (y0 := m' (100 + (c : Int)) 3) (by exact e3) ?_
    refine a_ist2 eX5_placeInRow_19 (by decide) aw_n2i ?_
    refine a_iconst eX5_placeInRow_20 ?_
    refine a_ist3 eX5_placeInRow_21 (by decide) aw_n2i ?_
    exact lp_pir2 hR hD wq hc h1 h0 hT2 _ 0 (Nat.le_refl _) (by have := w2 _ (w4c.2 hT2).1 (w4c.2 hT2).2; omega) (fun q q1 q2 => by omega)
  · skip
    dsimp only [Option.toList, List.cons_append, List.nil_append]
    refine a_if_ne 10 eX5_placeInRow_5 (by decide) (by omega) (fun h => absurd h (by decide)) (fun _ => ?_)
    refine a_iconst eX5_placeInRow_8 ?_
    refine a_iret eX5_placeInRow_9 rfl rfl ⟨Nat.zero_le _, Nat.zero_le _⟩ ?_
    exact h0 hF2

set_option maxHeartbeats 4000000 in
set_option maxRecDepth 100000 in
theorem lp_tfp {l : Launch} {σ : aw_S} {Post : Option Value → aw_S → Prop} {a : Nat} (ha : isCity a) {tw cs : Bool} (hR : σ.2.2 = RF tw cs) {m' : mS} (hD : dayC σ 21 0 m') (wq : wkq m') {c : Nat} (hc : (c : Int) < m' 0 4) {r k0 : Int} (hr : m' (100 + (c : Int)) 9 = r) (hr6 : 0 ≤ r ∧ r < 6) (hkk : ffr (m' (200 + r)) (m' 10 r).toNat = k0) (hk0 : 0 ≤ k0 ∧ k0 < m' 10 r) (hpl : σ.1 (a + 1) r = m' 1 r) (h5 : m' 0 5 ≤ 40) (hk : ∀ σ', dayC σ' 21 0 (tk m' (c : Int)) → frC σ σ' → Post none σ')  : ∀ (n : Nat) (k : Int), ((k0 - k).toNat ≤ n) → (0 ≤ k ∧ k ≤ k0) → AW l yX5_takeFreePlace cX5_takeFreePlace 6 (none : Option Jvm.ClassFile.FieldType) 1 22 0 0 SH Post SH 0 0 (σ) 27 [some (.ref 21), some (.ref a), some (.int (jI (c : Int))), some (.ref (21 + 12 + ((c : Int)).toNat)), some (.int (jI r)), some (.int (jI k))] [] := by
  intro n
  induction n with
  | zero =>
    intro k hm hkb
    obtain ⟨d1, d2, d3, d4, d5, d6, d7⟩ := id hD
    obtain ⟨w1, w2, w3, w4⟩ := id wq
    simp only [Int.zero_add] at d4 d5 d6 d7
    have w4c := w4 (c : Int) (by omega) hc
    have e1 := d5 (c : Int) 1 (by omega) (by omega) (by omega) (by omega)
    have e3 := d5 (c : Int) 3 (by omega) (by omega) (by omega) (by omega)
    have e9 := d5 (c : Int) 9 (by omega) (by omega) (by omega) (by omega)
    have hff := ffr_f (m' (200 + r)) (m' 10 r).toNat
    rw [hkk] at hff
    have hff2 : m' (200 + r) k0 = -1 ∧ ∀ i : Int, 0 ≤ i → i < k0 → m' (200 + r) i ≠ -1 := by
      rcases hff with ⟨z1, z2⟩ | ⟨z1, z2, z3, z4⟩
      · omega
      · exact ⟨z3, z4⟩
    clear hff
    have w2r := w2 r hr6.1 hr6.2
    have d4r := d4 r hr6.1 hr6.2
    have d6k := d6 r k hr6.1 hr6.2 (by omega) (by omega)
    have w3k := w3 r k hr6.1 hr6.2 (by omega) (by omega)
    have hk9 : k = k0 → m' (200 + r) k = -1 := fun z => by rw [z]; exact hff2.1
    refine a_ild5 eX5_takeFreePlace_27 ?_
    refine a_ald0 eX5_takeFreePlace_29 ?_
    refine a_getR 4 (21 + 9) eX5_takeFreePlace_30 fl_X5_22 rfl rfl (sh_day (Or.inl rfl)) ((congrFun (congrFun hR _) _).trans (rf_day_4 (Or.inl rfl))) ?_
    refine a_ild4 eX5_takeFreePlace_33 ?_
    refine a_iald eX5_takeFreePlace_35 (sh_day_9 (Or.inl rfl)) rfl (by omega) ?_
    refine a_eqtop (y0 := m' 10 r) (by exact d4r.1) ?_
    refine a_icmp_ge 59 eX5_takeFreePlace_36 (by decide) (by omega) (fun hT36 => ?_) (fun hF36 => ?_)
    · skip
      refine a_ild5 eX5_takeFreePlace_59 ?_
      refine a_ald0 eX5_takeFreePlace_61 ?_
      refine a_getR 4 (21 + 9) eX5_takeFreePlace_62 fl_X5_22 rfl rfl (sh_day (Or.inl rfl)) ((congrFun (congrFun hR _) _).trans (rf_day_4 (Or.inl rfl))) ?_
      refine a_ild4 eX5_takeFreePlace_65 ?_
      refine a_iald eX5_takeFreePlace_67 (sh_day_9 (Or.inl rfl)) rfl (by omega) ?_
      refine a_eqtop (y0 := m' 10 r) (by exact d4r.1) ?_
      refine a_icmp_lt 72 eX5_takeFreePlace_68 (by decide) (by omega) (fun hT68 => ?_) (fun hF68 => ?_)
      · skip
        refine a_ald0 eX5_takeFreePlace_72 ?_
        refine a_getR 3 (21 + 2) eX5_takeFreePlace_73 fl_X5_19 rfl rfl (sh_day (Or.inl rfl)) ((congrFun (congrFun hR _) _).trans (rf_day_3 (Or.inl rfl))) ?_
        refine a_ild4 eX5_takeFreePlace_76 ?_
        refine a_aald _ eX5_takeFreePlace_78 (sh_day_2 (Or.inl rfl)) rfl rfl rfl (by omega) ((congrFun (congrFun hR _) _).trans (rf_row (Or.inl rfl) (by omega))) ?_
        refine a_ild5 eX5_takeFreePlace_79 ?_
        refine a_ild2 eX5_takeFreePlace_81 ?_
        refine a_iast eX5_takeFreePlace_82 (sh_row (Or.inl rfl) (by omega)) rfl (by omega) ?_
        refine a_ald3 eX5_takeFreePlace_83 ?_
        refine a_ild4 eX5_takeFreePlace_84 ?_
        refine a_putI 3 eX5_takeFreePlace_86 fl_X5_77 rfl rfl (sh_cab (Or.inl rfl) (by omega)) (fun q h => Or.inl (by cases h; rfl)) ?_
        refine a_ald3 eX5_takeFreePlace_89 ?_
        refine a_ald1 eX5_takeFreePlace_90 ?_
        refine a_getR 1 (a + 1) eX5_takeFreePlace_91 fl_X5_106 rfl rfl (sh_city ha) ((congrFun (congrFun hR _) _).trans (rf_city_1 ha)) ?_
        refine a_ild4 eX5_takeFreePlace_94 ?_
        refine a_iald eX5_takeFreePlace_96 (sh_city_1 ha) rfl (by omega) ?_
        refine a_eqtop (y0 := m' 1 r) (by simp only [rd_si]; (repeat rw [if_neg (by rcases ha with rfl | rfl <;> omega)]); exact hpl) ?_
        refine a_putI 2 eX5_takeFreePlace_97 fl_X5_80 rfl rfl (sh_cab (Or.inl rfl) (by omega)) (fun q h => Or.inl (by cases h; rfl)) ?_
        refine a_ald3 eX5_takeFreePlace_100 ?_
        refine a_iconst eX5_takeFreePlace_101 ?_
        refine a_putI 9 eX5_takeFreePlace_102 fl_X5_154 rfl rfl (sh_cab (Or.inl rfl) (by omega)) (fun q h => Or.inl (by cases h; rfl)) ?_
        refine a_ald3 eX5_takeFreePlace_105 ?_
        refine a_iconst eX5_takeFreePlace_106 ?_
        refine a_putZ 10 eX5_takeFreePlace_107 fl_X5_135 rfl rfl (by first | exact Or.inl rfl | exact Or.inr rfl | omega) (sh_cab (Or.inl rfl) (by omega)) (fun q h => Or.inl (by cases h; rfl)) ?_
        refine a_vret eX5_takeFreePlace_110 rfl rfl ⟨Nat.zero_le _, Nat.zero_le _⟩ ?_
        have hD9 := dayC_tk (σ := σ) (c := c) hD (by omega) h5 hc hr hr6 hkk
        rw [show k = k0 by
          rcases Int.lt_or_le k k0 with z | z
          · exact absurd (by omega) (hff2.2 k (by omega) z)
          · omega]
        refine hk _ hD9 ⟨fun b j q => ?_, rfl⟩
        simp only [rd_si]
        (repeat rw [if_neg (by omega)])
      · skip
        refine a_vret eX5_takeFreePlace_71 rfl rfl ⟨Nat.zero_le _, Nat.zero_le _⟩ ?_
        exfalso; omega
    · skip
      refine a_ald0 eX5_takeFreePlace_39 ?_
      refine a_getR 3 (21 + 2) eX5_takeFreePlace_40 fl_X5_19 rfl rfl (sh_day (Or.inl rfl)) ((congrFun (congrFun hR _) _).trans (rf_day_3 (Or.inl rfl))) ?_
      refine a_ild4 eX5_takeFreePlace_43 ?_
      refine a_aald _ eX5_takeFreePlace_45 (sh_day_2 (Or.inl rfl)) rfl rfl rfl (by omega) ((congrFun (congrFun hR _) _).trans (rf_row (Or.inl rfl) (by omega))) ?_
      refine a_ild5 eX5_takeFreePlace_46 ?_
      refine a_iald eX5_takeFreePlace_48 (sh_row (Or.inl rfl) (by omega)) rfl (by omega) ?_
      refine a_eqtop (y0 := m' (200 + r) k) (by exact d6k) ?_
      refine a_iconst eX5_takeFreePlace_49 ?_
      refine a_icmp_eq 59 eX5_takeFreePlace_50 (by decide) (by omega) (fun hT50 => ?_) (fun hF50 => ?_)
      · skip
        refine a_ild5 eX5_takeFreePlace_59 ?_
        refine a_ald0 eX5_takeFreePlace_61 ?_
        refine a_getR 4 (21 + 9) eX5_takeFreePlace_62 fl_X5_22 rfl rfl (sh_day (Or.inl rfl)) ((congrFun (congrFun hR _) _).trans (rf_day_4 (Or.inl rfl))) ?_
        refine a_ild4 eX5_takeFreePlace_65 ?_
        refine a_iald eX5_takeFreePlace_67 (sh_day_9 (Or.inl rfl)) rfl (by omega) ?_
        refine a_eqtop (y0 := m' 10 r) (by exact d4r.1) ?_
        refine a_icmp_lt 72 eX5_takeFreePlace_68 (by decide) (by omega) (fun hT68 => ?_) (fun hF68 => ?_)
        · skip
          refine a_ald0 eX5_takeFreePlace_72 ?_
          refine a_getR 3 (21 + 2) eX5_takeFreePlace_73 fl_X5_19 rfl rfl (sh_day (Or.inl rfl)) ((congrFun (congrFun hR _) _).trans (rf_day_3 (Or.inl rfl))) ?_
          refine a_ild4 eX5_takeFreePlace_76 ?_
          refine a_aald _ eX5_takeFreePlace_78 (sh_day_2 (Or.inl rfl)) rfl rfl rfl (by omega) ((congrFun (congrFun hR _) _).trans (rf_row (Or.inl rfl) (by omega))) ?_
          refine a_ild5 eX5_takeFreePlace_79 ?_
          refine a_ild2 eX5_takeFreePlace_81 ?_
          refine a_iast eX5_takeFreePlace_82 (sh_row (Or.inl rfl) (by omega)) rfl (by omega) ?_
          refine a_ald3 eX5_takeFreePlace_83 ?_
          refine a_ild4 eX5_takeFreePlace_84 ?_
          refine a_putI 3 eX5_takeFreePlace_86 fl_X5_77 rfl rfl (sh_cab (Or.inl rfl) (by omega)) (fun q h => Or.inl (by cases h; rfl)) ?_
          refine a_ald3 eX5_takeFreePlace_89 ?_
          refine a_ald1 eX5_takeFreePlace_90 ?_
          refine a_getR 1 (a + 1) eX5_takeFreePlace_91 fl_X5_106 rfl rfl (sh_city ha) ((congrFun (congrFun hR _) _).trans (rf_city_1 ha)) ?_
          refine a_ild4 eX5_takeFreePlace_94 ?_
          refine a_iald eX5_takeFreePlace_96 (sh_city_1 ha) rfl (by omega) ?_
          refine a_eqtop (y0 := m' 1 r) (by simp only [rd_si]; (repeat rw [if_neg (by rcases ha with rfl | rfl <;> omega)]); exact hpl) ?_
          refine a_putI 2 eX5_takeFreePlace_97 fl_X5_80 rfl rfl (sh_cab (Or.inl rfl) (by omega)) (fun q h => Or.inl (by cases h; rfl)) ?_
          refine a_ald3 eX5_takeFreePlace_100 ?_
          refine a_iconst eX5_takeFreePlace_101 ?_
          refine a_putI 9 eX5_takeFreePlace_102 fl_X5_154 rfl rfl (sh_cab (Or.inl rfl) (by omega)) (fun q h => Or.inl (by cases h; rfl)) ?_
          refine a_ald3 eX5_takeFreePlace_105 ?_
          refine a_iconst eX5_takeFreePlace_106 ?_
          refine a_putZ 10 eX5_takeFreePlace_107 fl_X5_135 rfl rfl (by first | exact Or.inl rfl | exact Or.inr rfl | omega) (sh_cab (Or.inl rfl) (by omega)) (fun q h => Or.inl (by cases h; rfl)) ?_
          refine a_vret eX5_takeFreePlace_110 rfl rfl ⟨Nat.zero_le _, Nat.zero_le _⟩ ?_
          have hD9 := dayC_tk (σ := σ) (c := c) hD (by omega) h5 hc hr hr6 hkk
          rw [show k = k0 by
            rcases Int.lt_or_le k k0 with z | z
            · exact absurd (by omega) (hff2.2 k (by omega) z)
            · omega]
          refine hk _ hD9 ⟨fun b j q => ?_, rfl⟩
          simp only [rd_si]
          (repeat rw [if_neg (by omega)])
        · skip
          refine a_vret eX5_takeFreePlace_71 rfl rfl ⟨Nat.zero_le _, Nat.zero_le _⟩ ?_
          exfalso; omega
      · skip
        exfalso; omega
  | succ n ih =>
    intro k hm hkb
    obtain ⟨d1, d2, d3, d4, d5, d6, d7⟩ := id hD
    obtain ⟨w1, w2, w3, w4⟩ := id wq
    simp only [Int.zero_add] at d4 d5 d6 d7
    have w4c := w4 (c : Int) (by omega) hc
    have e1 := d5 (c : Int) 1 (by omega) (by omega) (by omega) (by omega)
    have e3 := d5 (c : Int) 3 (by omega) (by omega) (by omega) (by omega)
    have e9 := d5 (c : Int) 9 (by omega) (by omega) (by omega) (by omega)
    have hff := ffr_f (m' (200 + r)) (m' 10 r).toNat
    rw [hkk] at hff
    have hff2 : m' (200 + r) k0 = -1 ∧ ∀ i : Int, 0 ≤ i → i < k0 → m' (200 + r) i ≠ -1 := by
      rcases hff with ⟨z1, z2⟩ | ⟨z1, z2, z3, z4⟩
      · omega
      · exact ⟨z3, z4⟩
    clear hff
    have w2r := w2 r hr6.1 hr6.2
    have d4r := d4 r hr6.1 hr6.2
    have d6k := d6 r k hr6.1 hr6.2 (by omega) (by omega)
    have w3k := w3 r k hr6.1 hr6.2 (by omega) (by omega)
    have hk9 : k = k0 → m' (200 + r) k = -1 := fun z => by rw [z]; exact hff2.1
    refine a_ild5 eX5_takeFreePlace_27 ?_
    refine a_ald0 eX5_takeFreePlace_29 ?_
    refine a_getR 4 (21 + 9) eX5_takeFreePlace_30 fl_X5_22 rfl rfl (sh_day (Or.inl rfl)) ((congrFun (congrFun hR _) _).trans (rf_day_4 (Or.inl rfl))) ?_
    refine a_ild4 eX5_takeFreePlace_33 ?_
    refine a_iald eX5_takeFreePlace_35 (sh_day_9 (Or.inl rfl)) rfl (by omega) ?_
    refine a_eqtop (y0 := m' 10 r) (by exact d4r.1) ?_
    refine a_icmp_ge 59 eX5_takeFreePlace_36 (by decide) (by omega) (fun hT36 => ?_) (fun hF36 => ?_)
    · skip
      refine a_ild5 eX5_takeFreePlace_59 ?_
      refine a_ald0 eX5_takeFreePlace_61 ?_
      refine a_getR 4 (21 + 9) eX5_takeFreePlace_62 fl_X5_22 rfl rfl (sh_day (Or.inl rfl)) ((congrFun (congrFun hR _) _).trans (rf_day_4 (Or.inl rfl))) ?_
      refine a_ild4 eX5_takeFreePlace_65 ?_
      refine a_iald eX5_takeFreePlace_67 (sh_day_9 (Or.inl rfl)) rfl (by omega) ?_
      refine a_eqtop (y0 := m' 10 r) (by exact d4r.1) ?_
      refine a_icmp_lt 72 eX5_takeFreePlace_68 (by decide) (by omega) (fun hT68 => ?_) (fun hF68 => ?_)
      · skip
        refine a_ald0 eX5_takeFreePlace_72 ?_
        refine a_getR 3 (21 + 2) eX5_takeFreePlace_73 fl_X5_19 rfl rfl (sh_day (Or.inl rfl)) ((congrFun (congrFun hR _) _).trans (rf_day_3 (Or.inl rfl))) ?_
        refine a_ild4 eX5_takeFreePlace_76 ?_
        refine a_aald _ eX5_takeFreePlace_78 (sh_day_2 (Or.inl rfl)) rfl rfl rfl (by omega) ((congrFun (congrFun hR _) _).trans (rf_row (Or.inl rfl) (by omega))) ?_
        refine a_ild5 eX5_takeFreePlace_79 ?_
        refine a_ild2 eX5_takeFreePlace_81 ?_
        refine a_iast eX5_takeFreePlace_82 (sh_row (Or.inl rfl) (by omega)) rfl (by omega) ?_
        refine a_ald3 eX5_takeFreePlace_83 ?_
        refine a_ild4 eX5_takeFreePlace_84 ?_
        refine a_putI 3 eX5_takeFreePlace_86 fl_X5_77 rfl rfl (sh_cab (Or.inl rfl) (by omega)) (fun q h => Or.inl (by cases h; rfl)) ?_
        refine a_ald3 eX5_takeFreePlace_89 ?_
        refine a_ald1 eX5_takeFreePlace_90 ?_
        refine a_getR 1 (a + 1) eX5_takeFreePlace_91 fl_X5_106 rfl rfl (sh_city ha) ((congrFun (congrFun hR _) _).trans (rf_city_1 ha)) ?_
        refine a_ild4 eX5_takeFreePlace_94 ?_
        refine a_iald eX5_takeFreePlace_96 (sh_city_1 ha) rfl (by omega) ?_
        refine a_eqtop (y0 := m' 1 r) (by simp only [rd_si]; (repeat rw [if_neg (by rcases ha with rfl | rfl <;> omega)]); exact hpl) ?_
        refine a_putI 2 eX5_takeFreePlace_97 fl_X5_80 rfl rfl (sh_cab (Or.inl rfl) (by omega)) (fun q h => Or.inl (by cases h; rfl)) ?_
        refine a_ald3 eX5_takeFreePlace_100 ?_
        refine a_iconst eX5_takeFreePlace_101 ?_
        refine a_putI 9 eX5_takeFreePlace_102 fl_X5_154 rfl rfl (sh_cab (Or.inl rfl) (by omega)) (fun q h => Or.inl (by cases h; rfl)) ?_
        refine a_ald3 eX5_takeFreePlace_105 ?_
        refine a_iconst eX5_takeFreePlace_106 ?_
        refine a_putZ 10 eX5_takeFreePlace_107 fl_X5_135 rfl rfl (by first | exact Or.inl rfl | exact Or.inr rfl | omega) (sh_cab (Or.inl rfl) (by omega)) (fun q h => Or.inl (by cases h; rfl)) ?_
        refine a_vret eX5_takeFreePlace_110 rfl rfl ⟨Nat.zero_le _, Nat.zero_le _⟩ ?_
        have hD9 := dayC_tk (σ := σ) (c := c) hD (by omega) h5 hc hr hr6 hkk
        rw [show k = k0 by
          rcases Int.lt_or_le k k0 with z | z
          · exact absurd (by omega) (hff2.2 k (by omega) z)
          · omega]
        refine hk _ hD9 ⟨fun b j q => ?_, rfl⟩
        simp only [rd_si]
        (repeat rw [if_neg (by omega)])
      · skip
        refine a_vret eX5_takeFreePlace_71 rfl rfl ⟨Nat.zero_le _, Nat.zero_le _⟩ ?_
        exfalso; omega
    · skip
      refine a_ald0 eX5_takeFreePlace_39 ?_
      refine a_getR 3 (21 + 2) eX5_takeFreePlace_40 fl_X5_19 rfl rfl (sh_day (Or.inl rfl)) ((congrFun (congrFun hR _) _).trans (rf_day_3 (Or.inl rfl))) ?_
      refine a_ild4 eX5_takeFreePlace_43 ?_
      refine a_aald _ eX5_takeFreePlace_45 (sh_day_2 (Or.inl rfl)) rfl rfl rfl (by omega) ((congrFun (congrFun hR _) _).trans (rf_row (Or.inl rfl) (by omega))) ?_
      refine a_ild5 eX5_takeFreePlace_46 ?_
      refine a_iald eX5_takeFreePlace_48 (sh_row (Or.inl rfl) (by omega)) rfl (by omega) ?_
      refine a_eqtop (y0 := m' (200 + r) k) (by exact d6k) ?_
      refine a_iconst eX5_takeFreePlace_49 ?_
      refine a_icmp_eq 59 eX5_takeFreePlace_50 (by decide) (by omega) (fun hT50 => ?_) (fun hF50 => ?_)
      · skip
        refine a_ild5 eX5_takeFreePlace_59 ?_
        refine a_ald0 eX5_takeFreePlace_61 ?_
        refine a_getR 4 (21 + 9) eX5_takeFreePlace_62 fl_X5_22 rfl rfl (sh_day (Or.inl rfl)) ((congrFun (congrFun hR _) _).trans (rf_day_4 (Or.inl rfl))) ?_
        refine a_ild4 eX5_takeFreePlace_65 ?_
        refine a_iald eX5_takeFreePlace_67 (sh_day_9 (Or.inl rfl)) rfl (by omega) ?_
        refine a_eqtop (y0 := m' 10 r) (by exact d4r.1) ?_
        refine a_icmp_lt 72 eX5_takeFreePlace_68 (by decide) (by omega) (fun hT68 => ?_) (fun hF68 => ?_)
        · skip
          refine a_ald0 eX5_takeFreePlace_72 ?_
          refine a_getR 3 (21 + 2) eX5_takeFreePlace_73 fl_X5_19 rfl rfl (sh_day (Or.inl rfl)) ((congrFun (congrFun hR _) _).trans (rf_day_3 (Or.inl rfl))) ?_
          refine a_ild4 eX5_takeFreePlace_76 ?_
          refine a_aald _ eX5_takeFreePlace_78 (sh_day_2 (Or.inl rfl)) rfl rfl rfl (by omega) ((congrFun (congrFun hR _) _).trans (rf_row (Or.inl rfl) (by omega))) ?_
          refine a_ild5 eX5_takeFreePlace_79 ?_
          refine a_ild2 eX5_takeFreePlace_81 ?_
          refine a_iast eX5_takeFreePlace_82 (sh_row (Or.inl rfl) (by omega)) rfl (by omega) ?_
          refine a_ald3 eX5_takeFreePlace_83 ?_
          refine a_ild4 eX5_takeFreePlace_84 ?_
          refine a_putI 3 eX5_takeFreePlace_86 fl_X5_77 rfl rfl (sh_cab (Or.inl rfl) (by omega)) (fun q h => Or.inl (by cases h; rfl)) ?_
          refine a_ald3 eX5_takeFreePlace_89 ?_
          refine a_ald1 eX5_takeFreePlace_90 ?_
          refine a_getR 1 (a + 1) eX5_takeFreePlace_91 fl_X5_106 rfl rfl (sh_city ha) ((congrFun (congrFun hR _) _).trans (rf_city_1 ha)) ?_
          refine a_ild4 eX5_takeFreePlace_94 ?_
          refine a_iald eX5_takeFreePlace_96 (sh_city_1 ha) rfl (by omega) ?_
          refine a_eqtop (y0 := m' 1 r) (by simp only [rd_si]; (repeat rw [if_neg (by rcases ha with rfl | rfl <;> omega)]); exact hpl) ?_
          refine a_putI 2 eX5_takeFreePlace_97 fl_X5_80 rfl rfl (sh_cab (Or.inl rfl) (by omega)) (fun q h => Or.inl (by cases h; rfl)) ?_
          refine a_ald3 eX5_takeFreePlace_100 ?_
          refine a_iconst eX5_takeFreePlace_101 ?_
          refine a_putI 9 eX5_takeFreePlace_102 fl_X5_154 rfl rfl (sh_cab (Or.inl rfl) (by omega)) (fun q h => Or.inl (by cases h; rfl)) ?_
          refine a_ald3 eX5_takeFreePlace_105 ?_
          refine a_iconst eX5_takeFreePlace_106 ?_
          refine a_putZ 10 eX5_takeFreePlace_107 fl_X5_135 rfl rfl (by first | exact Or.inl rfl | exact Or.inr rfl | omega) (sh_cab (Or.inl rfl) (by omega)) (fun q h => Or.inl (by cases h; rfl)) ?_
          refine a_vret eX5_takeFreePlace_110 rfl rfl ⟨Nat.zero_le _, Nat.zero_le _⟩ ?_
          have hD9 := dayC_tk (σ := σ) (c := c) hD (by omega) h5 hc hr hr6 hkk
          rw [show k = k0 by
            rcases Int.lt_or_le k k0 with z | z
            · exact absurd (by omega) (hff2.2 k (by omega) z)
            · omega]
          refine hk _ hD9 ⟨fun b j q => ?_, rfl⟩
          simp only [rd_si]
          (repeat rw [if_neg (by omega)])
        · skip
          refine a_vret eX5_takeFreePlace_71 rfl rfl ⟨Nat.zero_le _, Nat.zero_le _⟩ ?_
          exfalso; omega
      · skip
        refine a_iinc5 eX5_takeFreePlace_53 (by decide) aw_n2i ?_
        refine a_goto 27 eX5_takeFreePlace_56 (by decide) ?_
        have hne : k ≠ k0 := fun z => by rw [z, hff2.1] at hF50; omega
        refine ih (k + 1) (by omega) (by omega)

set_option maxHeartbeats 4000000 in
set_option maxRecDepth 100000 in
theorem c_X5_takeFreePlace {l : Launch} {σ : aw_S} {Post : Option Value → aw_S → Prop} {a : Nat} (ha : isCity a) {tw cs : Bool} (hR : σ.2.2 = RF tw cs) {m' : mS} (hD : dayC σ 21 0 m') (wq : wkq m') {c : Nat} (hc : (c : Int) < m' 0 4) {r k0 : Int} (hr : m' (100 + (c : Int)) 9 = r) (hr6 : 0 ≤ r ∧ r < 6) (hkk : ffr (m' (200 + r)) (m' 10 r).toNat = k0) (hk0 : 0 ≤ k0 ∧ k0 < m' 10 r) (hpl : σ.1 (a + 1) r = m' 1 r) (h5 : m' 0 5 ≤ 40) (hk : ∀ σ', dayC σ' 21 0 (tk m' (c : Int)) → frC σ σ' → Post none σ')  : AE l yX5_takeFreePlace cX5_takeFreePlace 6 (none : Option Jvm.ClassFile.FieldType) 1 22 0 0 SH SH σ [.ref 21, .ref a, .int (jI (c : Int))] Post := by
  show AW l yX5_takeFreePlace cX5_takeFreePlace 6 (none : Option Jvm.ClassFile.FieldType) 1 22 0 0 SH Post SH 0 0 σ 0 [some (.ref 21), some (.ref a), some (.int (jI (c : Int))), none, none, none] []
  obtain ⟨d1, d2, d3, d4, d5, d6, d7⟩ := id hD
  obtain ⟨w1, w2, w3, w4⟩ := id wq
  simp only [Int.zero_add] at d4 d5 d6 d7
  have w4c := w4 (c : Int) (by omega) hc
  have e1 := d5 (c : Int) 1 (by omega) (by omega) (by omega) (by omega)
  have e3 := d5 (c : Int) 3 (by omega) (by omega) (by omega) (by omega)
  have e9 := d5 (c : Int) 9 (by omega) (by omega) (by omega) (by omega)
  have hff := ffr_f (m' (200 + r)) (m' 10 r).toNat
  rw [hkk] at hff
  have hff2 : m' (200 + r) k0 = -1 ∧ ∀ i : Int, 0 ≤ i → i < k0 → m' (200 + r) i ≠ -1 := by
    rcases hff with ⟨z1, z2⟩ | ⟨z1, z2, z3, z4⟩
    · omega
    · exact ⟨z3, z4⟩
  clear hff
  have w2r := w2 r hr6.1 hr6.2
  have d4r := d4 r hr6.1 hr6.2
  refine a_ald0 eX5_takeFreePlace_0 ?_
  refine a_getR 2 (21 + 1) eX5_takeFreePlace_1 fl_X5_11 rfl rfl (sh_day (Or.inl rfl)) ((congrFun (congrFun hR _) _).trans (rf_day_2 (Or.inl rfl))) ?_
  refine a_ild2 eX5_takeFreePlace_4 ?_
  refine a_aald _ eX5_takeFreePlace_5 (sh_day_1 (Or.inl rfl)) rfl rfl rfl (by omega) ((congrFun (congrFun hR _) _).trans (rf_cab (Or.inl rfl) (by omega))) ?_
  refine a_ast3 eX5_takeFreePlace_6 (by decide) aw_n2i ?_
  refine a_ald3 eX5_takeFreePlace_7 ?_
  refine a_getI 9 eX5_takeFreePlace_8 fl_X5_154 rfl rfl (sh_cab (Or.inl rfl) (by omega)) ?_
  refine a_eqtop (y0 := r) (by rw [e9]; exact hr) ?_
  refine a_ist4 eX5_takeFreePlace_11 (by decide) aw_n2r ?_
  refine a_ild4 eX5_takeFreePlace_13 ?_
  refine a_iconst eX5_takeFreePlace_15 ?_
  refine a_iconst eX5_takeFreePlace_16 ?_
  refine a_cN3 eX5_takeFreePlace_17 ln_X5_59 mS_X9_within mt_X9_within rfl rfl rfl rfl rfl rfl rfl (c_X9_within (by omega) (fun hT17 => ?_) (fun hF17 => ?_))
  · skip
    dsimp only [Option.toList, List.cons_append, List.nil_append]
    refine a_if_ne 24 eX5_takeFreePlace_20 (by decide) (by omega) (fun _ => ?_) (fun h => absurd h (by decide))
    refine a_iconst eX5_takeFreePlace_24 ?_
    refine a_ist5 eX5_takeFreePlace_25 (by decide) aw_n2i ?_
    exact lp_tfp ha hR hD wq hc hr hr6 hkk hk0 hpl h5 hk _ 0 (Nat.le_refl _) (by omega)
  · skip
    dsimp only [Option.toList, List.cons_append, List.nil_append]
    refine a_if_ne 24 eX5_takeFreePlace_20 (by decide) (by omega) (fun h => absurd h (by decide)) (fun _ => ?_)
    refine a_vret eX5_takeFreePlace_23 rfl rfl ⟨Nat.zero_le _, Nat.zero_le _⟩ ?_
    exfalso; omega

set_option maxHeartbeats 4000000 in
set_option maxRecDepth 100000 in
theorem lp_tr2 {l : Launch} {σ : aw_S} {Post : Option Value → aw_S → Prop} {a : Nat} (ha : isCity a) {tw cs : Bool} (hR : σ.2.2 = RF tw cs) {m : mS} {N : Int} (hC : cityC σ a m) (wC : wfCity m) (hD : dayC σ 21 0 m) (wD : wfDay m 0 N) {S : Nat} (hS6 : S < 65536) (hp : isHp (rkm m) (wsm m) S (m 0 4).toNat) (hg : isRg (rkm m) (wsm m) S (m 0 4).toNat) (hk : ∀ σ', dayC σ' 21 0 (mturn m S) → frC σ σ' → Post none σ')  : ∀ (n : Nat) (c : Nat) (σ1 : aw_S) (lx : Option Value), ((m 0 4 - (c : Int)).toNat ≤ n) → ((c : Int) ≤ m 0 4) → (frC σ σ1) → (dayC σ1 21 0 (tks m S c)) → AW l yX5_turnRing cX5_turnRing 5 (none : Option Jvm.ClassFile.FieldType) 4 87 0 0 SH Post SH 0 0 (σ1) 58 [some (.ref 21), some (.ref a), some (.int (jI (S : Int))), some (.int (jI (c : Int))), lx] [] := by
  intro n
  induction n with
  | zero =>
    intro c σ1 lx hm hc f1 hD1
    have hR0 := hR
    have hR : σ1.2.2 = RF tw cs := frC_R f1 hR
    obtain ⟨v1, v2, v3, v4, v5, v6, v7, v8⟩ := wfDay_0 wD
    have htb := tb_b S c
    have hQ := Q_t wC wD hp hg c
    have e04 : tks m S c 0 4 = m 0 4 := hQ.1 0 4 (by omega) (fun ⟨d, d1, d2, _⟩ => by omega)
    have e05 : tks m S c 0 5 = m 0 5 := hQ.1 0 5 (by omega) (fun ⟨d, d1, d2, _⟩ => by omega)
    have d2 : σ1.1 21 1 = m 0 4 := hD1.2.1.trans e04
    have hC1 : cityC σ1 a m := cityC_s ha f1 hC
    refine a_ild3 eX5_turnRing_58 ?_
    refine a_ald0 eX5_turnRing_59 ?_
    refine a_getI 1 eX5_turnRing_60 fl_X5_37 rfl rfl (sh_day (Or.inl rfl)) ?_
    refine a_eqtop (y0 := m 0 4) (by exact d2) ?_
    refine a_icmp_ge 87 eX5_turnRing_63 (by decide) (by omega) (fun hT63 => ?_) (fun hF63 => ?_)
    · skip
      refine a_vret eX5_turnRing_87 rfl rfl ⟨Nat.zero_le _, Nat.zero_le _⟩ ?_
      have e9 : mturn m S = tks m S c := by unfold mturn; rw [show (m 0 4).toNat = c by omega]
      exact hk σ1 (by rw [e9]; exact hD1) f1
    · skip
      exfalso; omega
  | succ n ih =>
    intro c σ1 lx hm hc f1 hD1
    have hR0 := hR
    have hR : σ1.2.2 = RF tw cs := frC_R f1 hR
    obtain ⟨v1, v2, v3, v4, v5, v6, v7, v8⟩ := wfDay_0 wD
    have htb := tb_b S c
    have hQ := Q_t wC wD hp hg c
    have e04 : tks m S c 0 4 = m 0 4 := hQ.1 0 4 (by omega) (fun ⟨d, d1, d2, _⟩ => by omega)
    have e05 : tks m S c 0 5 = m 0 5 := hQ.1 0 5 (by omega) (fun ⟨d, d1, d2, _⟩ => by omega)
    have d2 : σ1.1 21 1 = m 0 4 := hD1.2.1.trans e04
    have hC1 : cityC σ1 a m := cityC_s ha f1 hC
    refine a_ild3 eX5_turnRing_58 ?_
    refine a_ald0 eX5_turnRing_59 ?_
    refine a_getI 1 eX5_turnRing_60 fl_X5_37 rfl rfl (sh_day (Or.inl rfl)) ?_
    refine a_eqtop (y0 := m 0 4) (by exact d2) ?_
    refine a_icmp_ge 87 eX5_turnRing_63 (by decide) (by omega) (fun hT63 => ?_) (fun hF63 => ?_)
    · skip
      refine a_vret eX5_turnRing_87 rfl rfl ⟨Nat.zero_le _, Nat.zero_le _⟩ ?_
      have e9 : mturn m S = tks m S c := by unfold mturn; rw [show (m 0 4).toNat = c by omega]
      exact hk σ1 (by rw [e9]; exact hD1) f1
    · skip
      refine a_ild2 eX5_turnRing_66 ?_
      refine a_ild3 eX5_turnRing_67 ?_
      refine a_ishr ((S / 2 ^ c : Nat) : Int) eX5_turnRing_68 (jtb1 (by omega) (by omega)) ?_
      refine a_iconst eX5_turnRing_69 ?_
      refine a_iand ((tb S c : Nat) : Int) eX5_turnRing_70 (jtb2 S c) ?_
      refine a_iconst eX5_turnRing_71 ?_
      refine a_icmp_ne 81 eX5_turnRing_72 (by decide) (by omega) (fun hT72 => ?_) (fun hF72 => ?_)
      · skip
        refine a_iinc3 eX5_turnRing_81 (by decide) aw_n2i ?_
        refine a_goto 58 eX5_turnRing_84 (by decide) ?_
        rw [show (c : Int) + 1 = (((c + 1 : Nat) : Nat) : Int) by omega]
        have e9 : tks m S (c + 1) = tks m S c := if_neg (fun z => by have := (tb_i S c).mp z; omega)
        exact ih (c + 1) σ1 _ (by omega) (by omega) f1 (by rw [e9]; exact hD1)
      · skip
        have hSc : S.testBit c = true := (tb_i S c).mpr (by omega)
        obtain ⟨⟨a1, a2⟩, a3, a4, a5, a6, a7, a8, a9, a10⟩ := Q_at wC wD hp hQ hSc
        have h6 := wC.1
        refine a_ald0 eX5_turnRing_75 ?_
        refine a_ald1 eX5_turnRing_76 ?_
        refine a_ild3 eX5_turnRing_77 ?_
        refine a_cV2 eX5_turnRing_78 lk_X5_157 mV_X5_takeFreePlace (sh_day (Or.inl rfl)) ⟨_, rfl, rfl⟩ mt_X5_takeFreePlace rfl rfl rfl rfl rfl rfl (c_X5_takeFreePlace ha hR hD1 (wkq_Q wC wD hp hQ) (c := c) (by omega) (r := wsm m c) (k0 := ffr (tks m S c (200 + wsm m c)) (m 10 (wsm m c)).toNat) (a4 9) (by omega) (by rw [a5]) ⟨a8, by rw [a5]; exact a9⟩ (by rw [a7]; exact (hC1.2.1 _ (by omega) (by omega)).1) (by omega) (fun σ2 hD2 f2 => ?_))
        dsimp only [Option.toList, List.cons_append, List.nil_append]
        refine a_iinc3 eX5_turnRing_81 (by decide) aw_n2i ?_
        refine a_goto 58 eX5_turnRing_84 (by decide) ?_
        rw [show (c : Int) + 1 = (((c + 1 : Nat) : Nat) : Int) by omega]
        have e9 : tks m S (c + 1) = tk (tks m S c) (c : Int) := if_pos hSc
        exact ih (c + 1) σ2 _ (by omega) (by omega) (frC_tr f1 f2) (by rw [e9]; exact hD2)

theorem pir_b {m : mS} {N v : Int} {S c : Nat} (wC : wfCity m) (wD : wfDay m 0 N) (hc : (c : Int) < m 0 4) (h2 : clr m S (c : Int) (100 + (c : Int)) 1 = 2) (hv : isFst (fun k => clr m S (c : Int) (200 + clr m S (c : Int) (100 + (c : Int)) 3) k = (c : Int)) (clr m S (c : Int) 10 (clr m S (c : Int) (100 + (c : Int)) 3)) v) : -1 ≤ v ∧ v ≤ 16 := by
  have hw := wkq_clr (S := S) (c : Int) wC wD
  have h4 := (hw.2.2.2 (c : Int) (by omega) (by rw [clr_o (by omega)]; omega)).2 h2
  have h5 := hw.2.1 _ h4.1 h4.2
  have h8 := isFst_b hv
  omega

set_option maxHeartbeats 4000000 in
set_option maxRecDepth 100000 in
theorem lp_tr1 {l : Launch} {σ : aw_S} {Post : Option Value → aw_S → Prop} {a : Nat} (ha : isCity a) {tw cs : Bool} (hR : σ.2.2 = RF tw cs) {m : mS} {N : Int} (hC : cityC σ a m) (wC : wfCity m) (hD : dayC σ 21 0 m) (wD : wfDay m 0 N) {S : Nat} (hS6 : S < 65536) (hp : isHp (rkm m) (wsm m) S (m 0 4).toNat) (hg : isRg (rkm m) (wsm m) S (m 0 4).toNat) (hk : ∀ σ', dayC σ' 21 0 (mturn m S) → frC σ σ' → Post none σ')  : ∀ (n : Nat) (c : Nat) (σ1 : aw_S) (lx : Option Value), ((m 0 4 - (c : Int)).toNat ≤ n) → ((c : Int) ≤ m 0 4) → (frC σ σ1) → (dayC σ1 21 0 (clr m S (c : Int))) → AW l yX5_turnRing cX5_turnRing 5 (none : Option Jvm.ClassFile.FieldType) 4 87 0 0 SH Post SH 0 0 (σ1) 2 [some (.ref 21), some (.ref a), some (.int (jI (S : Int))), some (.int (jI (c : Int))), lx] [] := by
  intro n
  induction n with
  | zero =>
    intro c σ1 lx hm hc f1 hD1
    have hR0 := hR
    have hR : σ1.2.2 = RF tw cs := frC_R f1 hR
    obtain ⟨v1, v2, v3, v4, v5, v6, v7, v8⟩ := wfDay_0 wD
    have htb := tb_b S c
    have d2 : σ1.1 21 1 = m 0 4 := hD1.2.1.trans (clr_o (by omega))
    refine a_ild3 eX5_turnRing_2 ?_
    refine a_ald0 eX5_turnRing_3 ?_
    refine a_getI 1 eX5_turnRing_4 fl_X5_37 rfl rfl (sh_day (Or.inl rfl)) ?_
    refine a_eqtop (y0 := m 0 4) (by exact d2) ?_
    refine a_icmp_ge 56 eX5_turnRing_7 (by decide) (by omega) (fun hT7 => ?_) (fun hF7 => ?_)
    · skip
      refine a_iconst eX5_turnRing_56 ?_
      refine a_ist3 eX5_turnRing_57 (by decide) aw_n2i ?_
      have e9 : (c : Int) = m 0 4 := by omega
      rw [e9] at hD1
      exact lp_tr2 ha hR0 hC wC hD wD hS6 hp hg hk _ 0 σ1 _ (Nat.le_refl _) (by omega) f1 hD1
    · skip
      exfalso; omega
  | succ n ih =>
    intro c σ1 lx hm hc f1 hD1
    have hR0 := hR
    have hR : σ1.2.2 = RF tw cs := frC_R f1 hR
    obtain ⟨v1, v2, v3, v4, v5, v6, v7, v8⟩ := wfDay_0 wD
    have htb := tb_b S c
    have d2 : σ1.1 21 1 = m 0 4 := hD1.2.1.trans (clr_o (by omega))
    refine a_ild3 eX5_turnRing_2 ?_
    refine a_ald0 eX5_turnRing_3 ?_
    refine a_getI 1 eX5_turnRing_4 fl_X5_37 rfl rfl (sh_day (Or.inl rfl)) ?_
    refine a_eqtop (y0 := m 0 4) (by exact d2) ?_
    refine a_icmp_ge 56 eX5_turnRing_7 (by decide) (by omega) (fun hT7 => ?_) (fun hF7 => ?_)
    · skip
      refine a_iconst eX5_turnRing_56 ?_
      refine a_ist3 eX5_turnRing_57 (by decide) aw_n2i ?_
      have e9 : (c : Int) = m 0 4 := by omega
      rw [e9] at hD1
      exact lp_tr2 ha hR0 hC wC hD wD hS6 hp hg hk _ 0 σ1 _ (Nat.le_refl _) (by omega) f1 hD1
    · skip
      have w5 := v5 (c : Int) (by omega) (by omega)
      unfold wfCab at w5
      refine a_ald0 eX5_turnRing_10 ?_
      refine a_ild3 eX5_turnRing_11 ?_
      refine a_cV1 eX5_turnRing_12 lk_X5_142 mV_X5_placeInRow (sh_day (Or.inl rfl)) ⟨_, rfl, rfl⟩ mt_X5_placeInRow rfl rfl rfl rfl rfl (c2_X5_placeInRow hR hD1 (wkq_clr _ wC wD) (c := c) (by rw [clr_o (by omega)]; omega) (fun hU12 v hv => ?_) (fun hF12 => ?_))
      · skip
        dsimp only [Option.toList, List.cons_append, List.nil_append]
        (try have hvb0 := pir_b (S := S) wC wD (by omega) hU12 hv)
        refine a_ist4 eX5_turnRing_15 (by decide) aw_n2i ?_
        refine a_ild2 eX5_turnRing_17 ?_
        refine a_ild3 eX5_turnRing_18 ?_
        refine a_ishr ((S / 2 ^ c : Nat) : Int) eX5_turnRing_19 (jtb1 (by omega) (by omega)) ?_
        refine a_iconst eX5_turnRing_20 ?_
        refine a_iand ((tb S c : Nat) : Int) eX5_turnRing_21 (jtb2 S c) ?_
        refine a_iconst eX5_turnRing_22 ?_
        refine a_icmp_ne 50 eX5_turnRing_23 (by decide) (by omega) (fun hT23 => ?_) (fun hF23 => ?_)
        · skip
          refine a_iinc3 eX5_turnRing_50 (by decide) aw_n2i ?_
          refine a_goto 2 eX5_turnRing_53 (by decide) ?_
          have hSc : S.testBit c = false := tb_f.mpr (by omega)
          rw [show (c : Int) + 1 = (((c + 1 : Nat) : Nat) : Int) by omega]
          exact ih (c + 1) σ1 _ (by omega) (by omega) f1 (by rw [show (((c + 1 : Nat) : Nat) : Int) = (c : Int) + 1 by omega, clr_n hSc]; exact hD1)
        · skip
          have hSc : S.testBit c = true := (tb_i S c).mpr (by omega)
          have hst : m (100 + (c : Int)) 1 = 2 := by
            have r9 : wsm m c = m (100 + (c : Int)) 9 := rfl
            rcases w5.2.2.2.2.2.2.2.2.2.2.2.2.1 with z | z
            · exact absurd (r9.trans z) (hp c hSc).2
            · exact z.1
          refine a_ild4 eX5_turnRing_26 ?_
          refine a_iconst eX5_turnRing_28 ?_
          refine a_icmp_eq 50 eX5_turnRing_29 (by decide) (by omega) (fun hT29 => ?_) (fun hF29 => ?_)
          · skip
            refine a_iinc3 eX5_turnRing_50 (by decide) aw_n2i ?_
            refine a_goto 2 eX5_turnRing_53 (by decide) ?_
            have hvv : (0 ≤ v ∧ v < m 10 (m (100 + (c : Int)) 3)) ∧ m (200 + m (100 + (c : Int)) 3) v = (c : Int) := by
              have hr := w5.2.2.2.1 (Or.inr hst)
              obtain ⟨k, k1, k2, k3⟩ := aw_ub (v8 (c : Int) (by omega) (by omega) hst)
              have h6 := wC.1
              have he : ∀ q : Int, 0 ≤ q → q < m 10 (m (100 + (c : Int)) 3) → (clr m S (c : Int) (200 + m (100 + (c : Int)) 3) q = (c : Int) ↔ m (200 + m (100 + (c : Int)) 3) q = (c : Int)) := fun q q1 q2 => by
                unfold clr
                split
                · rename_i z
                  have := z.2.2.1
                  omega
                · exact Iff.rfl
              simp only [clr_o (m := m) (S := S) (c := (c : Int)) (a := 100 + (c : Int)) (by omega), clr_o (m := m) (S := S) (c := (c : Int)) (a := 10) (by omega)] at hv
              rcases hv with ⟨z1, z2⟩ | ⟨z1, z2, z3, z4⟩
              · exact absurd ((he k k1 k2).mpr k3) (z2 k k1 k2)
              · exact ⟨⟨z1, z2⟩, (he v z1 z2).mp z3⟩
            obtain ⟨hvb, hv2⟩ := hvv
            have hr := w5.2.2.2.1 (Or.inr hst)
            have h6 := wC.1
            have h10 := (v4 (m (100 + (c : Int)) 3) hr.1 (by omega)).1
            exfalso; omega
          · skip
            have hvv : (0 ≤ v ∧ v < m 10 (m (100 + (c : Int)) 3)) ∧ m (200 + m (100 + (c : Int)) 3) v = (c : Int) := by
              have hr := w5.2.2.2.1 (Or.inr hst)
              obtain ⟨k, k1, k2, k3⟩ := aw_ub (v8 (c : Int) (by omega) (by omega) hst)
              have h6 := wC.1
              have he : ∀ q : Int, 0 ≤ q → q < m 10 (m (100 + (c : Int)) 3) → (clr m S (c : Int) (200 + m (100 + (c : Int)) 3) q = (c : Int) ↔ m (200 + m (100 + (c : Int)) 3) q = (c : Int)) := fun q q1 q2 => by
                unfold clr
                split
                · rename_i z
                  have := z.2.2.1
                  omega
                · exact Iff.rfl
              simp only [clr_o (m := m) (S := S) (c := (c : Int)) (a := 100 + (c : Int)) (by omega), clr_o (m := m) (S := S) (c := (c : Int)) (a := 10) (by omega)] at hv
              rcases hv with ⟨z1, z2⟩ | ⟨z1, z2, z3, z4⟩
              · exact absurd ((he k k1 k2).mpr k3) (z2 k k1 k2)
              · exact ⟨⟨z1, z2⟩, (he v z1 z2).mp z3⟩
            obtain ⟨hvb, hv2⟩ := hvv
            have hr := w5.2.2.2.1 (Or.inr hst)
            have h6 := wC.1
            have h10 := (v4 (m (100 + (c : Int)) 3) hr.1 (by omega)).1
            refine a_ald0 eX5_turnRing_32 ?_
            refine a_getR 3 (21 + 2) eX5_turnRing_33 fl_X5_19 rfl rfl (sh_day (Or.inl rfl)) ((congrFun (congrFun hR _) _).trans (rf_day_3 (Or.inl rfl))) ?_
            refine a_ald0 eX5_turnRing_36 ?_
            refine a_getR 2 (21 + 1) eX5_turnRing_37 fl_X5_11 rfl rfl (sh_day (Or.inl rfl)) ((congrFun (congrFun hR _) _).trans (rf_day_2 (Or.inl rfl))) ?_
            refine a_ild3 eX5_turnRing_40 ?_
            refine a_aald _ eX5_turnRing_41 (sh_day_1 (Or.inl rfl)) rfl rfl rfl (by omega) ((congrFun (congrFun hR _) _).trans (rf_cab (Or.inl rfl) (by omega))) ?_
            refine a_getI 3 eX5_turnRing_42 fl_X5_77 rfl rfl (sh_cab (Or.inl rfl) (by omega)) ?_
            refine a_eqtop (y0 := m (100 + (c : Int)) 3) (by have := hD1.2.2.2.2.1 (c : Int) 3 (by omega) (by rw [clr_o (by omega)]; omega) (by omega) (by omega); rw [clr_o (by omega), show (0 : Int) + 100 + (c : Int) = 100 + (c : Int) by omega] at this; exact this) ?_
            refine a_aald _ eX5_turnRing_45 (sh_day_2 (Or.inl rfl)) rfl rfl rfl (by omega) ((congrFun (congrFun hR _) _).trans (rf_row (Or.inl rfl) (by omega))) ?_
            refine a_ild4 eX5_turnRing_46 ?_
            refine a_iconst eX5_turnRing_48 ?_
            refine a_iast eX5_turnRing_49 (sh_row (Or.inl rfl) (by omega)) rfl (by omega) ?_
            refine a_iinc3 eX5_turnRing_50 (by decide) aw_n2i ?_
            refine a_goto 2 eX5_turnRing_53 (by decide) ?_
            rw [show (c : Int) + 1 = (((c + 1 : Nat) : Nat) : Int) by omega]
            exact ih (c + 1) _ _ (by omega) (by omega) (frC_tr f1 ⟨fun b j q => rd_si_ne (by omega), rfl⟩) (by rw [show (((c + 1 : Nat) : Nat) : Int) = (c : Int) + 1 by omega]; exact dayC_clr wC wD hD1 (by omega) hSc hst hvb hv2)
      · skip
        dsimp only [Option.toList, List.cons_append, List.nil_append]
        (try have hvb0 := pir_b (S := S) wC wD (by omega) hU12 hv)
        refine a_ist4 eX5_turnRing_15 (by decide) aw_n2i ?_
        refine a_ild2 eX5_turnRing_17 ?_
        refine a_ild3 eX5_turnRing_18 ?_
        refine a_ishr ((S / 2 ^ c : Nat) : Int) eX5_turnRing_19 (jtb1 (by omega) (by omega)) ?_
        refine a_iconst eX5_turnRing_20 ?_
        refine a_iand ((tb S c : Nat) : Int) eX5_turnRing_21 (jtb2 S c) ?_
        refine a_iconst eX5_turnRing_22 ?_
        refine a_icmp_ne 50 eX5_turnRing_23 (by decide) (by omega) (fun hT23 => ?_) (fun hF23 => ?_)
        · skip
          refine a_iinc3 eX5_turnRing_50 (by decide) aw_n2i ?_
          refine a_goto 2 eX5_turnRing_53 (by decide) ?_
          have hSc : S.testBit c = false := tb_f.mpr (by omega)
          rw [show (c : Int) + 1 = (((c + 1 : Nat) : Nat) : Int) by omega]
          exact ih (c + 1) σ1 _ (by omega) (by omega) f1 (by rw [show (((c + 1 : Nat) : Nat) : Int) = (c : Int) + 1 by omega, clr_n hSc]; exact hD1)
        · skip
          have hSc : S.testBit c = true := (tb_i S c).mpr (by omega)
          have hst : m (100 + (c : Int)) 1 = 2 := by
            have r9 : wsm m c = m (100 + (c : Int)) 9 := rfl
            rcases w5.2.2.2.2.2.2.2.2.2.2.2.2.1 with z | z
            · exact absurd (r9.trans z) (hp c hSc).2
            · exact z.1
          refine a_ild4 eX5_turnRing_26 ?_
          refine a_iconst eX5_turnRing_28 ?_
          refine a_icmp_eq 50 eX5_turnRing_29 (by decide) (by omega) (fun _ => ?_) (fun h => absurd h (by decide))
          refine a_iinc3 eX5_turnRing_50 (by decide) aw_n2i ?_
          refine a_goto 2 eX5_turnRing_53 (by decide) ?_
          exact absurd (by rw [clr_o (by omega)]; exact hst) hF12

set_option maxHeartbeats 4000000 in
set_option maxRecDepth 100000 in
theorem c_X5_turnRing {l : Launch} {σ : aw_S} {Post : Option Value → aw_S → Prop} {a : Nat} (ha : isCity a) {tw cs : Bool} (hR : σ.2.2 = RF tw cs) {m : mS} {N : Int} (hC : cityC σ a m) (wC : wfCity m) (hD : dayC σ 21 0 m) (wD : wfDay m 0 N) {S : Nat} (hS6 : S < 65536) (hp : isHp (rkm m) (wsm m) S (m 0 4).toNat) (hg : isRg (rkm m) (wsm m) S (m 0 4).toNat) (hk : ∀ σ', dayC σ' 21 0 (mturn m S) → frC σ σ' → Post none σ')  : AE l yX5_turnRing cX5_turnRing 5 (none : Option Jvm.ClassFile.FieldType) 4 87 0 0 SH SH σ [.ref 21, .ref a, .int (jI (S : Int))] Post := by
  show AW l yX5_turnRing cX5_turnRing 5 (none : Option Jvm.ClassFile.FieldType) 4 87 0 0 SH Post SH 0 0 σ 0 [some (.ref 21), some (.ref a), some (.int (jI (S : Int))), none, none] []
  have v2 := (wfDay_0 wD).2.1
  refine a_iconst eX5_turnRing_0 ?_
  refine a_ist3 eX5_turnRing_1 (by decide) aw_n2i ?_
  refine lp_tr1 ha hR hC wC hD wD hS6 hp hg hk _ 0 σ none (Nat.le_refl _) (by omega) (frC_rf σ) ?_
  have e9 : clr m S ((0 : Nat) : Int) = m := by
    funext x j
    unfold clr
    by_cases q : (200 ≤ x ∧ x < 206) ∧ (0 ≤ j ∧ j < m 10 (x - 200))
    · have := ((wfDay_0 wD).2.2.2.2.2.1 (x - 200) j (by omega) (by omega) q.2.1 q.2.2).1
      rw [show 200 + (x - 200) = x by omega] at this
      exact if_neg (fun z => by have := z.2.2.1; omega)
    · exact if_neg (fun z => q ⟨z.1, z.2.1⟩)
  rw [e9]
  exact hD
