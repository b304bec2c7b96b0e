set_option maxHeartbeats 4000000 in
set_option maxRecDepth 100000 in
theorem c_X9_image {l : Launch} {σ : aw_S} {Post : Option Value → aw_S → Prop} {tw cs : Bool} (hR : σ.2.2 = RF tw cs) {t : Nat} (hct : isCity t) (hrt : RF tw cs 0 1 = some t) {m : mS} (hC : cityC σ t m) (wC : wfCity m) {N : Int} (hD : dayC σ 21 0 m) (wD : wfDay m 0 N) (hN : 0 ≤ N ∧ N ≤ 1000) {k : Int} (hr : (-2147483648 ≤ k ∧ k ≤ 2147483647)) (h1 : vimage m k → ∀ σ', dayC σ' (imd k) 0 m → frD (imd k) σ σ' → Post (some (.int (jI 1))) (aw_si σ' 50 k 1)) (h0 : ¬ vimage m k → Post (some (.int (jI 0))) σ) : AE l yX9_image cX9_image 2 (some .boolean) 2 48 0 0 SH SH σ [.ref 0, .int (jI k)] Post := by
  show AW l yX9_image cX9_image 2 (some .boolean) 2 48 0 0 SH Post SH 0 0 σ 0 [some (.ref 0), some (.int (jI k))] []
  obtain ⟨c1, c2, c3, c4, c5, c6, c7, c8⟩ := id hC
  obtain ⟨w1, w2, w3, w4, w5, w6, w7, w8⟩ := id wC
  obtain ⟨d1, d2, d3, d4, d5, d6, d7⟩ := id hD
  obtain ⟨v1, v2, v3, v4, v5, v6, v7, v8⟩ := id wD
  simp only [Int.zero_add] at d4 d5 d6 d7 v4 v5 v6 v7 v8
  refine a_ald0 eX9_image_0 ?_
  refine a_cV0 eX9_image_1 lk_X9_129 mV_X9_hasCity sh_0 ⟨_, rfl, rfl⟩ mt_X9_hasCity rfl rfl rfl rfl (c_X9_hasCity hR hct hrt hC wC (fun hT1 => ?_) (fun hF1 => ?_))
  · skip
    dsimp only [Option.toList, List.cons_append, List.nil_append]
    refine a_if_eq 16 eX9_image_4 (by decide) (by omega) (fun h => absurd h (by decide)) (fun _ => ?_)
    refine a_ild1 eX9_image_7 ?_
    refine a_iconst eX9_image_8 ?_
    refine a_iconst eX9_image_9 ?_
    refine a_cS3 eX9_image_10 lk_X9_81 mS_X9_within mt_X9_within rfl rfl rfl rfl rfl rfl rfl (c_X9_within (by omega) (fun hT10 => ?_) (fun hF10 => ?_))
    · skip
      dsimp only [Option.toList, List.cons_append, List.nil_append]
      refine a_if_ne 18 eX9_image_13 (by decide) (by omega) (fun _ => ?_) (fun h => absurd h (by decide))
      refine a_ald0 eX9_image_18 ?_
      refine a_getR 3 49 eX9_image_19 fl_X9_30 rfl rfl sh_0 ((congrFun (congrFun hR _) _).trans rf_0_3) ?_
      refine a_ild1 eX9_image_22 ?_
      refine a_aald _ eX9_image_23 sh_49 rfl rfl rfl (by omega) ((congrFun (congrFun hR _) _).trans (rf_im (by omega))) ?_
      refine a_ald0 eX9_image_24 ?_
      refine a_getR 2 21 eX9_image_25 fl_X9_26 rfl rfl sh_0 ((congrFun (congrFun hR _) _).trans rf_0_2) ?_
      refine a_cV1 eX9_image_28 lk_X9_327 mV_X5_copyFrom (sh_day (isDay_im (by omega))) ⟨_, rfl, rfl⟩ mt_X5_copyFrom rfl rfl rfl rfl rfl (c_X5_copyFrom hR (isDay_im (by omega)) (Or.inl rfl) (by unfold imd; omega) hD wD (fun σ1 hD1 fr1 => ?_))
      dsimp only [Option.toList, List.cons_append, List.nil_append]
      have hR : σ1.2.2 = RF tw cs := by rw [fr1.2]; exact hR
      refine a_ald0 eX9_image_31 ?_
      refine a_getR 4 50 eX9_image_32 fl_X9_34 rfl rfl sh_0 ((congrFun (congrFun hR _) _).trans rf_0_4) ?_
      refine a_ild1 eX9_image_35 ?_
      refine a_iconst eX9_image_36 ?_
      refine a_zast eX9_image_37 sh_50 rfl (by omega) ?_
      refine a_iconst eX9_image_38 ?_
      refine a_zret eX9_image_39 rfl (by first | exact Or.inl rfl | exact Or.inr rfl | omega) rfl ⟨Nat.zero_le _, Nat.zero_le _⟩ ?_
      exact h1 ⟨by omega, by omega⟩ σ1 hD1 fr1
    · skip
      dsimp only [Option.toList, List.cons_append, List.nil_append]
      refine a_if_ne 18 eX9_image_13 (by decide) (by omega) (fun h => absurd h (by decide)) (fun _ => ?_)
      refine a_iconst eX9_image_16 ?_
      refine a_zret eX9_image_17 rfl (by first | exact Or.inl rfl | exact Or.inr rfl | omega) rfl ⟨Nat.zero_le _, Nat.zero_le _⟩ ?_
      exact h0 (fun q => by unfold vimage at q; omega)
  · skip
    dsimp only [Option.toList, List.cons_append, List.nil_append]
    refine a_if_eq 16 eX9_image_4 (by decide) (by omega) (fun _ => ?_) (fun h => absurd h (by decide))
    refine a_iconst eX9_image_16 ?_
    refine a_zret eX9_image_17 rfl (by first | exact Or.inl rfl | exact Or.inr rfl | omega) rfl ⟨Nat.zero_le _, Nat.zero_le _⟩ ?_
    exact h0 (fun q => by unfold vimage at q; omega)

set_option maxHeartbeats 4000000 in
set_option maxRecDepth 100000 in
theorem c_X9_back {l : Launch} {σ : aw_S} {Post : Option Value → aw_S → Prop} {tw cs : Bool} (hR : σ.2.2 = RF tw cs) {m : mS} {k N : Int} (hi : ∀ k : Int, 0 ≤ k → k ≤ 2 → σ.1 50 k = m 16 k ∧ (m 16 k = 0 ∨ m 16 k = 1)) (hI : (0 ≤ k ∧ k ≤ 2) → m 16 k = 1 → dayC σ (imd k) (1000 * (k + 1)) m ∧ wfDay m (1000 * (k + 1)) N) (hr : (-2147483648 ≤ k ∧ k ≤ 2147483647)) (h1 : vback m k → ∀ σ', dayC σ' 21 (1000 * (k + 1)) m → frD 21 σ σ' → Post (some (.int (jI 1))) σ') (h0 : ¬ vback m k → Post (some (.int (jI 0))) σ) : AE l yX9_back cX9_back 2 (some .boolean) 2 48 0 0 SH SH σ [.ref 0, .int (jI k)] Post := by
  show AW l yX9_back cX9_back 2 (some .boolean) 2 48 0 0 SH Post SH 0 0 σ 0 [some (.ref 0), some (.int (jI k))] []
  refine a_ild1 eX9_back_0 ?_
  refine a_iconst eX9_back_1 ?_
  refine a_iconst eX9_back_2 ?_
  refine a_cS3 eX9_back_3 lk_X9_81 mS_X9_within mt_X9_within rfl rfl rfl rfl rfl rfl rfl (c_X9_within (by omega) (fun hT3 => ?_) (fun hF3 => ?_))
  · skip
    dsimp only [Option.toList, List.cons_append, List.nil_append]
    refine a_if_eq 18 eX9_back_6 (by decide) (by omega) (fun h => absurd h (by decide)) (fun _ => ?_)
    refine a_ald0 eX9_back_9 ?_
    refine a_getR 4 50 eX9_back_10 fl_X9_34 rfl rfl sh_0 ((congrFun (congrFun hR _) _).trans rf_0_4) ?_
    refine a_ild1 eX9_back_13 ?_
    refine a_zald eX9_back_14 sh_50 rfl (by omega) ?_
    have hik := hi k (by omega) (by omega)
    refine a_eqtop (y0 := m 16 k) (by exact hik.1) ?_
    refine a_if_ne 20 eX9_back_15 (by decide) (by omega) (fun hT15 => ?_) (fun hF15 => ?_)
    · skip
      have hIk := hI (by omega) (by omega)
      refine a_ald0 eX9_back_20 ?_
      refine a_getR 2 21 eX9_back_21 fl_X9_26 rfl rfl sh_0 ((congrFun (congrFun hR _) _).trans rf_0_2) ?_
      refine a_ald0 eX9_back_24 ?_
      refine a_getR 3 49 eX9_back_25 fl_X9_30 rfl rfl sh_0 ((congrFun (congrFun hR _) _).trans rf_0_3) ?_
      refine a_ild1 eX9_back_28 ?_
      refine a_aald _ eX9_back_29 sh_49 rfl rfl rfl (by omega) ((congrFun (congrFun hR _) _).trans (rf_im (by omega))) ?_
      refine a_cV1 eX9_back_30 lk_X9_327 mV_X5_copyFrom (sh_day (Or.inl rfl)) ⟨_, rfl, rfl⟩ mt_X5_copyFrom rfl rfl rfl rfl rfl (c_X5_copyFrom hR (Or.inl rfl) (isDay_im (by omega)) (by unfold imd; omega) hIk.1 hIk.2 (fun σ1 hD1 fr1 => ?_))
      dsimp only [Option.toList, List.cons_append, List.nil_append]
      refine a_iconst eX9_back_33 ?_
      refine a_zret eX9_back_34 rfl (by first | exact Or.inl rfl | exact Or.inr rfl | omega) rfl ⟨Nat.zero_le _, Nat.zero_le _⟩ ?_
      exact h1 ⟨by omega, by omega⟩ σ1 hD1 fr1
    · skip
      refine a_iconst eX9_back_18 ?_
      refine a_zret eX9_back_19 rfl (by first | exact Or.inl rfl | exact Or.inr rfl | omega) rfl ⟨Nat.zero_le _, Nat.zero_le _⟩ ?_
      exact h0 (fun q => by unfold vback at q; omega)
  · skip
    dsimp only [Option.toList, List.cons_append, List.nil_append]
    refine a_if_eq 18 eX9_back_6 (by decide) (by omega) (fun _ => ?_) (fun h => absurd h (by decide))
    refine a_iconst eX9_back_18 ?_
    refine a_zret eX9_back_19 rfl (by first | exact Or.inl rfl | exact Or.inr rfl | omega) rfl ⟨Nat.zero_le _, Nat.zero_le _⟩ ?_
    exact h0 (fun q => by unfold vback at q; omega)

/-- an image's day, as the reference has it -/
def dayMi (σ : aw_S) (k b : Int) (m : mS) : Prop := dayG (σ.1 193 k) (σ.1 194 k) (σ.1 198 k) (fun j => σ.1 195 (176 * k + j)) (fun j => σ.1 196 (108 * k + j)) (fun j => σ.1 197 (6 * k + j)) (fun j => σ.1 200 (6 * k + j)) (fun j => σ.1 199 (200 * k + j)) b m
theorem dayG_cong {mn nc np : Int} {cab stand stands people pass cab' stand' stands' people' pass' : Int → Int} {b : Int} {m : mS} (h4 : m b 4 ≤ 16) (h5 : m b 5 ≤ 40) (hs : ∀ r : Int, 0 ≤ r → r < 6 → m (b + 10) r ≤ 16) (h : dayG mn nc np cab stand stands people pass b m) (e1 : ∀ j : Int, 0 ≤ j → j < 176 → cab' j = cab j) (e2 : ∀ j : Int, 0 ≤ j → j < 108 → stand' j = stand j) (e3 : ∀ j : Int, 0 ≤ j → j < 6 → stands' j = stands j) (e4 : ∀ j : Int, 0 ≤ j → j < 6 → people' j = people j) (e5 : ∀ j : Int, 0 ≤ j → j < 200 → pass' j = pass j) : dayG mn nc np cab' stand' stands' people' pass' b m := by
  obtain ⟨d1, d2, d3, d4, d5, d6, d7⟩ := h
  refine ⟨d1, d2, d3, fun r r1 r2 => ?_, fun c c1 c2 => ?_, fun r k r1 r2 k1 k2 => ?_, fun i w i1 i2 w1 w2 => ?_⟩
  · rw [e3 r r1 r2, e4 r r1 r2]; exact d4 r r1 r2
  · have := d5 c c1 c2
    unfold cabM at this ⊢
    rw [e1 (11 * c) (by omega) (by omega), e1 (11 * c + 9) (by omega) (by omega), e1 (11 * c + 1) (by omega) (by omega), e1 (11 * c + 2) (by omega) (by omega), e1 (11 * c + 3) (by omega) (by omega), e1 (11 * c + 4) (by omega) (by omega), e1 (11 * c + 5) (by omega) (by omega), e1 (11 * c + 6) (by omega) (by omega), e1 (11 * c + 7) (by omega) (by omega), e1 (11 * c + 8) (by omega) (by omega), e1 (11 * c + 10) (by omega) (by omega)]
    exact this
  · have := hs r r1 r2
    rw [e2 _ (by omega) (by omega)]; exact d6 r k r1 r2 k1 k2
  · rw [e5 _ (by omega) (by omega)]; exact d7 i w i1 i2 w1 w2
set_option maxHeartbeats 4000000 in
set_option maxRecDepth 100000 in
theorem lp_im0 {l : Launch} {σ : aw_S} {Post : Option Value → aw_S → Prop} {tw cs : Bool} (hR : σ.2.2 = RF tw cs) {k : Int} (hk0 : 0 ≤ k ∧ k ≤ 2) (hk : AW l yX10_image cX10_image 3 (some .boolean) 1 22 0 0 SH Post SH 0 0 (aw_sa (σ) 195 (fun j => if 176 * k ≤ j ∧ j < 176 * k + 176 then σ.1 182 (j - 176 * k) else σ.1 195 j)) 88 [some (.ref 171), some (.int (jI k)), some (.int (jI 176))] [])  : ∀ (n : Nat) (i : Int), ((176 - i).toNat ≤ n) → (0 ≤ i ∧ i ≤ 176) → AW l yX10_image cX10_image 3 (some .boolean) 1 22 0 0 SH Post SH 0 0 (aw_sa (σ) 195 (fun j => if 176 * k ≤ j ∧ j < 176 * k + i then σ.1 182 (j - 176 * k) else σ.1 195 j)) 57 [some (.ref 171), some (.int (jI k)), some (.int (jI i))] [] := by
  intro n
  induction n with
  | zero =>
    intro i hm hi
    refine a_ild2 eX10_image_57 ?_
    refine a_sipush eX10_image_58 (by decide) ?_
    refine a_icmp_ge 88 eX10_image_61 (by decide) (by omega) (fun hT61 => ?_) (fun hF61 => ?_)
    · skip
      rw [show i = 176 by omega]
      exact hk
    · skip
      exfalso; omega
  | succ n ih =>
    intro i hm hi
    refine a_ild2 eX10_image_57 ?_
    refine a_sipush eX10_image_58 (by decide) ?_
    refine a_icmp_ge 88 eX10_image_61 (by decide) (by omega) (fun hT61 => ?_) (fun hF61 => ?_)
    · skip
      rw [show i = 176 by omega]
      exact hk
    · skip
      refine a_ald0 eX10_image_64 ?_
      refine a_getR 38 195 eX10_image_65 fl_X10_82 rfl rfl sh_171 ((congrFun (congrFun hR _) _).trans rf_171_38) ?_
      refine a_sipush eX10_image_68 (by decide) ?_
      refine a_ild1 eX10_image_71 ?_
      refine a_imul eX10_image_72 ?_
      refine a_ild2 eX10_image_73 ?_
      refine a_iadd eX10_image_74 ?_
      refine a_ald0 eX10_image_75 ?_
      refine a_getR 23 182 eX10_image_76 fl_X10_42 rfl rfl sh_171 ((congrFun (congrFun hR _) _).trans rf_171_23) ?_
      refine a_ild2 eX10_image_79 ?_
      refine a_iald eX10_image_80 sh_182 rfl (by omega) ?_
      refine a_eqtop (y0 := σ.1 182 i) (by simp only [rd_si, rd_sa, and_self, true_and, and_true, ↓reduceIte]; (repeat (first | rw [if_pos (by omega)] | rw [if_neg (by omega)] | rw [if_pos True.intro])); (try rfl)) ?_
      refine a_iast eX10_image_81 sh_195 rfl (by omega) ?_
      refine a_iinc2 eX10_image_82 (by decide) aw_n2i ?_
      refine a_goto 57 eX10_image_85 (by decide) ?_
      refine AW.st (?_ : _ = aw_sa (σ) 195 (fun j => if 176 * k ≤ j ∧ j < 176 * k + (i + 1) then σ.1 182 (j - 176 * k) else σ.1 195 j)) (ih (i + 1) (by omega) (by omega))
      refine Prod.ext (funext fun b => funext fun j => ?_) rfl
      simp only [rd_si, rd_sa]
      by_cases z0 : b = 195
      · subst z0
        simp only [true_and, ↓reduceIte, if_true]
        by_cases q1 : j = 176 * k + i
        · subst q1; (repeat (first | rw [if_pos (by omega)] | rw [if_neg (by omega)])); (try rw [show (176 * k + i - 176 * k : Int) = i by omega])
        · by_cases q2 : 176 * k ≤ j ∧ j < 176 * k + i
          · (repeat (first | rw [if_pos (by omega)] | rw [if_neg (by omega)]))
          · (repeat (first | rw [if_pos (by omega)] | rw [if_neg (by omega)]))
      (repeat (first | rw [if_pos (by omega)] | rw [if_neg (by omega)]))

set_option maxHeartbeats 4000000 in
set_option maxRecDepth 100000 in
theorem lp_im1 {l : Launch} {σ : aw_S} {Post : Option Value → aw_S → Prop} {tw cs : Bool} (hR : σ.2.2 = RF tw cs) {k : Int} (hk0 : 0 ≤ k ∧ k ≤ 2) (hk : AW l yX10_image cX10_image 3 (some .boolean) 1 22 0 0 SH Post SH 0 0 (aw_sa (σ) 196 (fun j => if 108 * k ≤ j ∧ j < 108 * k + 108 then σ.1 183 (j - 108 * k) else σ.1 196 j)) 119 [some (.ref 171), some (.int (jI k)), some (.int (jI 108))] [])  : ∀ (n : Nat) (i : Int), ((108 - i).toNat ≤ n) → (0 ≤ i ∧ i ≤ 108) → AW l yX10_image cX10_image 3 (some .boolean) 1 22 0 0 SH Post SH 0 0 (aw_sa (σ) 196 (fun j => if 108 * k ≤ j ∧ j < 108 * k + i then σ.1 183 (j - 108 * k) else σ.1 196 j)) 90 [some (.ref 171), some (.int (jI k)), some (.int (jI i))] [] := by
  intro n
  induction n with
  | zero =>
    intro i hm hi
    refine a_ild2 eX10_image_90 ?_
    refine a_bipush eX10_image_91 (by decide) ?_
    refine a_icmp_ge 119 eX10_image_93 (by decide) (by omega) (fun hT93 => ?_) (fun hF93 => ?_)
    · skip
      rw [show i = 108 by omega]
      exact hk
    · skip
      exfalso; omega
  | succ n ih =>
    intro i hm hi
    refine a_ild2 eX10_image_90 ?_
    refine a_bipush eX10_image_91 (by decide) ?_
    refine a_icmp_ge 119 eX10_image_93 (by decide) (by omega) (fun hT93 => ?_) (fun hF93 => ?_)
    · skip
      rw [show i = 108 by omega]
      exact hk
    · skip
      refine a_ald0 eX10_image_96 ?_
      refine a_getR 39 196 eX10_image_97 fl_X10_85 rfl rfl sh_171 ((congrFun (congrFun hR _) _).trans rf_171_39) ?_
      refine a_bipush eX10_image_100 (by decide) ?_
      refine a_ild1 eX10_image_102 ?_
      refine a_imul eX10_image_103 ?_
      refine a_ild2 eX10_image_104 ?_
      refine a_iadd eX10_image_105 ?_
      refine a_ald0 eX10_image_106 ?_
      refine a_getR 24 183 eX10_image_107 fl_X10_45 rfl rfl sh_171 ((congrFun (congrFun hR _) _).trans rf_171_24) ?_
      refine a_ild2 eX10_image_110 ?_
      refine a_iald eX10_image_111 sh_183 rfl (by omega) ?_
      refine a_eqtop (y0 := σ.1 183 i) (by simp only [rd_si, rd_sa, and_self, true_and, and_true, ↓reduceIte]; (repeat (first | rw [if_pos (by omega)] | rw [if_neg (by omega)] | rw [if_pos True.intro])); (try rfl)) ?_
      refine a_iast eX10_image_112 sh_196 rfl (by omega) ?_
      refine a_iinc2 eX10_image_113 (by decide) aw_n2i ?_
      refine a_goto 90 eX10_image_116 (by decide) ?_
      refine AW.st (?_ : _ = aw_sa (σ) 196 (fun j => if 108 * k ≤ j ∧ j < 108 * k + (i + 1) then σ.1 183 (j - 108 * k) else σ.1 196 j)) (ih (i + 1) (by omega) (by omega))
      refine Prod.ext (funext fun b => funext fun j => ?_) rfl
      simp only [rd_si, rd_sa]
      by_cases z0 : b = 196
      · subst z0
        simp only [true_and, ↓reduceIte, if_true]
        by_cases q1 : j = 108 * k + i
        · subst q1; (repeat (first | rw [if_pos (by omega)] | rw [if_neg (by omega)])); (try rw [show (108 * k + i - 108 * k : Int) = i by omega])
        · by_cases q2 : 108 * k ≤ j ∧ j < 108 * k + i
          · (repeat (first | rw [if_pos (by omega)] | rw [if_neg (by omega)]))
          · (repeat (first | rw [if_pos (by omega)] | rw [if_neg (by omega)]))
      (repeat (first | rw [if_pos (by omega)] | rw [if_neg (by omega)]))

set_option maxHeartbeats 4000000 in
set_option maxRecDepth 100000 in
theorem lp_im2 {l : Launch} {σ : aw_S} {Post : Option Value → aw_S → Prop} {tw cs : Bool} (hR : σ.2.2 = RF tw cs) {k : Int} (hk0 : 0 ≤ k ∧ k ≤ 2) (hk : AW l yX10_image cX10_image 3 (some .boolean) 1 22 0 0 SH Post SH 0 0 (aw_sa (aw_sa (σ) 197 (fun j => if 6 * k ≤ j ∧ j < 6 * k + 6 then σ.1 184 (j - 6 * k) else σ.1 197 j)) 200 (fun j => if 6 * k ≤ j ∧ j < 6 * k + 6 then σ.1 186 (j - 6 * k) else σ.1 200 j)) 167 [some (.ref 171), some (.int (jI k)), some (.int (jI 6))] [])  : ∀ (n : Nat) (i : Int), ((6 - i).toNat ≤ n) → (0 ≤ i ∧ i ≤ 6) → AW l yX10_image cX10_image 3 (some .boolean) 1 22 0 0 SH Post SH 0 0 (aw_sa (aw_sa (σ) 197 (fun j => if 6 * k ≤ j ∧ j < 6 * k + i then σ.1 184 (j - 6 * k) else σ.1 197 j)) 200 (fun j => if 6 * k ≤ j ∧ j < 6 * k + i then σ.1 186 (j - 6 * k) else σ.1 200 j)) 121 [some (.ref 171), some (.int (jI k)), some (.int (jI i))] [] := by
  intro n
  induction n with
  | zero =>
    intro i hm hi
    refine a_ild2 eX10_image_121 ?_
    refine a_bipush eX10_image_122 (by decide) ?_
    refine a_icmp_ge 167 eX10_image_124 (by decide) (by omega) (fun hT124 => ?_) (fun hF124 => ?_)
    · skip
      rw [show i = 6 by omega]
      exact hk
    · skip
      exfalso; omega
  | succ n ih =>
    intro i hm hi
    refine a_ild2 eX10_image_121 ?_
    refine a_bipush eX10_image_122 (by decide) ?_
    refine a_icmp_ge 167 eX10_image_124 (by decide) (by omega) (fun hT124 => ?_) (fun hF124 => ?_)
    · skip
      rw [show i = 6 by omega]
      exact hk
    · skip
      refine a_ald0 eX10_image_127 ?_
      refine a_getR 40 197 eX10_image_128 fl_X10_88 rfl rfl sh_171 ((congrFun (congrFun hR _) _).trans rf_171_40) ?_
      refine a_bipush eX10_image_131 (by decide) ?_
      refine a_ild1 eX10_image_133 ?_
      refine a_imul eX10_image_134 ?_
      refine a_ild2 eX10_image_135 ?_
      refine a_iadd eX10_image_136 ?_
      refine a_ald0 eX10_image_137 ?_
      refine a_getR 25 184 eX10_image_138 fl_X10_48 rfl rfl sh_171 ((congrFun (congrFun hR _) _).trans rf_171_25) ?_
      refine a_ild2 eX10_image_141 ?_
      refine a_iald eX10_image_142 sh_184 rfl (by omega) ?_
      refine a_eqtop (y0 := σ.1 184 i) (by simp only [rd_si, rd_sa, and_self, true_and, and_true, ↓reduceIte]; (repeat (first | rw [if_pos (by omega)] | rw [if_neg (by omega)] | rw [if_pos True.intro])); (try rfl)) ?_
      refine a_iast eX10_image_143 sh_197 rfl (by omega) ?_
      refine a_ald0 eX10_image_144 ?_
      refine a_getR 43 200 eX10_image_145 fl_X10_97 rfl rfl sh_171 ((congrFun (congrFun hR _) _).trans rf_171_43) ?_
      refine a_bipush eX10_image_148 (by decide) ?_
      refine a_ild1 eX10_image_150 ?_
      refine a_imul eX10_image_151 ?_
      refine a_ild2 eX10_image_152 ?_
      refine a_iadd eX10_image_153 ?_
      refine a_ald0 eX10_image_154 ?_
      refine a_getR 28 186 eX10_image_155 fl_X10_54 rfl rfl sh_171 ((congrFun (congrFun hR _) _).trans rf_171_28) ?_
      refine a_ild2 eX10_image_158 ?_
      refine a_iald eX10_image_159 sh_186 rfl (by omega) ?_
      refine a_eqtop (y0 := σ.1 186 i) (by simp only [rd_si, rd_sa, and_self, true_and, and_true, ↓reduceIte]; (repeat (first | rw [if_pos (by omega)] | rw [if_neg (by omega)] | rw [if_pos True.intro])); (try rfl)) ?_
      refine a_iast eX10_image_160 sh_200 rfl (by omega) ?_
      refine a_iinc2 eX10_image_161 (by decide) aw_n2i ?_
      refine a_goto 121 eX10_image_164 (by decide) ?_
      refine AW.st (?_ : _ = aw_sa (aw_sa (σ) 197 (fun j => if 6 * k ≤ j ∧ j < 6 * k + (i + 1) then σ.1 184 (j - 6 * k) else σ.1 197 j)) 200 (fun j => if 6 * k ≤ j ∧ j < 6 * k + (i + 1) then σ.1 186 (j - 6 * k) else σ.1 200 j)) (ih (i + 1) (by omega) (by omega))
      refine Prod.ext (funext fun b => funext fun j => ?_) rfl
      simp only [rd_si, rd_sa]
      by_cases z0 : b = 200
      · subst z0
        simp only [true_and, ↓reduceIte, if_true]
        by_cases q1 : j = 6 * k + i
        · subst q1; (repeat (first | rw [if_pos (by omega)] | rw [if_neg (by omega)])); (try rw [show (6 * k + i - 6 * k : Int) = i by omega])
        · by_cases q2 : 6 * k ≤ j ∧ j < 6 * k + i
          · (repeat (first | rw [if_pos (by omega)] | rw [if_neg (by omega)]))
          · (repeat (first | rw [if_pos (by omega)] | rw [if_neg (by omega)]))
      by_cases z1 : b = 197
      · subst z1
        simp only [true_and, ↓reduceIte, if_true]
        by_cases q1 : j = 6 * k + i
        · subst q1; (repeat (first | rw [if_pos (by omega)] | rw [if_neg (by omega)])); (try rw [show (6 * k + i - 6 * k : Int) = i by omega])
        · by_cases q2 : 6 * k ≤ j ∧ j < 6 * k + i
          · (repeat (first | rw [if_pos (by omega)] | rw [if_neg (by omega)]))
          · (repeat (first | rw [if_pos (by omega)] | rw [if_neg (by omega)]))
      (repeat (first | rw [if_pos (by omega)] | rw [if_neg (by omega)]))

set_option maxHeartbeats 4000000 in
set_option maxRecDepth 100000 in
theorem lp_im3 {l : Launch} {σ : aw_S} {Post : Option Value → aw_S → Prop} {tw cs : Bool} (hR : σ.2.2 = RF tw cs) {k : Int} (hk0 : 0 ≤ k ∧ k ≤ 2) (hk : AW l yX10_image cX10_image 3 (some .boolean) 1 22 0 0 SH Post SH 0 0 (aw_sa (σ) 199 (fun j => if 200 * k ≤ j ∧ j < 200 * k + 200 then σ.1 185 (j - 200 * k) else σ.1 199 j)) 200 [some (.ref 171), some (.int (jI k)), some (.int (jI 200))] [])  : ∀ (n : Nat) (i : Int), ((200 - i).toNat ≤ n) → (0 ≤ i ∧ i ≤ 200) → AW l yX10_image cX10_image 3 (some .boolean) 1 22 0 0 SH Post SH 0 0 (aw_sa (σ) 199 (fun j => if 200 * k ≤ j ∧ j < 200 * k + i then σ.1 185 (j - 200 * k) else σ.1 199 j)) 169 [some (.ref 171), some (.int (jI k)), some (.int (jI i))] [] := by
  intro n
  induction n with
  | zero =>
    intro i hm hi
    refine a_ild2 eX10_image_169 ?_
    refine a_sipush eX10_image_170 (by decide) ?_
    refine a_icmp_ge 200 eX10_image_173 (by decide) (by omega) (fun hT173 => ?_) (fun hF173 => ?_)
    · skip
      rw [show i = 200 by omega]
      exact hk
    · skip
      exfalso; omega
  | succ n ih =>
    intro i hm hi
    refine a_ild2 eX10_image_169 ?_
    refine a_sipush eX10_image_170 (by decide) ?_
    refine a_icmp_ge 200 eX10_image_173 (by decide) (by omega) (fun hT173 => ?_) (fun hF173 => ?_)
    · skip
      rw [show i = 200 by omega]
      exact hk
    · skip
      refine a_ald0 eX10_image_176 ?_
      refine a_getR 42 199 eX10_image_177 fl_X10_94 rfl rfl sh_171 ((congrFun (congrFun hR _) _).trans rf_171_42) ?_
      refine a_sipush eX10_image_180 (by decide) ?_
      refine a_ild1 eX10_image_183 ?_
      refine a_imul eX10_image_184 ?_
      refine a_ild2 eX10_image_185 ?_
      refine a_iadd eX10_image_186 ?_
      refine a_ald0 eX10_image_187 ?_
      refine a_getR 27 185 eX10_image_188 fl_X10_51 rfl rfl sh_171 ((congrFun (congrFun hR _) _).trans rf_171_27) ?_
      refine a_ild2 eX10_image_191 ?_
      refine a_iald eX10_image_192 sh_185 rfl (by omega) ?_
      refine a_eqtop (y0 := σ.1 185 i) (by simp only [rd_si, rd_sa, and_self, true_and, and_true, ↓reduceIte]; (repeat (first | rw [if_pos (by omega)] | rw [if_neg (by omega)] | rw [if_pos True.intro])); (try rfl)) ?_
      refine a_iast eX10_image_193 sh_199 rfl (by omega) ?_
      refine a_iinc2 eX10_image_194 (by decide) aw_n2i ?_
      refine a_goto 169 eX10_image_197 (by decide) ?_
      refine AW.st (?_ : _ = aw_sa (σ) 199 (fun j => if 200 * k ≤ j ∧ j < 200 * k + (i + 1) then σ.1 185 (j - 200 * k) else σ.1 199 j)) (ih (i + 1) (by omega) (by omega))
      refine Prod.ext (funext fun b => funext fun j => ?_) rfl
      simp only [rd_si, rd_sa]
      by_cases z0 : b = 199
      · subst z0
        simp only [true_and, ↓reduceIte, if_true]
        by_cases q1 : j = 200 * k + i
        · subst q1; (repeat (first | rw [if_pos (by omega)] | rw [if_neg (by omega)])); (try rw [show (200 * k + i - 200 * k : Int) = i by omega])
        · by_cases q2 : 200 * k ≤ j ∧ j < 200 * k + i
          · (repeat (first | rw [if_pos (by omega)] | rw [if_neg (by omega)]))
          · (repeat (first | rw [if_pos (by omega)] | rw [if_neg (by omega)]))
      (repeat (first | rw [if_pos (by omega)] | rw [if_neg (by omega)]))

set_option maxHeartbeats 4000000 in
set_option maxRecDepth 100000 in
theorem lp_bk0 {l : Launch} {σ : aw_S} {Post : Option Value → aw_S → Prop} {tw cs : Bool} (hR : σ.2.2 = RF tw cs) {k : Int} (hk0 : 0 ≤ k ∧ k ≤ 2) (hk : AW l yX10_back cX10_back 3 (some .boolean) 1 22 0 0 SH Post SH 0 0 (aw_sa (σ) 182 (fun j => if 0 ≤ j ∧ j < 176 then σ.1 195 (176 * k + j) else σ.1 182 j)) 83 [some (.ref 171), some (.int (jI k)), some (.int (jI 176))] [])  : ∀ (n : Nat) (i : Int), ((176 - i).toNat ≤ n) → (0 ≤ i ∧ i ≤ 176) → AW l yX10_back cX10_back 3 (some .boolean) 1 22 0 0 SH Post SH 0 0 (aw_sa (σ) 182 (fun j => if 0 ≤ j ∧ j < i then σ.1 195 (176 * k + j) else σ.1 182 j)) 52 [some (.ref 171), some (.int (jI k)), some (.int (jI i))] [] := by
  intro n
  induction n with
  | zero =>
    intro i hm hi
    refine a_ild2 eX10_back_52 ?_
    refine a_sipush eX10_back_53 (by decide) ?_
    refine a_icmp_ge 83 eX10_back_56 (by decide) (by omega) (fun hT56 => ?_) (fun hF56 => ?_)
    · skip
      rw [show i = 176 by omega]
      exact hk
    · skip
      exfalso; omega
  | succ n ih =>
    intro i hm hi
    refine a_ild2 eX10_back_52 ?_
    refine a_sipush eX10_back_53 (by decide) ?_
    refine a_icmp_ge 83 eX10_back_56 (by decide) (by omega) (fun hT56 => ?_) (fun hF56 => ?_)
    · skip
      rw [show i = 176 by omega]
      exact hk
    · skip
      refine a_ald0 eX10_back_59 ?_
      refine a_getR 23 182 eX10_back_60 fl_X10_42 rfl rfl sh_171 ((congrFun (congrFun hR _) _).trans rf_171_23) ?_
      refine a_ild2 eX10_back_63 ?_
      refine a_ald0 eX10_back_64 ?_
      refine a_getR 38 195 eX10_back_65 fl_X10_82 rfl rfl sh_171 ((congrFun (congrFun hR _) _).trans rf_171_38) ?_
      refine a_sipush eX10_back_68 (by decide) ?_
      refine a_ild1 eX10_back_71 ?_
      refine a_imul eX10_back_72 ?_
      refine a_ild2 eX10_back_73 ?_
      refine a_iadd eX10_back_74 ?_
      refine a_iald eX10_back_75 sh_195 rfl (by omega) ?_
      refine a_eqtop (y0 := σ.1 195 (176 * k + i)) (by simp only [rd_si, rd_sa, and_self, true_and, and_true, ↓reduceIte]; (repeat (first | rw [if_pos (by omega)] | rw [if_neg (by omega)] | rw [if_pos True.intro])); (try rfl)) ?_
      refine a_iast eX10_back_76 sh_182 rfl (by omega) ?_
      refine a_iinc2 eX10_back_77 (by decide) aw_n2i ?_
      refine a_goto 52 eX10_back_80 (by decide) ?_
      refine AW.st (?_ : _ = aw_sa (σ) 182 (fun j => if 0 ≤ j ∧ j < i + 1 then σ.1 195 (176 * k + j) else σ.1 182 j)) (ih (i + 1) (by omega) (by omega))
      refine Prod.ext (funext fun b => funext fun j => ?_) rfl
      simp only [rd_si, rd_sa]
      by_cases z0 : b = 182
      · subst z0
        simp only [true_and, ↓reduceIte, if_true]
        by_cases q1 : j = i
        · subst q1; (repeat (first | rw [if_pos (by omega)] | rw [if_neg (by omega)])); (try rw [show (176 * k + i - 176 * k : Int) = i by omega])
        · by_cases q2 : 0 ≤ j ∧ j < i
          · (repeat (first | rw [if_pos (by omega)] | rw [if_neg (by omega)]))
          · (repeat (first | rw [if_pos (by omega)] | rw [if_neg (by omega)]))
      (repeat (first | rw [if_pos (by omega)] | rw [if_neg (by omega)]))

set_option maxHeartbeats 4000000 in
set_option maxRecDepth 100000 in
theorem lp_bk1 {l : Launch} {σ : aw_S} {Post : Option Value → aw_S → Prop} {tw cs : Bool} (hR : σ.2.2 = RF tw cs) {k : Int} (hk0 : 0 ≤ k ∧ k ≤ 2) (hk : AW l yX10_back cX10_back 3 (some .boolean) 1 22 0 0 SH Post SH 0 0 (aw_sa (σ) 183 (fun j => if 0 ≤ j ∧ j < 108 then σ.1 196 (108 * k + j) else σ.1 183 j)) 114 [some (.ref 171), some (.int (jI k)), some (.int (jI 108))] [])  : ∀ (n : Nat) (i : Int), ((108 - i).toNat ≤ n) → (0 ≤ i ∧ i ≤ 108) → AW l yX10_back cX10_back 3 (some .boolean) 1 22 0 0 SH Post SH 0 0 (aw_sa (σ) 183 (fun j => if 0 ≤ j ∧ j < i then σ.1 196 (108 * k + j) else σ.1 183 j)) 85 [some (.ref 171), some (.int (jI k)), some (.int (jI i))] [] := by
  intro n
  induction n with
  | zero =>
    intro i hm hi
    refine a_ild2 eX10_back_85 ?_
    refine a_bipush eX10_back_86 (by decide) ?_
    refine a_icmp_ge 114 eX10_back_88 (by decide) (by omega) (fun hT88 => ?_) (fun hF88 => ?_)
    · skip
      rw [show i = 108 by omega]
      exact hk
    · skip
      exfalso; omega
  | succ n ih =>
    intro i hm hi
    refine a_ild2 eX10_back_85 ?_
    refine a_bipush eX10_back_86 (by decide) ?_
    refine a_icmp_ge 114 eX10_back_88 (by decide) (by omega) (fun hT88 => ?_) (fun hF88 => ?_)
    · skip
      rw [show i = 108 by omega]
      exact hk
    · skip
      refine a_ald0 eX10_back_91 ?_
      refine a_getR 24 183 eX10_back_92 fl_X10_45 rfl rfl sh_171 ((congrFun (congrFun hR _) _).trans rf_171_24) ?_
      refine a_ild2 eX10_back_95 ?_
      refine a_ald0 eX10_back_96 ?_
      refine a_getR 39 196 eX10_back_97 fl_X10_85 rfl rfl sh_171 ((congrFun (congrFun hR _) _).trans rf_171_39) ?_
      refine a_bipush eX10_back_100 (by decide) ?_
      refine a_ild1 eX10_back_102 ?_
      refine a_imul eX10_back_103 ?_
      refine a_ild2 eX10_back_104 ?_
      refine a_iadd eX10_back_105 ?_
      refine a_iald eX10_back_106 sh_196 rfl (by omega) ?_
      refine a_eqtop (y0 := σ.1 196 (108 * k + i)) (by simp only [rd_si, rd_sa, and_self, true_and, and_true, ↓reduceIte]; (repeat (first | rw [if_pos (by omega)] | rw [if_neg (by omega)] | rw [if_pos True.intro])); (try rfl)) ?_
      refine a_iast eX10_back_107 sh_183 rfl (by omega) ?_
      refine a_iinc2 eX10_back_108 (by decide) aw_n2i ?_
      refine a_goto 85 eX10_back_111 (by decide) ?_
      refine AW.st (?_ : _ = aw_sa (σ) 183 (fun j => if 0 ≤ j ∧ j < i + 1 then σ.1 196 (108 * k + j) else σ.1 183 j)) (ih (i + 1) (by omega) (by omega))
      refine Prod.ext (funext fun b => funext fun j => ?_) rfl
      simp only [rd_si, rd_sa]
      by_cases z0 : b = 183
      · subst z0
        simp only [true_and, ↓reduceIte, if_true]
        by_cases q1 : j = i
        · subst q1; (repeat (first | rw [if_pos (by omega)] | rw [if_neg (by omega)])); (try rw [show (108 * k + i - 108 * k : Int) = i by omega])
        · by_cases q2 : 0 ≤ j ∧ j < i
          · (repeat (first | rw [if_pos (by omega)] | rw [if_neg (by omega)]))
          · (repeat (first | rw [if_pos (by omega)] | rw [if_neg (by omega)]))
      (repeat (first | rw [if_pos (by omega)] | rw [if_neg (by omega)]))

set_option maxHeartbeats 4000000 in
set_option maxRecDepth 100000 in
theorem lp_bk2 {l : Launch} {σ : aw_S} {Post : Option Value → aw_S → Prop} {tw cs : Bool} (hR : σ.2.2 = RF tw cs) {k : Int} (hk0 : 0 ≤ k ∧ k ≤ 2) (hk : AW l yX10_back cX10_back 3 (some .boolean) 1 22 0 0 SH Post SH 0 0 (aw_sa (aw_sa (σ) 184 (fun j => if 0 ≤ j ∧ j < 6 then σ.1 197 (6 * k + j) else σ.1 184 j)) 186 (fun j => if 0 ≤ j ∧ j < 6 then σ.1 200 (6 * k + j) else σ.1 186 j)) 162 [some (.ref 171), some (.int (jI k)), some (.int (jI 6))] [])  : ∀ (n : Nat) (i : Int), ((6 - i).toNat ≤ n) → (0 ≤ i ∧ i ≤ 6) → AW l yX10_back cX10_back 3 (some .boolean) 1 22 0 0 SH Post SH 0 0 (aw_sa (aw_sa (σ) 184 (fun j => if 0 ≤ j ∧ j < i then σ.1 197 (6 * k + j) else σ.1 184 j)) 186 (fun j => if 0 ≤ j ∧ j < i then σ.1 200 (6 * k + j) else σ.1 186 j)) 116 [some (.ref 171), some (.int (jI k)), some (.int (jI i))] [] := by
  intro n
  induction n with
  | zero =>
    intro i hm hi
    refine a_ild2 eX10_back_116 ?_
    refine a_bipush eX10_back_117 (by decide) ?_
    refine a_icmp_ge 162 eX10_back_119 (by decide) (by omega) (fun hT119 => ?_) (fun hF119 => ?_)
    · skip
      rw [show i = 6 by omega]
      exact hk
    · skip
      exfalso; omega
  | succ n ih =>
    intro i hm hi
    refine a_ild2 eX10_back_116 ?_
    refine a_bipush eX10_back_117 (by decide) ?_
    refine a_icmp_ge 162 eX10_back_119 (by decide) (by omega) (fun hT119 => ?_) (fun hF119 => ?_)
    · skip
      rw [show i = 6 by omega]
      exact hk
    · skip
      refine a_ald0 eX10_back_122 ?_
      refine a_getR 25 184 eX10_back_123 fl_X10_48 rfl rfl sh_171 ((congrFun (congrFun hR _) _).trans rf_171_25) ?_
      refine a_ild2 eX10_back_126 ?_
      refine a_ald0 eX10_back_127 ?_
      refine a_getR 40 197 eX10_back_128 fl_X10_88 rfl rfl sh_171 ((congrFun (congrFun hR _) _).trans rf_171_40) ?_
      refine a_bipush eX10_back_131 (by decide) ?_
      refine a_ild1 eX10_back_133 ?_
      refine a_imul eX10_back_134 ?_
      refine a_ild2 eX10_back_135 ?_
      refine a_iadd eX10_back_136 ?_
      refine a_iald eX10_back_137 sh_197 rfl (by omega) ?_
      refine a_eqtop (y0 := σ.1 197 (6 * k + i)) (by simp only [rd_si, rd_sa, and_self, true_and, and_true, ↓reduceIte]; (repeat (first | rw [if_pos (by omega)] | rw [if_neg (by omega)] | rw [if_pos True.intro])); (try rfl)) ?_
      refine a_iast eX10_back_138 sh_184 rfl (by omega) ?_
      refine a_ald0 eX10_back_139 ?_
      refine a_getR 28 186 eX10_back_140 fl_X10_54 rfl rfl sh_171 ((congrFun (congrFun hR _) _).trans rf_171_28) ?_
      refine a_ild2 eX10_back_143 ?_
      refine a_ald0 eX10_back_144 ?_
      refine a_getR 43 200 eX10_back_145 fl_X10_97 rfl rfl sh_171 ((congrFun (congrFun hR _) _).trans rf_171_43) ?_
      refine a_bipush eX10_back_148 (by decide) ?_
      refine a_ild1 eX10_back_150 ?_
      refine a_imul eX10_back_151 ?_
      refine a_ild2 eX10_back_152 ?_
      refine a_iadd eX10_back_153 ?_
      refine a_iald eX10_back_154 sh_200 rfl (by omega) ?_
      refine a_eqtop (y0 := σ.1 200 (6 * k + i)) (by simp only [rd_si, rd_sa, and_self, true_and, and_true, ↓reduceIte]; (repeat (first | rw [if_pos (by omega)] | rw [if_neg (by omega)] | rw [if_pos True.intro])); (try rfl)) ?_
      refine a_iast eX10_back_155 sh_186 rfl (by omega) ?_
      refine a_iinc2 eX10_back_156 (by decide) aw_n2i ?_
      refine a_goto 116 eX10_back_159 (by decide) ?_
      refine AW.st (?_ : _ = aw_sa (aw_sa (σ) 184 (fun j => if 0 ≤ j ∧ j < i + 1 then σ.1 197 (6 * k + j) else σ.1 184 j)) 186 (fun j => if 0 ≤ j ∧ j < i + 1 then σ.1 200 (6 * k + j) else σ.1 186 j)) (ih (i + 1) (by omega) (by omega))
      refine Prod.ext (funext fun b => funext fun j => ?_) rfl
      simp only [rd_si, rd_sa]
      by_cases z0 : b = 186
      · subst z0
        simp only [true_and, ↓reduceIte, if_true]
        by_cases q1 : j = i
        · subst q1; (repeat (first | rw [if_pos (by omega)] | rw [if_neg (by omega)])); (try rw [show (6 * k + i - 6 * k : Int) = i by omega])
        · by_cases q2 : 0 ≤ j ∧ j < i
          · (repeat (first | rw [if_pos (by omega)] | rw [if_neg (by omega)]))
          · (repeat (first | rw [if_pos (by omega)] | rw [if_neg (by omega)]))
      by_cases z1 : b = 184
      · subst z1
        simp only [true_and, ↓reduceIte, if_true]
        by_cases q1 : j = i
        · subst q1; (repeat (first | rw [if_pos (by omega)] | rw [if_neg (by omega)])); (try rw [show (6 * k + i - 6 * k : Int) = i by omega])
        · by_cases q2 : 0 ≤ j ∧ j < i
          · (repeat (first | rw [if_pos (by omega)] | rw [if_neg (by omega)]))
          · (repeat (first | rw [if_pos (by omega)] | rw [if_neg (by omega)]))
      (repeat (first | rw [if_pos (by omega)] | rw [if_neg (by omega)]))

set_option maxHeartbeats 4000000 in
set_option maxRecDepth 100000 in
theorem lp_bk3 {l : Launch} {σ : aw_S} {Post : Option Value → aw_S → Prop} {tw cs : Bool} (hR : σ.2.2 = RF tw cs) {k : Int} (hk0 : 0 ≤ k ∧ k ≤ 2) (hk : AW l yX10_back cX10_back 3 (some .boolean) 1 22 0 0 SH Post SH 0 0 (aw_sa (σ) 185 (fun j => if 0 ≤ j ∧ j < 200 then σ.1 199 (200 * k + j) else σ.1 185 j)) 195 [some (.ref 171), some (.int (jI k)), some (.int (jI 200))] [])  : ∀ (n : Nat) (i : Int), ((200 - i).toNat ≤ n) → (0 ≤ i ∧ i ≤ 200) → AW l yX10_back cX10_back 3 (some .boolean) 1 22 0 0 SH Post SH 0 0 (aw_sa (σ) 185 (fun j => if 0 ≤ j ∧ j < i then σ.1 199 (200 * k + j) else σ.1 185 j)) 164 [some (.ref 171), some (.int (jI k)), some (.int (jI i))] [] := by
  intro n
  induction n with
  | zero =>
    intro i hm hi
    refine a_ild2 eX10_back_164 ?_
    refine a_sipush eX10_back_165 (by decide) ?_
    refine a_icmp_ge 195 eX10_back_168 (by decide) (by omega) (fun hT168 => ?_) (fun hF168 => ?_)
    · skip
      rw [show i = 200 by omega]
      exact hk
    · skip
      exfalso; omega
  | succ n ih =>
    intro i hm hi
    refine a_ild2 eX10_back_164 ?_
    refine a_sipush eX10_back_165 (by decide) ?_
    refine a_icmp_ge 195 eX10_back_168 (by decide) (by omega) (fun hT168 => ?_) (fun hF168 => ?_)
    · skip
      rw [show i = 200 by omega]
      exact hk
    · skip
      refine a_ald0 eX10_back_171 ?_
      refine a_getR 27 185 eX10_back_172 fl_X10_51 rfl rfl sh_171 ((congrFun (congrFun hR _) _).trans rf_171_27) ?_
      refine a_ild2 eX10_back_175 ?_
      refine a_ald0 eX10_back_176 ?_
      refine a_getR 42 199 eX10_back_177 fl_X10_94 rfl rfl sh_171 ((congrFun (congrFun hR _) _).trans rf_171_42) ?_
      refine a_sipush eX10_back_180 (by decide) ?_
      refine a_ild1 eX10_back_183 ?_
      refine a_imul eX10_back_184 ?_
      refine a_ild2 eX10_back_185 ?_
      refine a_iadd eX10_back_186 ?_
      refine a_iald eX10_back_187 sh_199 rfl (by omega) ?_
      refine a_eqtop (y0 := σ.1 199 (200 * k + i)) (by simp only [rd_si, rd_sa, and_self, true_and, and_true, ↓reduceIte]; (repeat (first | rw [if_pos (by omega)] | rw [if_neg (by omega)] | rw [if_pos True.intro])); (try rfl)) ?_
      refine a_iast eX10_back_188 sh_185 rfl (by omega) ?_
      refine a_iinc2 eX10_back_189 (by decide) aw_n2i ?_
      refine a_goto 164 eX10_back_192 (by decide) ?_
      refine AW.st (?_ : _ = aw_sa (σ) 185 (fun j => if 0 ≤ j ∧ j < i + 1 then σ.1 199 (200 * k + j) else σ.1 185 j)) (ih (i + 1) (by omega) (by omega))
      refine Prod.ext (funext fun b => funext fun j => ?_) rfl
      simp only [rd_si, rd_sa]
      by_cases z0 : b = 185
      · subst z0
        simp only [true_and, ↓reduceIte, if_true]
        by_cases q1 : j = i
        · subst q1; (repeat (first | rw [if_pos (by omega)] | rw [if_neg (by omega)])); (try rw [show (200 * k + i - 200 * k : Int) = i by omega])
        · by_cases q2 : 0 ≤ j ∧ j < i
          · (repeat (first | rw [if_pos (by omega)] | rw [if_neg (by omega)]))
          · (repeat (first | rw [if_pos (by omega)] | rw [if_neg (by omega)]))
      (repeat (first | rw [if_pos (by omega)] | rw [if_neg (by omega)]))

/-- the reference: the cells of image k may have changed -/
def frMi (k : Int) (σ σ' : aw_S) : Prop := (∀ (a : Nat) (j : Int), ¬ ((192 ≤ a ∧ a ≤ 194 ∨ a = 198) ∧ j = k) → ¬ (a = 195 ∧ 176 * k ≤ j ∧ j < 176 * k + 176) → ¬ (a = 196 ∧ 108 * k ≤ j ∧ j < 108 * k + 108) → ¬ ((a = 197 ∨ a = 200) ∧ 6 * k ≤ j ∧ j < 6 * k + 6) → ¬ (a = 199 ∧ 200 * k ≤ j ∧ j < 200 * k + 200) → σ'.1 a j = σ.1 a j) ∧ σ'.2 = σ.2
set_option maxHeartbeats 4000000 in
set_option maxRecDepth 100000 in
theorem c_X10_image {l : Launch} {σ : aw_S} {Post : Option Value → aw_S → Prop} {tw cs : Bool} (hR : σ.2.2 = RF tw cs) {m : mS} (hM : cityM σ m) (wC : wfCity m) {N : Int} (hM2 : dayM σ m) (wD : wfDay m 0 N) (hN : 0 ≤ N ∧ N ≤ 1000) {k : Int} (hr : (-2147483648 ≤ k ∧ k ≤ 2147483647)) (h1 : vimage m k → ∀ σ', dayMi σ' k 0 m → σ'.1 192 k = 1 → frMi k σ σ' → Post (some (.int (jI 1))) σ') (h0 : ¬ vimage m k → Post (some (.int (jI 0))) σ) : AE l yX10_image cX10_image 3 (some .boolean) 1 22 0 0 SH SH σ [.ref 171, .int (jI k)] Post := by
  show AW l yX10_image cX10_image 3 (some .boolean) 1 22 0 0 SH Post SH 0 0 σ 0 [some (.ref 171), some (.int (jI k)), none] []
  obtain ⟨c1, c2, c3, c4, c5, c6, c7⟩ := id hM
  obtain ⟨w1, w2, w3, w4, w5, w6, w7, w8⟩ := id wC
  obtain ⟨d1, d2, d3, d4, d5, d6, d7⟩ := id hM2
  obtain ⟨v1, v2, v3, v4, v5, v6, v7, v8⟩ := id wD
  simp only [Int.zero_add] at d4 d5 d6 d7 v4 v5 v6 v7 v8
  refine a_ald0 eX10_image_0 ?_
  refine a_getI 14 eX10_image_1 fl_X10_235 rfl rfl sh_171 ?_
  refine a_if_eq 16 eX10_image_4 (by decide) (by omega) (fun hT4 => ?_) (fun hF4 => ?_)
  · skip
    refine a_iconst eX10_image_16 ?_
    refine a_zret eX10_image_17 rfl (by first | exact Or.inl rfl | exact Or.inr rfl | omega) rfl ⟨Nat.zero_le _, Nat.zero_le _⟩ ?_
    exact h0 (fun q => by unfold vimage at q; omega)
  · skip
    refine a_ild1 eX10_image_7 ?_
    refine a_iconst eX10_image_8 ?_
    refine a_iconst eX10_image_9 ?_
    refine a_cS3 eX10_image_10 lk_X10_128 mS_X10_in mt_X10_in rfl rfl rfl rfl rfl rfl rfl (c_X10_in (by omega) (fun hT10 => ?_) (fun hF10 => ?_))
    · skip
      dsimp only [Option.toList, List.cons_append, List.nil_append]
      refine a_if_ne 18 eX10_image_13 (by decide) (by omega) (fun _ => ?_) (fun h => absurd h (by decide))
      refine a_ald0 eX10_image_18 ?_
      refine a_getR 35 192 eX10_image_19 fl_X10_72 rfl rfl sh_171 ((congrFun (congrFun hR _) _).trans rf_171_35) ?_
      refine a_ild1 eX10_image_22 ?_
      refine a_iconst eX10_image_23 ?_
      refine a_zast eX10_image_24 sh_192 rfl (by omega) ?_
      refine a_ald0 eX10_image_25 ?_
      refine a_getR 36 193 eX10_image_26 fl_X10_76 rfl rfl sh_171 ((congrFun (congrFun hR _) _).trans rf_171_36) ?_
      refine a_ild1 eX10_image_29 ?_
      refine a_ald0 eX10_image_30 ?_
      refine a_getI 21 eX10_image_31 fl_X10_243 rfl rfl sh_171 ?_
      refine a_eqtop (y0 := m 0 3) (by simp only [rd_si, rd_sa, and_self, true_and, and_true, ↓reduceIte]; (repeat (first | rw [if_pos (by omega)] | rw [if_neg (by omega)] | rw [if_pos True.intro])); exact d1) ?_
      refine a_iast eX10_image_34 sh_193 rfl (by omega) ?_
      refine a_ald0 eX10_image_35 ?_
      refine a_getR 37 194 eX10_image_36 fl_X10_79 rfl rfl sh_171 ((congrFun (congrFun hR _) _).trans rf_171_37) ?_
      refine a_ild1 eX10_image_39 ?_
      refine a_ald0 eX10_image_40 ?_
      refine a_getI 22 eX10_image_41 fl_X10_246 rfl rfl sh_171 ?_
      refine a_eqtop (y0 := m 0 4) (by simp only [rd_si, rd_sa, and_self, true_and, and_true, ↓reduceIte]; (repeat (first | rw [if_pos (by omega)] | rw [if_neg (by omega)] | rw [if_pos True.intro])); exact d2) ?_
      refine a_iast eX10_image_44 sh_194 rfl (by omega) ?_
      refine a_ald0 eX10_image_45 ?_
      refine a_getR 41 198 eX10_image_46 fl_X10_91 rfl rfl sh_171 ((congrFun (congrFun hR _) _).trans rf_171_41) ?_
      refine a_ild1 eX10_image_49 ?_
      refine a_ald0 eX10_image_50 ?_
      refine a_getI 26 eX10_image_51 fl_X10_249 rfl rfl sh_171 ?_
      refine a_eqtop (y0 := m 0 5) (by simp only [rd_si, rd_sa, and_self, true_and, and_true, ↓reduceIte]; (repeat (first | rw [if_pos (by omega)] | rw [if_neg (by omega)] | rw [if_pos True.intro])); exact d3) ?_
      refine a_iast eX10_image_54 sh_198 rfl (by omega) ?_
      refine AW.gen (fun σ0 hσ0 => ?_)
      have h0s : σ0.2 = σ.2 := by rw [hσ0]; rfl
      have hR : σ0.2.2 = RF tw cs := by rw [h0s]; exact hR
      have h0o : ∀ (a : Nat) (j : Int), ¬ ((192 ≤ a ∧ a ≤ 194 ∨ a = 198) ∧ j = k) → σ0.1 a j = σ.1 a j := fun a j q => by rw [hσ0]; simp only [rd_si]; (repeat rw [if_neg (by omega)])
      have h192 : σ0.1 192 k = 1 := by rw [hσ0]; simp only [rd_si, rd_sa, and_self, true_and, and_true, ↓reduceIte]; (repeat (first | rw [if_pos (by omega)] | rw [if_neg (by omega)] | rw [if_pos True.intro])); (first | done | rfl)
      have h193 : σ0.1 193 k = m 0 3 := by rw [hσ0]; simp only [rd_si, rd_sa, and_self, true_and, and_true, ↓reduceIte]; (repeat (first | rw [if_pos (by omega)] | rw [if_neg (by omega)] | rw [if_pos True.intro])); (first | done | rfl)
      have h194 : σ0.1 194 k = m 0 4 := by rw [hσ0]; simp only [rd_si, rd_sa, and_self, true_and, and_true, ↓reduceIte]; (repeat (first | rw [if_pos (by omega)] | rw [if_neg (by omega)] | rw [if_pos True.intro])); (first | done | rfl)
      have h198 : σ0.1 198 k = m 0 5 := by rw [hσ0]; simp only [rd_si, rd_sa, and_self, true_and, and_true, ↓reduceIte]; (repeat (first | rw [if_pos (by omega)] | rw [if_neg (by omega)] | rw [if_pos True.intro])); (first | done | rfl)
      refine a_iconst eX10_image_55 ?_
      refine a_ist2 eX10_image_56 (by decide) aw_n2i ?_
      refine AW.st (?_ : _ = _) (lp_im0 hR (by omega) ?_ _ 0 (Nat.le_refl _) (by omega))
      · refine Prod.ext (funext fun b => funext fun j => ?_) rfl
        simp only [rd_sa]
        by_cases y195 : b = 195
        · rw [if_pos y195, if_neg (by omega), y195]
        rw [if_neg y195]
      refine AW.gen (fun σ57 hσ57 => ?_)
      have h57s : σ57.2 = σ0.2 := by rw [hσ57]; rfl
      have h57_195 : ∀ j : Int, σ57.1 195 j = if 176 * k ≤ j ∧ j < 176 * k + 176 then σ0.1 182 (j - 176 * k) else σ0.1 195 j := fun j => by rw [hσ57]; simp only [rd_sa, ↓reduceIte]; (try rfl)
      have h57o : ∀ (a : Nat) (j : Int), a ≠ 195 → σ57.1 a j = σ0.1 a j := fun a j z0 => by rw [hσ57]; simp only [rd_sa]; (repeat rw [if_neg (by omega)])
      have hR : σ57.2.2 = RF tw cs := by rw [h57s]; exact hR
      refine a_iconst eX10_image_88 ?_
      refine a_ist2 eX10_image_89 (by decide) aw_n2i ?_
      refine AW.st (?_ : _ = _) (lp_im1 hR (by omega) ?_ _ 0 (Nat.le_refl _) (by omega))
      · refine Prod.ext (funext fun b => funext fun j => ?_) rfl
        simp only [rd_sa]
        by_cases y196 : b = 196
        · rw [if_pos y196, if_neg (by omega), y196]
        rw [if_neg y196]
      refine AW.gen (fun σ90 hσ90 => ?_)
      have h90s : σ90.2 = σ57.2 := by rw [hσ90]; rfl
      have h90_196 : ∀ j : Int, σ90.1 196 j = if 108 * k ≤ j ∧ j < 108 * k + 108 then σ57.1 183 (j - 108 * k) else σ57.1 196 j := fun j => by rw [hσ90]; simp only [rd_sa, ↓reduceIte]; (try rfl)
      have h90o : ∀ (a : Nat) (j : Int), a ≠ 196 → σ90.1 a j = σ57.1 a j := fun a j z0 => by rw [hσ90]; simp only [rd_sa]; (repeat rw [if_neg (by omega)])
      have hR : σ90.2.2 = RF tw cs := by rw [h90s]; exact hR
      refine a_iconst eX10_image_119 ?_
      refine a_ist2 eX10_image_120 (by decide) aw_n2i ?_
      refine AW.st (?_ : _ = _) (lp_im2 hR (by omega) ?_ _ 0 (Nat.le_refl _) (by omega))
      · refine Prod.ext (funext fun b => funext fun j => ?_) rfl
        simp only [rd_sa]
        by_cases y200 : b = 200
        · rw [if_pos y200, if_neg (by omega), y200]
        rw [if_neg y200]
        by_cases y197 : b = 197
        · rw [if_pos y197, if_neg (by omega), y197]
        rw [if_neg y197]
      refine AW.gen (fun σ121 hσ121 => ?_)
      have h121s : σ121.2 = σ90.2 := by rw [hσ121]; rfl
      have h121_197 : ∀ j : Int, σ121.1 197 j = if 6 * k ≤ j ∧ j < 6 * k + 6 then σ90.1 184 (j - 6 * k) else σ90.1 197 j := fun j => by rw [hσ121]; simp only [rd_sa, ↓reduceIte]; (try rfl)
      have h121_200 : ∀ j : Int, σ121.1 200 j = if 6 * k ≤ j ∧ j < 6 * k + 6 then σ90.1 186 (j - 6 * k) else σ90.1 200 j := fun j => by rw [hσ121]; simp only [rd_sa, ↓reduceIte]; (try rfl)
      have h121o : ∀ (a : Nat) (j : Int), a ≠ 197 → a ≠ 200 → σ121.1 a j = σ90.1 a j := fun a j z0 z1 => by rw [hσ121]; simp only [rd_sa]; (repeat rw [if_neg (by omega)])
      have hR : σ121.2.2 = RF tw cs := by rw [h121s]; exact hR
      refine a_iconst eX10_image_167 ?_
      refine a_ist2 eX10_image_168 (by decide) aw_n2i ?_
      refine AW.st (?_ : _ = _) (lp_im3 hR (by omega) ?_ _ 0 (Nat.le_refl _) (by omega))
      · refine Prod.ext (funext fun b => funext fun j => ?_) rfl
        simp only [rd_sa]
        by_cases y199 : b = 199
        · rw [if_pos y199, if_neg (by omega), y199]
        rw [if_neg y199]
      refine AW.gen (fun σ169 hσ169 => ?_)
      have h169s : σ169.2 = σ121.2 := by rw [hσ169]; rfl
      have h169_199 : ∀ j : Int, σ169.1 199 j = if 200 * k ≤ j ∧ j < 200 * k + 200 then σ121.1 185 (j - 200 * k) else σ121.1 199 j := fun j => by rw [hσ169]; simp only [rd_sa, ↓reduceIte]; (try rfl)
      have h169o : ∀ (a : Nat) (j : Int), a ≠ 199 → σ169.1 a j = σ121.1 a j := fun a j z0 => by rw [hσ169]; simp only [rd_sa]; (repeat rw [if_neg (by omega)])
      have hR : σ169.2.2 = RF tw cs := by rw [h169s]; exact hR
      refine a_iconst eX10_image_200 ?_
      refine a_zret eX10_image_201 rfl (by first | exact Or.inl rfl | exact Or.inr rfl | omega) rfl ⟨Nat.zero_le _, Nat.zero_le _⟩ ?_
      have fr : frMi k σ σ169 := by
        refine ⟨fun a j q1 q2 q3 q4 q5 => ?_, by rw [h169s, h121s, h90s, h57s]; exact h0s⟩
        by_cases z5 : a = 199
        · subst z5; rw [h169_199, if_neg (by omega), h121o _ _ (by omega) (by omega), h90o _ _ (by omega), h57o _ _ (by omega)]; exact h0o _ _ (by omega)
        rw [h169o _ _ z5]
        by_cases z4 : a = 200
        · subst z4; rw [h121_200, if_neg (by omega), h90o _ _ (by omega), h57o _ _ (by omega)]; exact h0o _ _ (by omega)
        by_cases z3 : a = 197
        · subst z3; rw [h121_197, if_neg (by omega), h90o _ _ (by omega), h57o _ _ (by omega)]; exact h0o _ _ (by omega)
        rw [h121o _ _ z3 z4]
        by_cases z2 : a = 196
        · subst z2; rw [h90_196, if_neg (by omega), h57o _ _ (by omega)]; exact h0o _ _ (by omega)
        rw [h90o _ _ z2]
        by_cases z1 : a = 195
        · subst z1; rw [h57_195, if_neg (by omega)]; exact h0o _ _ (by omega)
        rw [h57o _ _ z1]
        exact h0o _ _ (by omega)
      refine h1 ⟨by omega, by omega⟩ σ169 ?_ (by rw [h169o _ _ (by omega), h121o _ _ (by omega) (by omega), h90o _ _ (by omega), h57o _ _ (by omega)]; exact h192) fr
      have g0 : ∀ a : Nat, a ≠ 199 → a ≠ 197 → a ≠ 200 → a ≠ 196 → a ≠ 195 → ∀ j, σ169.1 a j = σ0.1 a j := fun a z1 z2 z3 z4 z5 j => by rw [h169o _ _ z1, h121o _ _ z2 z3, h90o _ _ z4, h57o _ _ z5]
      have hM3 := id hM2
      unfold dayM at hM3
      rw [d1, d2, d3] at hM3
      unfold dayMi
      rw [g0 193 (by omega) (by omega) (by omega) (by omega) (by omega), g0 194 (by omega) (by omega) (by omega) (by omega) (by omega), g0 198 (by omega) (by omega) (by omega) (by omega) (by omega), h193, h194, h198]
      refine dayG_cong (by omega) (by omega) (fun r r1 r2 => by rw [Int.zero_add]; have := v4 r r1 r2; omega) hM3 (fun j j1 j2 => ?_) (fun j j1 j2 => ?_) (fun j j1 j2 => ?_) (fun j j1 j2 => ?_) (fun j j1 j2 => ?_)
      · rw [h169o _ _ (by omega), h121o _ _ (by omega) (by omega), h90o _ _ (by omega), h57_195, if_pos (by omega), show (176 * k + j - 176 * k : Int) = j by omega]; exact h0o _ _ (by omega)
      · rw [h169o _ _ (by omega), h121o _ _ (by omega) (by omega), h90_196, if_pos (by omega), show (108 * k + j - 108 * k : Int) = j by omega, h57o _ _ (by omega)]; exact h0o _ _ (by omega)
      · rw [h169o _ _ (by omega), h121_197, if_pos (by omega), show (6 * k + j - 6 * k : Int) = j by omega, h90o _ _ (by omega), h57o _ _ (by omega)]; exact h0o _ _ (by omega)
      · rw [h169o _ _ (by omega), h121_200, if_pos (by omega), show (6 * k + j - 6 * k : Int) = j by omega, h90o _ _ (by omega), h57o _ _ (by omega)]; exact h0o _ _ (by omega)
      · rw [h169_199, if_pos (by omega), show (200 * k + j - 200 * k : Int) = j by omega, h121o _ _ (by omega) (by omega), h90o _ _ (by omega), h57o _ _ (by omega)]; exact h0o _ _ (by omega)
    · skip
      dsimp only [Option.toList, List.cons_append, List.nil_append]
      refine a_if_ne 18 eX10_image_13 (by decide) (by omega) (fun h => absurd h (by decide)) (fun _ => ?_)
      refine a_iconst eX10_image_16 ?_
      refine a_zret eX10_image_17 rfl (by first | exact Or.inl rfl | exact Or.inr rfl | omega) rfl ⟨Nat.zero_le _, Nat.zero_le _⟩ ?_
      exact h0 (fun q => by unfold vimage at q; omega)

/-- the reference's day holds the rows from b on -/
def dayMb (σ : aw_S) (b : Int) (m : mS) : Prop := dayG (σ.1 171 21) (σ.1 171 22) (σ.1 171 26) (σ.1 182) (σ.1 183) (σ.1 184) (σ.1 186) (σ.1 185) b m
set_option maxHeartbeats 4000000 in
set_option maxRecDepth 100000 in
theorem c_X10_back {l : Launch} {σ : aw_S} {Post : Option Value → aw_S → Prop} {tw cs : Bool} (hR : σ.2.2 = RF tw cs) {m : mS} {k N : Int} (hi : ∀ k : Int, 0 ≤ k → k ≤ 2 → σ.1 192 k = m 16 k ∧ (m 16 k = 0 ∨ m 16 k = 1)) (hI : (0 ≤ k ∧ k ≤ 2) → m 16 k = 1 → dayMi σ k (1000 * (k + 1)) m ∧ wfDay m (1000 * (k + 1)) N) (hr : (-2147483648 ≤ k ∧ k ≤ 2147483647)) (h1 : vback m k → ∀ σ', dayMb σ' (1000 * (k + 1)) m → frM σ σ' → Post (some (.int (jI 1))) σ') (h0 : ¬ vback m k → Post (some (.int (jI 0))) σ) : AE l yX10_back cX10_back 3 (some .boolean) 1 22 0 0 SH SH σ [.ref 171, .int (jI k)] Post := by
  show AW l yX10_back cX10_back 3 (some .boolean) 1 22 0 0 SH Post SH 0 0 σ 0 [some (.ref 171), some (.int (jI k)), none] []
  refine a_ild1 eX10_back_0 ?_
  refine a_iconst eX10_back_1 ?_
  refine a_iconst eX10_back_2 ?_
  refine a_cS3 eX10_back_3 lk_X10_128 mS_X10_in mt_X10_in rfl rfl rfl rfl rfl rfl rfl (c_X10_in (by omega) (fun hT3 => ?_) (fun hF3 => ?_))
  · skip
    dsimp only [Option.toList, List.cons_append, List.nil_append]
    refine a_if_eq 18 eX10_back_6 (by decide) (by omega) (fun h => absurd h (by decide)) (fun _ => ?_)
    refine a_ald0 eX10_back_9 ?_
    refine a_getR 35 192 eX10_back_10 fl_X10_72 rfl rfl sh_171 ((congrFun (congrFun hR _) _).trans rf_171_35) ?_
    refine a_ild1 eX10_back_13 ?_
    refine a_zald eX10_back_14 sh_192 rfl (by omega) ?_
    have hik := hi k (by omega) (by omega)
    refine a_eqtop (y0 := m 16 k) (by exact hik.1) ?_
    refine a_if_ne 20 eX10_back_15 (by decide) (by omega) (fun hT15 => ?_) (fun hF15 => ?_)
    · skip
      have hIk := hI (by omega) (by omega)
      refine a_ald0 eX10_back_20 ?_
      refine a_ald0 eX10_back_21 ?_
      refine a_getR 36 193 eX10_back_22 fl_X10_76 rfl rfl sh_171 ((congrFun (congrFun hR _) _).trans rf_171_36) ?_
      refine a_ild1 eX10_back_25 ?_
      refine a_iald eX10_back_26 sh_193 rfl (by omega) ?_
      refine a_eqtop (y0 := σ.1 193 k) (by simp only [rd_si, rd_sa, and_self, true_and, and_true, ↓reduceIte]; (repeat (first | rw [if_pos (by omega)] | rw [if_neg (by omega)] | rw [if_pos True.intro])); (try rfl)) ?_
      refine a_putI 21 eX10_back_27 fl_X10_243 rfl rfl sh_171 (fun q h => Or.inl (by cases h; rfl)) ?_
      refine a_ald0 eX10_back_30 ?_
      refine a_ald0 eX10_back_31 ?_
      refine a_getR 37 194 eX10_back_32 fl_X10_79 rfl rfl sh_171 ((congrFun (congrFun hR _) _).trans rf_171_37) ?_
      refine a_ild1 eX10_back_35 ?_
      refine a_iald eX10_back_36 sh_194 rfl (by omega) ?_
      refine a_eqtop (y0 := σ.1 194 k) (by simp only [rd_si, rd_sa, and_self, true_and, and_true, ↓reduceIte]; (repeat (first | rw [if_pos (by omega)] | rw [if_neg (by omega)] | rw [if_pos True.intro])); (try rfl)) ?_
      refine a_putI 22 eX10_back_37 fl_X10_246 rfl rfl sh_171 (fun q h => Or.inl (by cases h; rfl)) ?_
      refine a_ald0 eX10_back_40 ?_
      refine a_ald0 eX10_back_41 ?_
      refine a_getR 41 198 eX10_back_42 fl_X10_91 rfl rfl sh_171 ((congrFun (congrFun hR _) _).trans rf_171_41) ?_
      refine a_ild1 eX10_back_45 ?_
      refine a_iald eX10_back_46 sh_198 rfl (by omega) ?_
      refine a_eqtop (y0 := σ.1 198 k) (by simp only [rd_si, rd_sa, and_self, true_and, and_true, ↓reduceIte]; (repeat (first | rw [if_pos (by omega)] | rw [if_neg (by omega)] | rw [if_pos True.intro])); (try rfl)) ?_
      refine a_putI 26 eX10_back_47 fl_X10_249 rfl rfl sh_171 (fun q h => Or.inl (by cases h; rfl)) ?_
      refine AW.gen (fun σ0 hσ0 => ?_)
      have h0s : σ0.2 = σ.2 := by rw [hσ0]; rfl
      have hR : σ0.2.2 = RF tw cs := by rw [h0s]; exact hR
      have h0o : ∀ (a : Nat) (j : Int), ¬ (a = 171 ∧ (j = 21 ∨ j = 22 ∨ j = 26)) → σ0.1 a j = σ.1 a j := fun a j q => by rw [hσ0]; simp only [rd_si]; (repeat rw [if_neg (by omega)])
      have h21 : σ0.1 171 21 = σ.1 193 k := by rw [hσ0]; simp only [rd_si, rd_sa, and_self, true_and, and_true, ↓reduceIte]; (repeat (first | rw [if_pos (by omega)] | rw [if_neg (by omega)] | rw [if_pos True.intro])); (first | done | rfl)
      have h22 : σ0.1 171 22 = σ.1 194 k := by rw [hσ0]; simp only [rd_si, rd_sa, and_self, true_and, and_true, ↓reduceIte]; (repeat (first | rw [if_pos (by omega)] | rw [if_neg (by omega)] | rw [if_pos True.intro])); (first | done | rfl)
      have h26 : σ0.1 171 26 = σ.1 198 k := by rw [hσ0]; simp only [rd_si, rd_sa, and_self, true_and, and_true, ↓reduceIte]; (repeat (first | rw [if_pos (by omega)] | rw [if_neg (by omega)] | rw [if_pos True.intro])); (first | done | rfl)
      refine a_iconst eX10_back_50 ?_
      refine a_ist2 eX10_back_51 (by decide) aw_n2i ?_
      refine AW.st (?_ : _ = _) (lp_bk0 hR (by omega) ?_ _ 0 (Nat.le_refl _) (by omega))
      · refine Prod.ext (funext fun b => funext fun j => ?_) rfl
        simp only [rd_sa]
        by_cases y182 : b = 182
        · rw [if_pos y182, if_neg (by omega), y182]
        rw [if_neg y182]
      refine AW.gen (fun σ52 hσ52 => ?_)
      have h52s : σ52.2 = σ0.2 := by rw [hσ52]; rfl
      have h52_182 : ∀ j : Int, σ52.1 182 j = if 0 ≤ j ∧ j < 176 then σ0.1 195 (176 * k + j) else σ0.1 182 j := fun j => by rw [hσ52]; simp only [rd_sa, ↓reduceIte]; (try rfl)
      have h52o : ∀ (a : Nat) (j : Int), a ≠ 182 → σ52.1 a j = σ0.1 a j := fun a j z0 => by rw [hσ52]; simp only [rd_sa]; (repeat rw [if_neg (by omega)])
      have hR : σ52.2.2 = RF tw cs := by rw [h52s]; exact hR
      refine a_iconst eX10_back_83 ?_
      refine a_ist2 eX10_back_84 (by decide) aw_n2i ?_
      refine AW.st (?_ : _ = _) (lp_bk1 hR (by omega) ?_ _ 0 (Nat.le_refl _) (by omega))
      · refine Prod.ext (funext fun b => funext fun j => ?_) rfl
        simp only [rd_sa]
        by_cases y183 : b = 183
        · rw [if_pos y183, if_neg (by omega), y183]
        rw [if_neg y183]
      refine AW.gen (fun σ85 hσ85 => ?_)
      have h85s : σ85.2 = σ52.2 := by rw [hσ85]; rfl
      have h85_183 : ∀ j : Int, σ85.1 183 j = if 0 ≤ j ∧ j < 108 then σ52.1 196 (108 * k + j) else σ52.1 183 j := fun j => by rw [hσ85]; simp only [rd_sa, ↓reduceIte]; (try rfl)
      have h85o : ∀ (a : Nat) (j : Int), a ≠ 183 → σ85.1 a j = σ52.1 a j := fun a j z0 => by rw [hσ85]; simp only [rd_sa]; (repeat rw [if_neg (by omega)])
      have hR : σ85.2.2 = RF tw cs := by rw [h85s]; exact hR
      refine a_iconst eX10_back_114 ?_
      refine a_ist2 eX10_back_115 (by decide) aw_n2i ?_
      refine AW.st (?_ : _ = _) (lp_bk2 hR (by omega) ?_ _ 0 (Nat.le_refl _) (by omega))
      · refine Prod.ext (funext fun b => funext fun j => ?_) rfl
        simp only [rd_sa]
        by_cases y186 : b = 186
        · rw [if_pos y186, if_neg (by omega), y186]
        rw [if_neg y186]
        by_cases y184 : b = 184
        · rw [if_pos y184, if_neg (by omega), y184]
        rw [if_neg y184]
      refine AW.gen (fun σ116 hσ116 => ?_)
      have h116s : σ116.2 = σ85.2 := by rw [hσ116]; rfl
      have h116_184 : ∀ j : Int, σ116.1 184 j = if 0 ≤ j ∧ j < 6 then σ85.1 197 (6 * k + j) else σ85.1 184 j := fun j => by rw [hσ116]; simp only [rd_sa, ↓reduceIte]; (try rfl)
      have h116_186 : ∀ j : Int, σ116.1 186 j = if 0 ≤ j ∧ j < 6 then σ85.1 200 (6 * k + j) else σ85.1 186 j := fun j => by rw [hσ116]; simp only [rd_sa, ↓reduceIte]; (try rfl)
      have h116o : ∀ (a : Nat) (j : Int), a ≠ 184 → a ≠ 186 → σ116.1 a j = σ85.1 a j := fun a j z0 z1 => by rw [hσ116]; simp only [rd_sa]; (repeat rw [if_neg (by omega)])
      have hR : σ116.2.2 = RF tw cs := by rw [h116s]; exact hR
      refine a_iconst eX10_back_162 ?_
      refine a_ist2 eX10_back_163 (by decide) aw_n2i ?_
      refine AW.st (?_ : _ = _) (lp_bk3 hR (by omega) ?_ _ 0 (Nat.le_refl _) (by omega))
      · refine Prod.ext (funext fun b => funext fun j => ?_) rfl
        simp only [rd_sa]
        by_cases y185 : b = 185
        · rw [if_pos y185, if_neg (by omega), y185]
        rw [if_neg y185]
      refine AW.gen (fun σ164 hσ164 => ?_)
      have h164s : σ164.2 = σ116.2 := by rw [hσ164]; rfl
      have h164_185 : ∀ j : Int, σ164.1 185 j = if 0 ≤ j ∧ j < 200 then σ116.1 199 (200 * k + j) else σ116.1 185 j := fun j => by rw [hσ164]; simp only [rd_sa, ↓reduceIte]; (try rfl)
      have h164o : ∀ (a : Nat) (j : Int), a ≠ 185 → σ164.1 a j = σ116.1 a j := fun a j z0 => by rw [hσ164]; simp only [rd_sa]; (repeat rw [if_neg (by omega)])
      have hR : σ164.2.2 = RF tw cs := by rw [h164s]; exact hR
      refine a_iconst eX10_back_195 ?_
      refine a_zret eX10_back_196 rfl (by first | exact Or.inl rfl | exact Or.inr rfl | omega) rfl ⟨Nat.zero_le _, Nat.zero_le _⟩ ?_
      have hs : ∀ r : Int, 0 ≤ r → r < 6 → m (1000 * (k + 1) + 10) r ≤ 16 := fun r r1 r2 => by have := hIk.2.2.2.2.1 r r1 r2; omega
      have hw := hIk.2
      have g0 : ∀ a : Nat, a ≠ 185 → a ≠ 184 → a ≠ 186 → a ≠ 183 → a ≠ 182 → ∀ j, σ164.1 a j = σ0.1 a j := fun a z1 z2 z3 z4 z5 j => by rw [h164o _ _ z1, h116o _ _ z2 z3, h85o _ _ z4, h52o _ _ z5]
      have fr : frM σ σ164 := by
        refine ⟨fun a j q1 q2 => ?_, by rw [h164s, h116s, h85s, h52s]; exact h0s⟩
        rw [g0 a (by omega) (by omega) (by omega) (by omega) (by omega)]
        exact h0o _ _ (by omega)
      refine h1 ⟨by omega, by omega⟩ σ164 ?_ fr
      show dayG (σ164.1 171 21) (σ164.1 171 22) (σ164.1 171 26) (σ164.1 182) (σ164.1 183) (σ164.1 184) (σ164.1 186) (σ164.1 185) (1000 * (k + 1)) m
      rw [g0 171 (by omega) (by omega) (by omega) (by omega) (by omega), g0 171 (by omega) (by omega) (by omega) (by omega) (by omega), g0 171 (by omega) (by omega) (by omega) (by omega) (by omega), h21, h22, h26]
      refine dayG_cong (by have := hw.2.1; omega) (by have := hw.2.2.1; omega) hs hIk.1 (fun j j1 j2 => ?_) (fun j j1 j2 => ?_) (fun j j1 j2 => ?_) (fun j j1 j2 => ?_) (fun j j1 j2 => ?_)
      · rw [h164o _ _ (by omega), h116o _ _ (by omega) (by omega), h85o _ _ (by omega), h52_182, if_pos (by omega)]; exact h0o _ _ (by omega)
      · rw [h164o _ _ (by omega), h116o _ _ (by omega) (by omega), h85_183, if_pos (by omega), h52o _ _ (by omega)]; exact h0o _ _ (by omega)
      · rw [h164o _ _ (by omega), h116_184, if_pos (by omega), h85o _ _ (by omega), h52o _ _ (by omega)]; exact h0o _ _ (by omega)
      · rw [h164o _ _ (by omega), h116_186, if_pos (by omega), h85o _ _ (by omega), h52o _ _ (by omega)]; exact h0o _ _ (by omega)
      · rw [h164_185, if_pos (by omega), h116o _ _ (by omega) (by omega), h85o _ _ (by omega), h52o _ _ (by omega)]; exact h0o _ _ (by omega)
    · skip
      refine a_iconst eX10_back_18 ?_
      refine a_zret eX10_back_19 rfl (by first | exact Or.inl rfl | exact Or.inr rfl | omega) rfl ⟨Nat.zero_le _, Nat.zero_le _⟩ ?_
      exact h0 (fun q => by unfold vback at q; omega)
  · skip
    dsimp only [Option.toList, List.cons_append, List.nil_append]
    refine a_if_eq 18 eX10_back_6 (by decide) (by omega) (fun _ => ?_) (fun h => absurd h (by decide))
    refine a_iconst eX10_back_18 ?_
    refine a_zret eX10_back_19 rfl (by first | exact Or.inl rfl | exact Or.inr rfl | omega) rfl ⟨Nat.zero_le _, Nat.zero_le _⟩ ?_
    exact h0 (fun q => by unfold vback at q; omega)
