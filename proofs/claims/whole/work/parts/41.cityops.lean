set_option maxHeartbeats 4000000 in
set_option maxRecDepth 100000 in
theorem c_X9_hasCity {l : Launch} {σ : aw_S} {Post : Option Value → aw_S → Prop} {tw cs : Bool} (hR : σ.2.2 = RF tw cs) {t : Nat} (hct : isCity t) (hrt : RF tw cs 0 1 = some t) {m : mS} (hC : cityC σ t m) (wC : wfCity m) (h1 : (0 < m 0 0) → Post (some (.int (jI 1))) σ) (h0 : ¬ ((0 < m 0 0)) → Post (some (.int (jI 0))) σ) : AE l yX9_hasCity cX9_hasCity 1 (some .boolean) 0 0 0 0 SH SH σ [.ref 0] Post := by
  show AW l yX9_hasCity cX9_hasCity 1 (some .boolean) 0 0 0 0 SH Post SH 0 0 σ 0 [some (.ref 0)] []
  obtain ⟨c1, c2, c3, c4, c5, c6, c7, c8⟩ := id hC
  obtain ⟨w1, w2, w3, w4, w5, w6, w7, w8⟩ := id wC
  refine a_ald0 eX9_hasCity_0 ?_
  refine a_getR 1 t eX9_hasCity_1 fl_X9_19 rfl rfl sh_0 ((congrFun (congrFun hR _) _).trans hrt) ?_
  refine a_getI 0 eX9_hasCity_4 fl_X9_99 rfl rfl (sh_city hct) ?_
  refine a_if_le 14 eX9_hasCity_7 (by decide) (by omega) (fun hT7 => ?_) (fun hF7 => ?_)
  · skip
    refine a_iconst eX9_hasCity_14 ?_
    refine a_zret eX9_hasCity_15 rfl (by first | exact Or.inl rfl | exact Or.inr rfl | omega) rfl ⟨Nat.zero_le _, Nat.zero_le _⟩ ?_
    first | exact h1 (by omega) | exact h0 (by omega)
  · skip
    refine a_iconst eX9_hasCity_10 ?_
    refine a_goto 15 eX9_hasCity_11 (by decide) ?_
    refine a_zret eX9_hasCity_15 rfl (by first | exact Or.inl rfl | exact Or.inr rfl | omega) rfl ⟨Nat.zero_le _, Nat.zero_le _⟩ ?_
    first | exact h1 (by omega) | exact h0 (by omega)

set_option maxHeartbeats 4000000 in
set_option maxRecDepth 100000 in
theorem c_X9_hasRank {l : Launch} {σ : aw_S} {Post : Option Value → aw_S → Prop} {tw cs : Bool} (hR : σ.2.2 = RF tw cs) {t : Nat} (hct : isCity t) (hrt : RF tw cs 0 1 = some t) {m : mS} (hC : cityC σ t m) (wC : wfCity m) {r : Int} (hr : (-2147483648 ≤ r ∧ r ≤ 2147483647)) (h1 : (0 ≤ r ∧ r < m 0 0) → Post (some (.int (jI 1))) σ) (h0 : ¬ ((0 ≤ r ∧ r < m 0 0)) → Post (some (.int (jI 0))) σ) : AE l yX9_hasRank cX9_hasRank 2 (some .boolean) 1 22 0 0 SH SH σ [.ref 0, .int (jI r)] Post := by
  show AW l yX9_hasRank cX9_hasRank 2 (some .boolean) 1 22 0 0 SH Post SH 0 0 σ 0 [some (.ref 0), some (.int (jI r))] []
  obtain ⟨c1, c2, c3, c4, c5, c6, c7, c8⟩ := id hC
  obtain ⟨w1, w2, w3, w4, w5, w6, w7, w8⟩ := id wC
  refine a_ild1 eX9_hasRank_0 ?_
  refine a_iconst eX9_hasRank_1 ?_
  refine a_ald0 eX9_hasRank_2 ?_
  refine a_getR 1 t eX9_hasRank_3 fl_X9_19 rfl rfl sh_0 ((congrFun (congrFun hR _) _).trans hrt) ?_
  refine a_getI 0 eX9_hasRank_6 fl_X9_99 rfl rfl (sh_city hct) ?_
  refine a_iconst eX9_hasRank_9 ?_
  refine a_isub eX9_hasRank_10 ?_
  refine a_cS3 eX9_hasRank_11 lk_X9_81 mS_X9_within mt_X9_within rfl rfl rfl rfl rfl rfl rfl (c_X9_within (by omega) (fun hT11 => ?_) (fun hF11 => ?_))
  · skip
    dsimp only [Option.toList, List.cons_append, List.nil_append]
    refine a_zret eX9_hasRank_14 rfl (by first | exact Or.inl rfl | exact Or.inr rfl | omega) rfl ⟨Nat.zero_le _, Nat.zero_le _⟩ ?_
    first | exact h1 (by omega) | exact h0 (by omega)
  · skip
    dsimp only [Option.toList, List.cons_append, List.nil_append]
    refine a_zret eX9_hasRank_14 rfl (by first | exact Or.inl rfl | exact Or.inr rfl | omega) rfl ⟨Nat.zero_le _, Nat.zero_le _⟩ ?_
    first | exact h1 (by omega) | exact h0 (by omega)

def sp_price (m : mS) (mi v : Int) : Int := if 0 < m 0 0 ∧ (1 ≤ mi ∧ mi ≤ 240) ∧ (0 ≤ v ∧ v ≤ 240) then mprice m mi v else -1
set_option maxHeartbeats 4000000 in
set_option maxRecDepth 100000 in
theorem c_X9_price {l : Launch} {σ : aw_S} {Post : Option Value → aw_S → Prop} {tw cs : Bool} (hR : σ.2.2 = RF tw cs) {t : Nat} (hct : isCity t) (hrt : RF tw cs 0 1 = some t) {m : mS} (hC : cityC σ t m) (wC : wfCity m) {mi v : Int} (hr : (-2147483648 ≤ mi ∧ mi ≤ 2147483647) ∧ (-2147483648 ≤ v ∧ v ≤ 2147483647)) (hk : Post (some (.int (jI (sp_price m mi v)))) σ) : AE l yX9_price cX9_price 3 (some .int) 3 64 0 0 SH SH σ [.ref 0, .int (jI mi), .int (jI v)] Post := by
  show AW l yX9_price cX9_price 3 (some .int) 3 64 0 0 SH Post SH 0 0 σ 0 [some (.ref 0), some (.int (jI mi)), some (.int (jI v))] []
  obtain ⟨c1, c2, c3, c4, c5, c6, c7, c8⟩ := id hC
  obtain ⟨w1, w2, w3, w4, w5, w6, w7, w8⟩ := id wC
  refine a_ald0 eX9_price_0 ?_
  refine a_cV0 eX9_price_1 lk_X9_129 mV_X9_hasCity sh_0 ⟨_, rfl, rfl⟩ mt_X9_hasCity rfl rfl rfl rfl (c_X9_hasCity hR hct hrt hC wC (fun hT1 => ?_) (fun hF1 => ?_))
  · skip
    dsimp only [Option.toList, List.cons_append, List.nil_append]
    refine a_if_eq 29 eX9_price_4 (by decide) (by omega) (fun h => absurd h (by decide)) (fun _ => ?_)
    refine a_ild1 eX9_price_7 ?_
    refine a_iconst eX9_price_8 ?_
    refine a_sipush eX9_price_9 (by decide) ?_
    refine a_cS3 eX9_price_12 lk_X9_81 mS_X9_within mt_X9_within rfl rfl rfl rfl rfl rfl rfl (c_X9_within (by omega) (fun hT12 => ?_) (fun hF12 => ?_))
    · skip
      dsimp only [Option.toList, List.cons_append, List.nil_append]
      refine a_if_eq 29 eX9_price_15 (by decide) (by omega) (fun h => absurd h (by decide)) (fun _ => ?_)
      refine a_ild2 eX9_price_18 ?_
      refine a_iconst eX9_price_19 ?_
      refine a_sipush eX9_price_20 (by decide) ?_
      refine a_cS3 eX9_price_23 lk_X9_81 mS_X9_within mt_X9_within rfl rfl rfl rfl rfl rfl rfl (c_X9_within (by omega) (fun hT23 => ?_) (fun hF23 => ?_))
      · skip
        dsimp only [Option.toList, List.cons_append, List.nil_append]
        refine a_if_ne 31 eX9_price_26 (by decide) (by omega) (fun _ => ?_) (fun h => absurd h (by decide))
        refine a_ald0 eX9_price_31 ?_
        refine a_getR 1 t eX9_price_32 fl_X9_19 rfl rfl sh_0 ((congrFun (congrFun hR _) _).trans hrt) ?_
        refine a_ild1 eX9_price_35 ?_
        refine a_ild2 eX9_price_36 ?_
        refine a_cV2 eX9_price_37 lk_X9_133 mV_X3_priceOf (sh_city hct) ⟨_, rfl, rfl⟩ mt_X3_priceOf rfl rfl rfl rfl rfl rfl (c_X3_priceOf hct (by have := w6 (by omega); have := c6 (by omega); omega) (by have := w6 (by omega); have := c6 (by omega); omega) (by have := w6 (by omega); have := c6 (by omega); omega) (by have := w6 (by omega); have := c6 (by omega); omega) (by have := w6 (by omega); have := c6 (by omega); omega) (by omega) (by omega) ?_)
        dsimp only [Option.toList, List.cons_append, List.nil_append]
        refine a_iret eX9_price_40 rfl rfl ⟨Nat.zero_le _, Nat.zero_le _⟩ ?_
        first | exact aw_ret hk (if_neg (by omega)).symm | exact aw_ret hk (by unfold sp_price mprice; rw [if_pos (by omega)]; obtain ⟨q1, q2, q3, q4, q5⟩ := c6 (by omega); rw [q1, q2, q3, q4, q5])
      · skip
        dsimp only [Option.toList, List.cons_append, List.nil_append]
        refine a_if_ne 31 eX9_price_26 (by decide) (by omega) (fun h => absurd h (by decide)) (fun _ => ?_)
        refine a_iconst eX9_price_29 ?_
        refine a_iret eX9_price_30 rfl rfl ⟨Nat.zero_le _, Nat.zero_le _⟩ ?_
        first | exact aw_ret hk (if_neg (by omega)).symm | exact aw_ret hk (by unfold sp_price mprice; rw [if_pos (by omega)]; obtain ⟨q1, q2, q3, q4, q5⟩ := c6 (by omega); rw [q1, q2, q3, q4, q5])
    · skip
      dsimp only [Option.toList, List.cons_append, List.nil_append]
      refine a_if_eq 29 eX9_price_15 (by decide) (by omega) (fun _ => ?_) (fun h => absurd h (by decide))
      refine a_iconst eX9_price_29 ?_
      refine a_iret eX9_price_30 rfl rfl ⟨Nat.zero_le _, Nat.zero_le _⟩ ?_
      first | exact aw_ret hk (if_neg (by omega)).symm | exact aw_ret hk (by unfold sp_price mprice; rw [if_pos (by omega)]; obtain ⟨q1, q2, q3, q4, q5⟩ := c6 (by omega); rw [q1, q2, q3, q4, q5])
  · skip
    dsimp only [Option.toList, List.cons_append, List.nil_append]
    refine a_if_eq 29 eX9_price_4 (by decide) (by omega) (fun _ => ?_) (fun h => absurd h (by decide))
    refine a_iconst eX9_price_29 ?_
    refine a_iret eX9_price_30 rfl rfl ⟨Nat.zero_le _, Nat.zero_le _⟩ ?_
    first | exact aw_ret hk (if_neg (by omega)).symm | exact aw_ret hk (by unfold sp_price mprice; rw [if_pos (by omega)]; obtain ⟨q1, q2, q3, q4, q5⟩ := c6 (by omega); rw [q1, q2, q3, q4, q5])

set_option maxHeartbeats 4000000 in
set_option maxRecDepth 100000 in
theorem c_X10_price {l : Launch} {σ : aw_S} {Post : Option Value → aw_S → Prop} {tw cs : Bool} (hR : σ.2.2 = RF tw cs) {m : mS} (hM : cityM σ m) (wC : wfCity m) {mi v : Int} (hr : (-2147483648 ≤ mi ∧ mi ≤ 2147483647) ∧ (-2147483648 ≤ v ∧ v ≤ 2147483647)) (hk : Post (some (.int (jI (sp_price m mi v)))) σ) : AE l yX10_price cX10_price 3 (some .int) 2 42 0 0 SH SH σ [.ref 171, .int (jI mi), .int (jI v)] Post := by
  show AW l yX10_price cX10_price 3 (some .int) 2 42 0 0 SH Post SH 0 0 σ 0 [some (.ref 171), some (.int (jI mi)), some (.int (jI v))] []
  obtain ⟨c1, c2, c3, c4, c5, c6, c7⟩ := id hM
  obtain ⟨w1, w2, w3, w4, w5, w6, w7, w8⟩ := id wC
  refine a_ald0 eX10_price_0 ?_
  refine a_getI 14 eX10_price_1 fl_X10_235 rfl rfl sh_171 ?_
  refine a_if_le 34 eX10_price_4 (by decide) (by omega) (fun hT4 => ?_) (fun hF4 => ?_)
  · skip
    refine a_iconst eX10_price_34 ?_
    refine a_iret eX10_price_35 rfl rfl ⟨Nat.zero_le _, Nat.zero_le _⟩ ?_
    first | exact aw_ret hk (if_neg (by omega)).symm | exact aw_ret hk (by unfold sp_price mprice; rw [if_pos (by omega)]; obtain ⟨q1, q2, q3, q4, q5⟩ := c5 (by omega); rw [q1, q2, q3, q4, q5])
  · skip
    refine a_ild1 eX10_price_7 ?_
    refine a_cS1 eX10_price_8 lk_X10_262 mS_X10_areMinutes mt_X10_areMinutes rfl rfl rfl rfl rfl (c_X10_areMinutes (by omega) (fun hT8 => ?_) (fun hF8 => ?_))
    · skip
      dsimp only [Option.toList, List.cons_append, List.nil_append]
      refine a_if_eq 34 eX10_price_11 (by decide) (by omega) (fun h => absurd h (by decide)) (fun _ => ?_)
      refine a_ild2 eX10_price_14 ?_
      refine a_iconst eX10_price_15 ?_
      refine a_sipush eX10_price_16 (by decide) ?_
      refine a_cS3 eX10_price_19 lk_X10_128 mS_X10_in mt_X10_in rfl rfl rfl rfl rfl rfl rfl (c_X10_in (by omega) (fun hT19 => ?_) (fun hF19 => ?_))
      · skip
        dsimp only [Option.toList, List.cons_append, List.nil_append]
        refine a_if_eq 34 eX10_price_22 (by decide) (by omega) (fun h => absurd h (by decide)) (fun _ => ?_)
        refine a_ald0 eX10_price_25 ?_
        refine a_ild1 eX10_price_26 ?_
        refine a_ild2 eX10_price_27 ?_
        refine a_cV2 eX10_price_28 lk_X10_265 mV_X10_priceOf sh_171 ⟨_, rfl, rfl⟩ mt_X10_priceOf rfl rfl rfl rfl rfl rfl (c_X10_priceOf hR (by have := w6 (by omega); have := c5 (by omega); omega) (by have := w6 (by omega); have := c5 (by omega); omega) (by have := w6 (by omega); have := c5 (by omega); omega) (by have := w6 (by omega); have := c5 (by omega); omega) (by have := w6 (by omega); have := c5 (by omega); omega) (by omega) (by omega) ?_)
        dsimp only [Option.toList, List.cons_append, List.nil_append]
        refine a_goto 35 eX10_price_31 (by decide) ?_
        refine a_iret eX10_price_35 rfl rfl ⟨Nat.zero_le _, Nat.zero_le _⟩ ?_
        first | exact aw_ret hk (if_neg (by omega)).symm | exact aw_ret hk (by unfold sp_price mprice; rw [if_pos (by omega)]; obtain ⟨q1, q2, q3, q4, q5⟩ := c5 (by omega); rw [q1, q2, q3, q4, q5])
      · skip
        dsimp only [Option.toList, List.cons_append, List.nil_append]
        refine a_if_eq 34 eX10_price_22 (by decide) (by omega) (fun _ => ?_) (fun h => absurd h (by decide))
        refine a_iconst eX10_price_34 ?_
        refine a_iret eX10_price_35 rfl rfl ⟨Nat.zero_le _, Nat.zero_le _⟩ ?_
        first | exact aw_ret hk (if_neg (by omega)).symm | exact aw_ret hk (by unfold sp_price mprice; rw [if_pos (by omega)]; obtain ⟨q1, q2, q3, q4, q5⟩ := c5 (by omega); rw [q1, q2, q3, q4, q5])
    · skip
      dsimp only [Option.toList, List.cons_append, List.nil_append]
      refine a_if_eq 34 eX10_price_11 (by decide) (by omega) (fun _ => ?_) (fun h => absurd h (by decide))
      refine a_iconst eX10_price_34 ?_
      refine a_iret eX10_price_35 rfl rfl ⟨Nat.zero_le _, Nat.zero_le _⟩ ?_
      first | exact aw_ret hk (if_neg (by omega)).symm | exact aw_ret hk (by unfold sp_price mprice; rw [if_pos (by omega)]; obtain ⟨q1, q2, q3, q4, q5⟩ := c5 (by omega); rw [q1, q2, q3, q4, q5])

noncomputable def sp_may (m : mS) (r z h : Int) : Int := if (0 ≤ r ∧ r < m 0 0) ∧ (0 ≤ z ∧ z ≤ 3) ∧ (0 ≤ h ∧ h ≤ 23) then (@ite Int (mayst m r z h 0) (Classical.propDecidable _) 1 0) else -1
set_option maxHeartbeats 4000000 in
set_option maxRecDepth 100000 in
theorem c_X9_may {l : Launch} {σ : aw_S} {Post : Option Value → aw_S → Prop} {tw cs : Bool} (hR : σ.2.2 = RF tw cs) {t : Nat} (hct : isCity t) (hrt : RF tw cs 0 1 = some t) {m : mS} (hC : cityC σ t m) (wC : wfCity m) {r z h : Int} (hr : (-2147483648 ≤ r ∧ r ≤ 2147483647) ∧ (-2147483648 ≤ z ∧ z ≤ 2147483647) ∧ (-2147483648 ≤ h ∧ h ≤ 2147483647)) (hk : Post (some (.int (jI (sp_may m r z h)))) σ) : AE l yX9_may cX9_may 4 (some .int) 2 46 0 0 SH SH σ [.ref 0, .int (jI r), .int (jI z), .int (jI h)] Post := by
  show AW l yX9_may cX9_may 4 (some .int) 2 46 0 0 SH Post SH 0 0 σ 0 [some (.ref 0), some (.int (jI r)), some (.int (jI z)), some (.int (jI h))] []
  obtain ⟨c1, c2, c3, c4, c5, c6, c7, c8⟩ := id hC
  obtain ⟨w1, w2, w3, w4, w5, w6, w7, w8⟩ := id wC
  refine a_ald0 eX9_may_0 ?_
  refine a_ild1 eX9_may_1 ?_
  refine a_cV1 eX9_may_2 lk_X9_102 mV_X9_hasRank sh_0 ⟨_, rfl, rfl⟩ mt_X9_hasRank rfl rfl rfl rfl rfl (c_X9_hasRank hR hct hrt hC wC (by omega) (fun hT2 => ?_) (fun hF2 => ?_))
  · skip
    dsimp only [Option.toList, List.cons_append, List.nil_append]
    refine a_if_eq 27 eX9_may_5 (by decide) (by omega) (fun h => absurd h (by decide)) (fun _ => ?_)
    refine a_ild2 eX9_may_8 ?_
    refine a_iconst eX9_may_9 ?_
    refine a_iconst eX9_may_10 ?_
    refine a_cS3 eX9_may_11 lk_X9_81 mS_X9_within mt_X9_within rfl rfl rfl rfl rfl rfl rfl (c_X9_within (by omega) (fun hT11 => ?_) (fun hF11 => ?_))
    · skip
      dsimp only [Option.toList, List.cons_append, List.nil_append]
      refine a_if_eq 27 eX9_may_14 (by decide) (by omega) (fun h => absurd h (by decide)) (fun _ => ?_)
      refine a_ild3 eX9_may_17 ?_
      refine a_iconst eX9_may_18 ?_
      refine a_bipush eX9_may_19 (by decide) ?_
      refine a_cS3 eX9_may_21 lk_X9_81 mS_X9_within mt_X9_within rfl rfl rfl rfl rfl rfl rfl (c_X9_within (by omega) (fun hT21 => ?_) (fun hF21 => ?_))
      · skip
        dsimp only [Option.toList, List.cons_append, List.nil_append]
        refine a_if_ne 29 eX9_may_24 (by decide) (by omega) (fun _ => ?_) (fun h => absurd h (by decide))
        refine a_ald0 eX9_may_29 ?_
        refine a_getR 1 t eX9_may_30 fl_X9_19 rfl rfl sh_0 ((congrFun (congrFun hR _) _).trans hrt) ?_
        refine a_ild1 eX9_may_33 ?_
        refine a_ald0 eX9_may_34 ?_
        refine a_getR 1 t eX9_may_35 fl_X9_19 rfl rfl sh_0 ((congrFun (congrFun hR _) _).trans hrt) ?_
        refine a_ild2 eX9_may_38 ?_
        refine a_ild3 eX9_may_39 ?_
        refine a_cV2 eX9_may_40 lk_X9_122 mV_X3_saying (sh_city hct) ⟨_, rfl, rfl⟩ mt_X3_saying rfl rfl rfl rfl rfl rfl (c_X3_saying hct hR (by omega) (by omega) (by omega) (fun k k1 k2 => by have := c4 k k1 (by omega); have := w5 k k1 (by omega); omega) (fun S40 hS40 hT40 => ?_))
        dsimp only [Option.toList, List.cons_append, List.nil_append]
        refine a_iconst eX9_may_43 ?_
        refine a_cV3 eX9_may_44 lk_X9_126 mV_X3_letsStand (sh_city hct) ⟨_, rfl, rfl⟩ mt_X3_letsStand rfl rfl rfl rfl rfl rfl rfl (c_X3_letsStand (L := 0) hct hR (by omega) (c5 _ (by omega) (by omega)).1 hS40 (by decide) (fun hT44 => ?_) (fun hF44 => ?_))
        · skip
          dsimp only [Option.toList, List.cons_append, List.nil_append]
          refine a_if_eq 54 eX9_may_47 (by decide) (by omega) (fun h => absurd h (by decide)) (fun _ => ?_)
          refine a_iconst eX9_may_50 ?_
          refine a_goto 55 eX9_may_51 (by decide) ?_
          refine a_iret eX9_may_55 rfl rfl ⟨Nat.zero_le _, Nat.zero_le _⟩ ?_
          first | exact aw_ret hk (if_neg (by omega)).symm | exact aw_ret hk (by unfold sp_may; rw [if_pos (by omega), if_pos ((mayst_of_ls hC (by omega) hT40).mp (by assumption))]) | exact aw_ret hk (by unfold sp_may; rw [if_pos (by omega), if_neg (fun q => absurd ((mayst_of_ls hC (by omega) hT40).mpr q) (by assumption))])
        · skip
          dsimp only [Option.toList, List.cons_append, List.nil_append]
          refine a_if_eq 54 eX9_may_47 (by decide) (by omega) (fun _ => ?_) (fun h => absurd h (by decide))
          refine a_iconst eX9_may_54 ?_
          refine a_iret eX9_may_55 rfl rfl ⟨Nat.zero_le _, Nat.zero_le _⟩ ?_
          first | exact aw_ret hk (if_neg (by omega)).symm | exact aw_ret hk (by unfold sp_may; rw [if_pos (by omega), if_pos ((mayst_of_ls hC (by omega) hT40).mp (by assumption))]) | exact aw_ret hk (by unfold sp_may; rw [if_pos (by omega), if_neg (fun q => absurd ((mayst_of_ls hC (by omega) hT40).mpr q) (by assumption))])
      · skip
        dsimp only [Option.toList, List.cons_append, List.nil_append]
        refine a_if_ne 29 eX9_may_24 (by decide) (by omega) (fun h => absurd h (by decide)) (fun _ => ?_)
        refine a_iconst eX9_may_27 ?_
        refine a_iret eX9_may_28 rfl rfl ⟨Nat.zero_le _, Nat.zero_le _⟩ ?_
        first | exact aw_ret hk (if_neg (by omega)).symm | exact aw_ret hk (by unfold sp_may; rw [if_pos (by omega), if_pos ((mayst_of_ls hC (by omega) hT40).mp (by assumption))]) | exact aw_ret hk (by unfold sp_may; rw [if_pos (by omega), if_neg (fun q => absurd ((mayst_of_ls hC (by omega) hT40).mpr q) (by assumption))])
    · skip
      dsimp only [Option.toList, List.cons_append, List.nil_append]
      refine a_if_eq 27 eX9_may_14 (by decide) (by omega) (fun _ => ?_) (fun h => absurd h (by decide))
      refine a_iconst eX9_may_27 ?_
      refine a_iret eX9_may_28 rfl rfl ⟨Nat.zero_le _, Nat.zero_le _⟩ ?_
      first | exact aw_ret hk (if_neg (by omega)).symm | exact aw_ret hk (by unfold sp_may; rw [if_pos (by omega), if_pos ((mayst_of_ls hC (by omega) hT40).mp (by assumption))]) | exact aw_ret hk (by unfold sp_may; rw [if_pos (by omega), if_neg (fun q => absurd ((mayst_of_ls hC (by omega) hT40).mpr q) (by assumption))])
  · skip
    dsimp only [Option.toList, List.cons_append, List.nil_append]
    refine a_if_eq 27 eX9_may_5 (by decide) (by omega) (fun _ => ?_) (fun h => absurd h (by decide))
    refine a_iconst eX9_may_27 ?_
    refine a_iret eX9_may_28 rfl rfl ⟨Nat.zero_le _, Nat.zero_le _⟩ ?_
    first | exact aw_ret hk (if_neg (by omega)).symm | exact aw_ret hk (by unfold sp_may; rw [if_pos (by omega), if_pos ((mayst_of_ls hC (by omega) hT40).mp (by assumption))]) | exact aw_ret hk (by unfold sp_may; rw [if_pos (by omega), if_neg (fun q => absurd ((mayst_of_ls hC (by omega) hT40).mpr q) (by assumption))])

/-- a proposition that the arithmetic is not to look into -/
def aw_bx (p : Prop) : Prop := p
theorem aw_ub {p : Prop} (h : aw_bx p) : p := h
theorem aw_mb {p : Prop} (h : p) : aw_bx p := h
set_option maxHeartbeats 4000000 in
set_option maxRecDepth 100000 in
theorem lp_canStand {l : Launch} {σ : aw_S} {Post : Option Value → aw_S → Prop} {tw cs : Bool} (hR : σ.2.2 = RF tw cs) {m : mS} (hM : cityM σ m) (wC : wfCity m) {r z h : Int} {L : Nat} (hr : 0 ≤ r ∧ r < 6) (hz : 0 ≤ z ∧ z ≤ 3) (hh : 0 ≤ h ∧ h ≤ 23) (hL : L < 256) (h1 : mayst m r z h L → Post (some (.int (jI 1))) σ) (h0 : ¬ mayst m r z h L → Post (some (.int (jI 0))) σ)  : ∀ (n : Nat) (k : Int) (av : Int), ((m 0 1 - k).toNat ≤ n) → (0 ≤ k ∧ k ≤ m 0 1) → (av = 0 ∨ av = 1) → (aw_bx (av = 1 ↔ ∃ j : Int, 0 ≤ j ∧ j < k ∧ (m 4 j = r ∧ L.testBit (j).toNat = false))) → (∀ j : Int, 0 ≤ j → j < k → ¬ (m 4 j = r ∧ L.testBit j.toNat = false ∧ (m 5 j = z ∧ m 6 j ≤ h ∧ h ≤ m 7 j))) → AW l yX10_canStand cX10_canStand 7 (some .boolean) 1 22 0 0 SH Post SH 0 0 (σ) 6 [some (.ref 171), some (.int (jI r)), some (.int (jI z)), some (.int (jI h)), some (.int (jI (L : Int))), some (.int (jI av)), some (.int (jI k))] [] := by
  intro n
  induction n with
  | zero =>
    intro k av hm hkk h01 hav hno
    obtain ⟨c1, c2, c3, c4, c5, c6, c7⟩ := id hM
    obtain ⟨w1, w2, w3, w4, w5, w6, w7, w8⟩ := id wC
    have bk := bt_div L k.toNat
    have hpos : (0 : Int) ≤ (L : Int) / 2 ^ k.toNat := Int.ediv_nonneg (Int.natCast_nonneg L) (Int.le_of_lt (Int.pow_pos (by decide)))
    refine a_ild6 eX10_canStand_6 ?_
    refine a_ald0 eX10_canStand_8 ?_
    refine a_getI 16 eX10_canStand_9 fl_X10_238 rfl rfl sh_171 ?_
    refine a_icmp_ge 97 eX10_canStand_12 (by decide) (by omega) (fun hT12 => ?_) (fun hF12 => ?_)
    · skip
      refine a_ild5 eX10_canStand_97 ?_
      refine a_if_ne 106 eX10_canStand_99 (by decide) (by omega) (fun hT99 => ?_) (fun hF99 => ?_)
      · skip
        refine a_iconst eX10_canStand_106 ?_
        refine a_zret eX10_canStand_107 rfl (by first | exact Or.inl rfl | exact Or.inr rfl | omega) rfl ⟨Nat.zero_le _, Nat.zero_le _⟩ ?_
        first
          | exact h1 (Or.inr (fun q => by
              obtain ⟨j, q1, q2, q3⟩ := q
              have := (aw_ub hav).mpr ⟨j, q1, by omega, q3⟩
              omega))
          | exact h0 (fun q => by
              rcases q with ⟨j, q1, q2, q3, q4, q5⟩ | q
              · exact hno j q1 (by omega) ⟨q3, q4, q5⟩
              · obtain ⟨j, q1, q2, q3⟩ := (aw_ub hav).mp (by omega)
                exact q ⟨j, q1, by omega, q3⟩)
      · skip
        refine a_iconst eX10_canStand_102 ?_
        refine a_goto 107 eX10_canStand_103 (by decide) ?_
        refine a_zret eX10_canStand_107 rfl (by first | exact Or.inl rfl | exact Or.inr rfl | omega) rfl ⟨Nat.zero_le _, Nat.zero_le _⟩ ?_
        first
          | exact h1 (Or.inr (fun q => by
              obtain ⟨j, q1, q2, q3⟩ := q
              have := (aw_ub hav).mpr ⟨j, q1, by omega, q3⟩
              omega))
          | exact h0 (fun q => by
              rcases q with ⟨j, q1, q2, q3, q4, q5⟩ | q
              · exact hno j q1 (by omega) ⟨q3, q4, q5⟩
              · obtain ⟨j, q1, q2, q3⟩ := (aw_ub hav).mp (by omega)
                exact q ⟨j, q1, by omega, q3⟩)
    · skip
      exfalso; omega
  | succ n ih =>
    intro k av hm hkk h01 hav hno
    obtain ⟨c1, c2, c3, c4, c5, c6, c7⟩ := id hM
    obtain ⟨w1, w2, w3, w4, w5, w6, w7, w8⟩ := id wC
    have bk := bt_div L k.toNat
    have hpos : (0 : Int) ≤ (L : Int) / 2 ^ k.toNat := Int.ediv_nonneg (Int.natCast_nonneg L) (Int.le_of_lt (Int.pow_pos (by decide)))
    refine a_ild6 eX10_canStand_6 ?_
    refine a_ald0 eX10_canStand_8 ?_
    refine a_getI 16 eX10_canStand_9 fl_X10_238 rfl rfl sh_171 ?_
    refine a_icmp_ge 97 eX10_canStand_12 (by decide) (by omega) (fun hT12 => ?_) (fun hF12 => ?_)
    · skip
      refine a_ild5 eX10_canStand_97 ?_
      refine a_if_ne 106 eX10_canStand_99 (by decide) (by omega) (fun hT99 => ?_) (fun hF99 => ?_)
      · skip
        refine a_iconst eX10_canStand_106 ?_
        refine a_zret eX10_canStand_107 rfl (by first | exact Or.inl rfl | exact Or.inr rfl | omega) rfl ⟨Nat.zero_le _, Nat.zero_le _⟩ ?_
        first
          | exact h1 (Or.inr (fun q => by
              obtain ⟨j, q1, q2, q3⟩ := q
              have := (aw_ub hav).mpr ⟨j, q1, by omega, q3⟩
              omega))
          | exact h0 (fun q => by
              rcases q with ⟨j, q1, q2, q3, q4, q5⟩ | q
              · exact hno j q1 (by omega) ⟨q3, q4, q5⟩
              · obtain ⟨j, q1, q2, q3⟩ := (aw_ub hav).mp (by omega)
                exact q ⟨j, q1, by omega, q3⟩)
      · skip
        refine a_iconst eX10_canStand_102 ?_
        refine a_goto 107 eX10_canStand_103 (by decide) ?_
        refine a_zret eX10_canStand_107 rfl (by first | exact Or.inl rfl | exact Or.inr rfl | omega) rfl ⟨Nat.zero_le _, Nat.zero_le _⟩ ?_
        first
          | exact h1 (Or.inr (fun q => by
              obtain ⟨j, q1, q2, q3⟩ := q
              have := (aw_ub hav).mpr ⟨j, q1, by omega, q3⟩
              omega))
          | exact h0 (fun q => by
              rcases q with ⟨j, q1, q2, q3, q4, q5⟩ | q
              · exact hno j q1 (by omega) ⟨q3, q4, q5⟩
              · obtain ⟨j, q1, q2, q3⟩ := (aw_ub hav).mp (by omega)
                exact q ⟨j, q1, by omega, q3⟩)
    · skip
      have ck := c4 k (by omega) (by omega)
      have wk := w5 k (by omega) (by omega)
      refine a_ald0 eX10_canStand_15 ?_
      refine a_getR 17 179 eX10_canStand_16 fl_X10_33 rfl rfl sh_171 ((congrFun (congrFun hR _) _).trans rf_171_17) ?_
      refine a_iconst eX10_canStand_19 ?_
      refine a_ild6 eX10_canStand_20 ?_
      refine a_imul eX10_canStand_22 ?_
      refine a_iald eX10_canStand_23 sh_179 rfl (by omega) ?_
      refine a_ild1 eX10_canStand_24 ?_
      refine a_icmp_ne 91 eX10_canStand_25 (by decide) (by omega) (fun hT25 => ?_) (fun hF25 => ?_)
      · skip
        refine a_iinc6 eX10_canStand_91 (by decide) aw_n2i ?_
        refine a_goto 6 eX10_canStand_94 (by decide) ?_
        first
          | (have hoff : ¬ (m 4 k = r ∧ L.testBit k.toNat = false) := by
               first
                 | (rintro ⟨q, -⟩; omega)
                 | (rintro ⟨-, q⟩; rw [bk.mpr (by omega)] at q; cases q)
             exact ih (k + 1) av (by omega) (by omega) h01 (aw_mb (by
               constructor
               · intro q; obtain ⟨j, q1, q2, q3⟩ := (aw_ub hav).mp q; exact ⟨j, q1, by omega, q3⟩
               · rintro ⟨j, q1, q2, q3⟩
                 by_cases e : j < k
                 · exact (aw_ub hav).mpr ⟨j, q1, e, q3⟩
                 · exact absurd (show m 4 k = r ∧ L.testBit k.toNat = false by rw [show k = j by omega]; exact q3) hoff)) (by
               intro j j1 j2 q
               by_cases e : j < k
               · exact hno j j1 e q
               · exact hoff (by rw [show k = j by omega]; exact ⟨q.1, q.2.1⟩)))
          | (have hon : m 4 k = r ∧ L.testBit k.toNat = false := ⟨by omega, by
               cases hq : L.testBit k.toNat
               · rfl
               · exact absurd (bk.mp hq) (by omega)⟩
             exact ih (k + 1) 1 (by omega) (by omega) (Or.inr rfl) (aw_mb ⟨fun _ => ⟨k, by omega, by omega, hon⟩, fun _ => rfl⟩) (by
               intro j j1 j2 q
               by_cases e : j < k
               · exact hno j j1 e q
               · obtain ⟨-, -, q1, q2, q3⟩ := q
                 have e2 : j = k := by omega
                 rw [e2] at q1 q2 q3
                 omega))
      · skip
        refine a_ild4 eX10_canStand_28 ?_
        refine a_ild6 eX10_canStand_30 ?_
        refine a_ishr ((L : Int) / 2 ^ k.toNat) eX10_canStand_32 (jI_shr (by omega) (by omega)) ?_
        refine a_iconst eX10_canStand_33 ?_
        refine a_iand ((L : Int) / 2 ^ k.toNat % 2) eX10_canStand_34 (jI_and1 hpos) ?_
        refine a_iconst eX10_canStand_35 ?_
        refine a_icmp_ne 42 eX10_canStand_36 (by decide) (by omega) (fun hT36 => ?_) (fun hF36 => ?_)
        · skip
          refine a_iconst eX10_canStand_42 ?_
          refine a_ist5 eX10_canStand_43 (by decide) aw_n2i ?_
          refine a_ald0 eX10_canStand_45 ?_
          refine a_getR 17 179 eX10_canStand_46 fl_X10_33 rfl rfl sh_171 ((congrFun (congrFun hR _) _).trans rf_171_17) ?_
          refine a_iconst eX10_canStand_49 ?_
          refine a_ild6 eX10_canStand_50 ?_
          refine a_imul eX10_canStand_52 ?_
          refine a_iconst eX10_canStand_53 ?_
          refine a_iadd eX10_canStand_54 ?_
          refine a_iald eX10_canStand_55 sh_179 rfl (by omega) ?_
          refine a_ild2 eX10_canStand_56 ?_
          refine a_icmp_ne 91 eX10_canStand_57 (by decide) (by omega) (fun hT57 => ?_) (fun hF57 => ?_)
          · skip
            refine a_iinc6 eX10_canStand_91 (by decide) aw_n2i ?_
            refine a_goto 6 eX10_canStand_94 (by decide) ?_
            first
              | (have hoff : ¬ (m 4 k = r ∧ L.testBit k.toNat = false) := by
                   first
                     | (rintro ⟨q, -⟩; omega)
                     | (rintro ⟨-, q⟩; rw [bk.mpr (by omega)] at q; cases q)
                 exact ih (k + 1) av (by omega) (by omega) h01 (aw_mb (by
                   constructor
                   · intro q; obtain ⟨j, q1, q2, q3⟩ := (aw_ub hav).mp q; exact ⟨j, q1, by omega, q3⟩
                   · rintro ⟨j, q1, q2, q3⟩
                     by_cases e : j < k
                     · exact (aw_ub hav).mpr ⟨j, q1, e, q3⟩
                     · exact absurd (show m 4 k = r ∧ L.testBit k.toNat = false by rw [show k = j by omega]; exact q3) hoff)) (by
                   intro j j1 j2 q
                   by_cases e : j < k
                   · exact hno j j1 e q
                   · exact hoff (by rw [show k = j by omega]; exact ⟨q.1, q.2.1⟩)))
              | (have hon : m 4 k = r ∧ L.testBit k.toNat = false := ⟨by omega, by
                   cases hq : L.testBit k.toNat
                   · rfl
                   · exact absurd (bk.mp hq) (by omega)⟩
                 exact ih (k + 1) 1 (by omega) (by omega) (Or.inr rfl) (aw_mb ⟨fun _ => ⟨k, by omega, by omega, hon⟩, fun _ => rfl⟩) (by
                   intro j j1 j2 q
                   by_cases e : j < k
                   · exact hno j j1 e q
                   · obtain ⟨-, -, q1, q2, q3⟩ := q
                     have e2 : j = k := by omega
                     rw [e2] at q1 q2 q3
                     omega))
          · skip
            refine a_ild3 eX10_canStand_60 ?_
            refine a_ald0 eX10_canStand_61 ?_
            refine a_getR 17 179 eX10_canStand_62 fl_X10_33 rfl rfl sh_171 ((congrFun (congrFun hR _) _).trans rf_171_17) ?_
            refine a_iconst eX10_canStand_65 ?_
            refine a_ild6 eX10_canStand_66 ?_
            refine a_imul eX10_canStand_68 ?_
            refine a_iconst eX10_canStand_69 ?_
            refine a_iadd eX10_canStand_70 ?_
            refine a_iald eX10_canStand_71 sh_179 rfl (by omega) ?_
            refine a_ald0 eX10_canStand_72 ?_
            refine a_getR 17 179 eX10_canStand_73 fl_X10_33 rfl rfl sh_171 ((congrFun (congrFun hR _) _).trans rf_171_17) ?_
            refine a_iconst eX10_canStand_76 ?_
            refine a_ild6 eX10_canStand_77 ?_
            refine a_imul eX10_canStand_79 ?_
            refine a_iconst eX10_canStand_80 ?_
            refine a_iadd eX10_canStand_81 ?_
            refine a_iald eX10_canStand_82 sh_179 rfl (by omega) ?_
            refine a_cS3 eX10_canStand_83 lk_X10_128 mS_X10_in mt_X10_in rfl rfl rfl rfl rfl rfl rfl (c_X10_in (by omega) (fun hT83 => ?_) (fun hF83 => ?_))
            · skip
              dsimp only [Option.toList, List.cons_append, List.nil_append]
              refine a_if_eq 91 eX10_canStand_86 (by decide) (by omega) (fun h => absurd h (by decide)) (fun _ => ?_)
              refine a_iconst eX10_canStand_89 ?_
              refine a_zret eX10_canStand_90 rfl (by first | exact Or.inl rfl | exact Or.inr rfl | omega) rfl ⟨Nat.zero_le _, Nat.zero_le _⟩ ?_
              exact h1 (Or.inl ⟨k, by omega, by omega, by omega, by cases hq : L.testBit k.toNat; rfl; exact absurd (bk.mp hq) (by omega), by omega⟩)
            · skip
              dsimp only [Option.toList, List.cons_append, List.nil_append]
              refine a_if_eq 91 eX10_canStand_86 (by decide) (by omega) (fun _ => ?_) (fun h => absurd h (by decide))
              refine a_iinc6 eX10_canStand_91 (by decide) aw_n2i ?_
              refine a_goto 6 eX10_canStand_94 (by decide) ?_
              first
                | (have hoff : ¬ (m 4 k = r ∧ L.testBit k.toNat = false) := by
                     first
                       | (rintro ⟨q, -⟩; omega)
                       | (rintro ⟨-, q⟩; rw [bk.mpr (by omega)] at q; cases q)
                   exact ih (k + 1) av (by omega) (by omega) h01 (aw_mb (by
                     constructor
                     · intro q; obtain ⟨j, q1, q2, q3⟩ := (aw_ub hav).mp q; exact ⟨j, q1, by omega, q3⟩
                     · rintro ⟨j, q1, q2, q3⟩
                       by_cases e : j < k
                       · exact (aw_ub hav).mpr ⟨j, q1, e, q3⟩
                       · exact absurd (show m 4 k = r ∧ L.testBit k.toNat = false by rw [show k = j by omega]; exact q3) hoff)) (by
                     intro j j1 j2 q
                     by_cases e : j < k
                     · exact hno j j1 e q
                     · exact hoff (by rw [show k = j by omega]; exact ⟨q.1, q.2.1⟩)))
                | (have hon : m 4 k = r ∧ L.testBit k.toNat = false := ⟨by omega, by
                     cases hq : L.testBit k.toNat
                     · rfl
                     · exact absurd (bk.mp hq) (by omega)⟩
                   exact ih (k + 1) 1 (by omega) (by omega) (Or.inr rfl) (aw_mb ⟨fun _ => ⟨k, by omega, by omega, hon⟩, fun _ => rfl⟩) (by
                     intro j j1 j2 q
                     by_cases e : j < k
                     · exact hno j j1 e q
                     · obtain ⟨-, -, q1, q2, q3⟩ := q
                       have e2 : j = k := by omega
                       rw [e2] at q1 q2 q3
                       omega))
        · skip
          refine a_goto 91 eX10_canStand_39 (by decide) ?_
          refine a_iinc6 eX10_canStand_91 (by decide) aw_n2i ?_
          refine a_goto 6 eX10_canStand_94 (by decide) ?_
          first
            | (have hoff : ¬ (m 4 k = r ∧ L.testBit k.toNat = false) := by
                 first
                   | (rintro ⟨q, -⟩; omega)
                   | (rintro ⟨-, q⟩; rw [bk.mpr (by omega)] at q; cases q)
               exact ih (k + 1) av (by omega) (by omega) h01 (aw_mb (by
                 constructor
                 · intro q; obtain ⟨j, q1, q2, q3⟩ := (aw_ub hav).mp q; exact ⟨j, q1, by omega, q3⟩
                 · rintro ⟨j, q1, q2, q3⟩
                   by_cases e : j < k
                   · exact (aw_ub hav).mpr ⟨j, q1, e, q3⟩
                   · exact absurd (show m 4 k = r ∧ L.testBit k.toNat = false by rw [show k = j by omega]; exact q3) hoff)) (by
                 intro j j1 j2 q
                 by_cases e : j < k
                 · exact hno j j1 e q
                 · exact hoff (by rw [show k = j by omega]; exact ⟨q.1, q.2.1⟩)))
            | (have hon : m 4 k = r ∧ L.testBit k.toNat = false := ⟨by omega, by
                 cases hq : L.testBit k.toNat
                 · rfl
                 · exact absurd (bk.mp hq) (by omega)⟩
               exact ih (k + 1) 1 (by omega) (by omega) (Or.inr rfl) (aw_mb ⟨fun _ => ⟨k, by omega, by omega, hon⟩, fun _ => rfl⟩) (by
                 intro j j1 j2 q
                 by_cases e : j < k
                 · exact hno j j1 e q
                 · obtain ⟨-, -, q1, q2, q3⟩ := q
                   have e2 : j = k := by omega
                   rw [e2] at q1 q2 q3
                   omega))

set_option maxHeartbeats 4000000 in
set_option maxRecDepth 100000 in
theorem c_X10_canStand {l : Launch} {σ : aw_S} {Post : Option Value → aw_S → Prop} {tw cs : Bool} (hR : σ.2.2 = RF tw cs) {m : mS} (hM : cityM σ m) (wC : wfCity m) {r z h : Int} {L : Nat} (hr : 0 ≤ r ∧ r < 6) (hz : 0 ≤ z ∧ z ≤ 3) (hh : 0 ≤ h ∧ h ≤ 23) (hL : L < 256) (h1 : mayst m r z h L → Post (some (.int (jI 1))) σ) (h0 : ¬ mayst m r z h L → Post (some (.int (jI 0))) σ)  : AE l yX10_canStand cX10_canStand 7 (some .boolean) 1 22 0 0 SH SH σ [.ref 171, .int (jI r), .int (jI z), .int (jI h), .int (jI (L : Int))] Post := by
  show AW l yX10_canStand cX10_canStand 7 (some .boolean) 1 22 0 0 SH Post SH 0 0 σ 0 [some (.ref 171), some (.int (jI r)), some (.int (jI z)), some (.int (jI h)), some (.int (jI (L : Int))), none, none] []
  refine a_iconst eX10_canStand_0 ?_
  refine a_ist5 eX10_canStand_1 (by decide) aw_n2i ?_
  refine a_iconst eX10_canStand_3 ?_
  refine a_ist6 eX10_canStand_4 (by decide) aw_n2i ?_
  exact lp_canStand hR hM wC hr hz hh hL h1 h0 _ 0 0 (Nat.le_refl _) ⟨by omega, by have := wC.2.2.2.1; omega⟩ (Or.inl rfl) (aw_mb ⟨fun q => absurd q (by decide), fun ⟨j, q1, q2, q3⟩ => by omega⟩) (fun j j1 j2 => by omega)

set_option maxHeartbeats 4000000 in
set_option maxRecDepth 100000 in
theorem c_X10_may {l : Launch} {σ : aw_S} {Post : Option Value → aw_S → Prop} {tw cs : Bool} (hR : σ.2.2 = RF tw cs) {m : mS} (hM : cityM σ m) (wC : wfCity m) {r z h : Int} (hr : (-2147483648 ≤ r ∧ r ≤ 2147483647) ∧ (-2147483648 ≤ z ∧ z ≤ 2147483647) ∧ (-2147483648 ≤ h ∧ h ≤ 2147483647)) (hk : Post (some (.int (jI (sp_may m r z h)))) σ) : AE l yX10_may cX10_may 4 (some .int) 2 48 0 0 SH SH σ [.ref 171, .int (jI r), .int (jI z), .int (jI h)] Post := by
  show AW l yX10_may cX10_may 4 (some .int) 2 48 0 0 SH Post SH 0 0 σ 0 [some (.ref 171), some (.int (jI r)), some (.int (jI z)), some (.int (jI h))] []
  obtain ⟨c1, c2, c3, c4, c5, c6, c7⟩ := id hM
  obtain ⟨w1, w2, w3, w4, w5, w6, w7, w8⟩ := id wC
  refine a_ald0 eX10_may_0 ?_
  refine a_ild1 eX10_may_1 ?_
  refine a_cV1 eX10_may_2 lk_X10_255 mV_X10_isRank sh_171 ⟨_, rfl, rfl⟩ mt_X10_isRank rfl rfl rfl rfl rfl (c_X10_isRank (by omega) (by omega) (fun hT2 => ?_) (fun hF2 => ?_))
  · skip
    dsimp only [Option.toList, List.cons_append, List.nil_append]
    refine a_if_eq 27 eX10_may_5 (by decide) (by omega) (fun h => absurd h (by decide)) (fun _ => ?_)
    refine a_ild2 eX10_may_8 ?_
    refine a_iconst eX10_may_9 ?_
    refine a_iconst eX10_may_10 ?_
    refine a_cS3 eX10_may_11 lk_X10_128 mS_X10_in mt_X10_in rfl rfl rfl rfl rfl rfl rfl (c_X10_in (by omega) (fun hT11 => ?_) (fun hF11 => ?_))
    · skip
      dsimp only [Option.toList, List.cons_append, List.nil_append]
      refine a_if_eq 27 eX10_may_14 (by decide) (by omega) (fun h => absurd h (by decide)) (fun _ => ?_)
      refine a_ild3 eX10_may_17 ?_
      refine a_iconst eX10_may_18 ?_
      refine a_bipush eX10_may_19 (by decide) ?_
      refine a_cS3 eX10_may_21 lk_X10_128 mS_X10_in mt_X10_in rfl rfl rfl rfl rfl rfl rfl (c_X10_in (by omega) (fun hT21 => ?_) (fun hF21 => ?_))
      · skip
        dsimp only [Option.toList, List.cons_append, List.nil_append]
        refine a_if_ne 31 eX10_may_24 (by decide) (by omega) (fun _ => ?_) (fun h => absurd h (by decide))
        refine a_ald0 eX10_may_31 ?_
        refine a_ild1 eX10_may_32 ?_
        refine a_ild2 eX10_may_33 ?_
        refine a_ild3 eX10_may_34 ?_
        refine a_iconst eX10_may_35 ?_
        refine a_cV4 eX10_may_36 lk_X10_258 mV_X10_canStand sh_171 ⟨_, rfl, rfl⟩ mt_X10_canStand rfl rfl rfl rfl rfl rfl rfl rfl (c_X10_canStand (L := 0) hR hM wC (by omega) (by omega) (by omega) (by decide) (fun hT36 => ?_) (fun hF36 => ?_))
        · skip
          dsimp only [Option.toList, List.cons_append, List.nil_append]
          refine a_if_eq 46 eX10_may_39 (by decide) (by omega) (fun h => absurd h (by decide)) (fun _ => ?_)
          refine a_iconst eX10_may_42 ?_
          refine a_goto 47 eX10_may_43 (by decide) ?_
          refine a_iret eX10_may_47 rfl rfl ⟨Nat.zero_le _, Nat.zero_le _⟩ ?_
          first | exact aw_ret hk (if_neg (by omega)).symm | exact aw_ret hk (by unfold sp_may; rw [if_pos (by omega), if_pos (by assumption)]) | exact aw_ret hk (by unfold sp_may; rw [if_pos (by omega), if_neg (by assumption)])
        · skip
          dsimp only [Option.toList, List.cons_append, List.nil_append]
          refine a_if_eq 46 eX10_may_39 (by decide) (by omega) (fun _ => ?_) (fun h => absurd h (by decide))
          refine a_iconst eX10_may_46 ?_
          refine a_iret eX10_may_47 rfl rfl ⟨Nat.zero_le _, Nat.zero_le _⟩ ?_
          first | exact aw_ret hk (if_neg (by omega)).symm | exact aw_ret hk (by unfold sp_may; rw [if_pos (by omega), if_pos (by assumption)]) | exact aw_ret hk (by unfold sp_may; rw [if_pos (by omega), if_neg (by assumption)])
      · skip
        dsimp only [Option.toList, List.cons_append, List.nil_append]
        refine a_if_ne 31 eX10_may_24 (by decide) (by omega) (fun h => absurd h (by decide)) (fun _ => ?_)
        refine a_iconst eX10_may_27 ?_
        refine a_goto 47 eX10_may_28 (by decide) ?_
        refine a_iret eX10_may_47 rfl rfl ⟨Nat.zero_le _, Nat.zero_le _⟩ ?_
        first | exact aw_ret hk (if_neg (by omega)).symm | exact aw_ret hk (by unfold sp_may; rw [if_pos (by omega), if_pos (by assumption)]) | exact aw_ret hk (by unfold sp_may; rw [if_pos (by omega), if_neg (by assumption)])
    · skip
      dsimp only [Option.toList, List.cons_append, List.nil_append]
      refine a_if_eq 27 eX10_may_14 (by decide) (by omega) (fun _ => ?_) (fun h => absurd h (by decide))
      refine a_iconst eX10_may_27 ?_
      refine a_goto 47 eX10_may_28 (by decide) ?_
      refine a_iret eX10_may_47 rfl rfl ⟨Nat.zero_le _, Nat.zero_le _⟩ ?_
      first | exact aw_ret hk (if_neg (by omega)).symm | exact aw_ret hk (by unfold sp_may; rw [if_pos (by omega), if_pos (by assumption)]) | exact aw_ret hk (by unfold sp_may; rw [if_pos (by omega), if_neg (by assumption)])
  · skip
    dsimp only [Option.toList, List.cons_append, List.nil_append]
    refine a_if_eq 27 eX10_may_5 (by decide) (by omega) (fun _ => ?_) (fun h => absurd h (by decide))
    refine a_iconst eX10_may_27 ?_
    refine a_goto 47 eX10_may_28 (by decide) ?_
    refine a_iret eX10_may_47 rfl rfl ⟨Nat.zero_le _, Nat.zero_le _⟩ ?_
    first | exact aw_ret hk (if_neg (by omega)).symm | exact aw_ret hk (by unfold sp_may; rw [if_pos (by omega), if_pos (by assumption)]) | exact aw_ret hk (by unfold sp_may; rw [if_pos (by omega), if_neg (by assumption)])
