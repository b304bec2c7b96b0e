def sp_rank (m : mS) (r w : Int) : Int := if 0 ≤ r ∧ r < m 0 0 then (if w = 0 then m 1 r else if w = 1 then m 2 r else if w = 2 then m 3 r else if w = 3 then m 10 r else if w = 4 then m 11 r else -1) else -1
set_option maxHeartbeats 4000000 in
set_option maxRecDepth 100000 in
theorem c_X9_rank {l : Launch} {σ : aw_S} {Post : Option Value → aw_S → Prop} {tw cs : Bool} (hR : σ.2.2 = RF tw cs) {t : Nat} (hct : isCity t) (hrt : RF tw cs 0 1 = some t) {m : mS} (hC : cityC σ t m) (wC : wfCity m) {N : Int} (hD : dayC σ 21 0 m) (wD : wfDay m 0 N) (hN : 0 ≤ N ∧ N ≤ 1000) {r w : Int} (hr : (-2147483648 ≤ r ∧ r ≤ 2147483647) ∧ (-2147483648 ≤ w ∧ w ≤ 2147483647)) (hk : Post (some (.int (jI (sp_rank m r w)))) σ) : AE l yX9_rank cX9_rank 3 (some .int) 2 43 0 0 SH SH σ [.ref 0, .int (jI r), .int (jI w)] Post := by
  show AW l yX9_rank cX9_rank 3 (some .int) 2 43 0 0 SH Post SH 0 0 σ 0 [some (.ref 0), some (.int (jI r)), some (.int (jI w))] []
  obtain ⟨c1, c2, c3, c4, c5, c6, c7, c8⟩ := id hC
  obtain ⟨w1, w2, w3, w4, w5, w6, w7, w8⟩ := id wC
  obtain ⟨d1, d2, d3, d4, d5, d6, d7⟩ := id hD
  obtain ⟨v1, v2, v3, v4, v5, v6, v7, v8⟩ := id wD
  simp only [Int.zero_add] at d4 d5 d6 d7 v4 v5 v6 v7 v8
  refine a_ald0 eX9_rank_0 ?_
  refine a_ild1 eX9_rank_1 ?_
  refine a_cV1 eX9_rank_2 lk_X9_102 mV_X9_hasRank sh_0 ⟨_, rfl, rfl⟩ mt_X9_hasRank rfl rfl rfl rfl rfl (c_X9_hasRank hR hct hrt hC wC (by omega) (fun hT2 => ?_) (fun hF2 => ?_))
  · skip
    dsimp only [Option.toList, List.cons_append, List.nil_append]
    refine a_if_ne 10 eX9_rank_5 (by decide) (by omega) (fun _ => ?_) (fun h => absurd h (by decide))
    refine a_ild2 eX9_rank_10 ?_
    by_cases hsw : 0 ≤ w ∧ w ≤ 4
    · have hsx : w = 0 ∨ w = 1 ∨ w = 2 ∨ w = 3 ∨ w = 4 := by omega
      rcases hsx with rfl | rfl | rfl | rfl | rfl
      · refine a_table 33 44 eX9_rank_11 (by omega) (by omega) (by omega) rfl (by decide) ?_
        refine a_ald0 eX9_rank_44 ?_
        refine a_getR 1 t eX9_rank_45 fl_X9_19 rfl rfl sh_0 ((congrFun (congrFun hR _) _).trans hrt) ?_
        refine a_getR 1 (t + 1) eX9_rank_48 fl_X9_106 rfl rfl (sh_city hct) ((congrFun (congrFun hR _) _).trans (rf_city_1 hct)) ?_
        refine a_ild1 eX9_rank_51 ?_
        refine a_iald eX9_rank_52 (sh_city_1 hct) rfl (by omega) ?_
        refine a_iret eX9_rank_53 rfl rfl ⟨Nat.zero_le _, Nat.zero_le _⟩ ?_
        first | (have cr := c2 r (by omega) (by omega); have dr := d4 r (by omega) (by omega); refine aw_ret hk ?_; unfold sp_rank; (repeat (first | rw [if_pos (by omega)] | rw [if_neg (by omega)])); omega) | (refine aw_ret hk ?_; unfold sp_rank; (repeat (first | rw [if_pos (by omega)] | rw [if_neg (by omega)])); done)
      · refine a_table 43 54 eX9_rank_11 (by omega) (by omega) (by omega) rfl (by decide) ?_
        refine a_ald0 eX9_rank_54 ?_
        refine a_getR 1 t eX9_rank_55 fl_X9_19 rfl rfl sh_0 ((congrFun (congrFun hR _) _).trans hrt) ?_
        refine a_getR 2 (t + 2) eX9_rank_58 fl_X9_110 rfl rfl (sh_city hct) ((congrFun (congrFun hR _) _).trans (rf_city_2 hct)) ?_
        refine a_ild1 eX9_rank_61 ?_
        refine a_iald eX9_rank_62 (sh_city_2 hct) rfl (by omega) ?_
        refine a_iret eX9_rank_63 rfl rfl ⟨Nat.zero_le _, Nat.zero_le _⟩ ?_
        first | (have cr := c2 r (by omega) (by omega); have dr := d4 r (by omega) (by omega); refine aw_ret hk ?_; unfold sp_rank; (repeat (first | rw [if_pos (by omega)] | rw [if_neg (by omega)])); omega) | (refine aw_ret hk ?_; unfold sp_rank; (repeat (first | rw [if_pos (by omega)] | rw [if_neg (by omega)])); done)
      · refine a_table 53 64 eX9_rank_11 (by omega) (by omega) (by omega) rfl (by decide) ?_
        refine a_ald0 eX9_rank_64 ?_
        refine a_getR 1 t eX9_rank_65 fl_X9_19 rfl rfl sh_0 ((congrFun (congrFun hR _) _).trans hrt) ?_
        refine a_getR 3 (t + 3) eX9_rank_68 fl_X9_113 rfl rfl (sh_city hct) ((congrFun (congrFun hR _) _).trans (rf_city_3 hct)) ?_
        refine a_ild1 eX9_rank_71 ?_
        refine a_iald eX9_rank_72 (sh_city_3 hct) rfl (by omega) ?_
        refine a_iret eX9_rank_73 rfl rfl ⟨Nat.zero_le _, Nat.zero_le _⟩ ?_
        first | (have cr := c2 r (by omega) (by omega); have dr := d4 r (by omega) (by omega); refine aw_ret hk ?_; unfold sp_rank; (repeat (first | rw [if_pos (by omega)] | rw [if_neg (by omega)])); omega) | (refine aw_ret hk ?_; unfold sp_rank; (repeat (first | rw [if_pos (by omega)] | rw [if_neg (by omega)])); done)
      · refine a_table 63 74 eX9_rank_11 (by omega) (by omega) (by omega) rfl (by decide) ?_
        refine a_ald0 eX9_rank_74 ?_
        refine a_getR 2 21 eX9_rank_75 fl_X9_26 rfl rfl sh_0 ((congrFun (congrFun hR _) _).trans rf_0_2) ?_
        refine a_getR 4 (21 + 9) eX9_rank_78 fl_X9_116 rfl rfl (sh_day (Or.inl rfl)) ((congrFun (congrFun hR _) _).trans (rf_day_4 (Or.inl rfl))) ?_
        refine a_ild1 eX9_rank_81 ?_
        refine a_iald eX9_rank_82 (sh_day_9 (Or.inl rfl)) rfl (by omega) ?_
        refine a_iret eX9_rank_83 rfl rfl ⟨Nat.zero_le _, Nat.zero_le _⟩ ?_
        first | (have cr := c2 r (by omega) (by omega); have dr := d4 r (by omega) (by omega); refine aw_ret hk ?_; unfold sp_rank; (repeat (first | rw [if_pos (by omega)] | rw [if_neg (by omega)])); omega) | (refine aw_ret hk ?_; unfold sp_rank; (repeat (first | rw [if_pos (by omega)] | rw [if_neg (by omega)])); done)
      · refine a_table 73 84 eX9_rank_11 (by omega) (by omega) (by omega) rfl (by decide) ?_
        refine a_ald0 eX9_rank_84 ?_
        refine a_getR 2 21 eX9_rank_85 fl_X9_26 rfl rfl sh_0 ((congrFun (congrFun hR _) _).trans rf_0_2) ?_
        refine a_getR 5 (21 + 10) eX9_rank_88 fl_X9_119 rfl rfl (sh_day (Or.inl rfl)) ((congrFun (congrFun hR _) _).trans (rf_day_5 (Or.inl rfl))) ?_
        refine a_ild1 eX9_rank_91 ?_
        refine a_iald eX9_rank_92 (sh_day_10 (Or.inl rfl)) rfl (by omega) ?_
        refine a_iret eX9_rank_93 rfl rfl ⟨Nat.zero_le _, Nat.zero_le _⟩ ?_
        first | (have cr := c2 r (by omega) (by omega); have dr := d4 r (by omega) (by omega); refine aw_ret hk ?_; unfold sp_rank; (repeat (first | rw [if_pos (by omega)] | rw [if_neg (by omega)])); omega) | (refine aw_ret hk ?_; unfold sp_rank; (repeat (first | rw [if_pos (by omega)] | rw [if_neg (by omega)])); done)
    · refine a_tableOut 94 eX9_rank_11 (by omega) (by omega) (by decide) ?_
      refine a_iconst eX9_rank_94 ?_
      refine a_iret eX9_rank_95 rfl rfl ⟨Nat.zero_le _, Nat.zero_le _⟩ ?_
      first | (have cr := c2 r (by omega) (by omega); have dr := d4 r (by omega) (by omega); refine aw_ret hk ?_; unfold sp_rank; (repeat (first | rw [if_pos (by omega)] | rw [if_neg (by omega)])); omega) | (refine aw_ret hk ?_; unfold sp_rank; (repeat (first | rw [if_pos (by omega)] | rw [if_neg (by omega)])); done)
  · skip
    dsimp only [Option.toList, List.cons_append, List.nil_append]
    refine a_if_ne 10 eX9_rank_5 (by decide) (by omega) (fun h => absurd h (by decide)) (fun _ => ?_)
    refine a_iconst eX9_rank_8 ?_
    refine a_iret eX9_rank_9 rfl rfl ⟨Nat.zero_le _, Nat.zero_le _⟩ ?_
    first | (have cr := c2 r (by omega) (by omega); have dr := d4 r (by omega) (by omega); refine aw_ret hk ?_; unfold sp_rank; (repeat (first | rw [if_pos (by omega)] | rw [if_neg (by omega)])); omega) | (refine aw_ret hk ?_; unfold sp_rank; (repeat (first | rw [if_pos (by omega)] | rw [if_neg (by omega)])); done)

set_option maxHeartbeats 4000000 in
set_option maxRecDepth 100000 in
theorem c_X10_rank {l : Launch} {σ : aw_S} {Post : Option Value → aw_S → Prop} {tw cs : Bool} (hR : σ.2.2 = RF tw cs) {m : mS} (hM : cityM σ m) (wC : wfCity m) {N : Int} (hM2 : dayM σ m) (wD : wfDay m 0 N) (hN : 0 ≤ N ∧ N ≤ 1000) {r w : Int} (hr : (-2147483648 ≤ r ∧ r ≤ 2147483647) ∧ (-2147483648 ≤ w ∧ w ≤ 2147483647)) (hk : Post (some (.int (jI (sp_rank m r w)))) σ) : AE l yX10_rank cX10_rank 3 (some .int) 2 43 0 0 SH SH σ [.ref 171, .int (jI r), .int (jI w)] Post := by
  show AW l yX10_rank cX10_rank 3 (some .int) 2 43 0 0 SH Post SH 0 0 σ 0 [some (.ref 171), some (.int (jI r)), some (.int (jI w))] []
  obtain ⟨c1, c2, c3, c4, c5, c6, c7⟩ := id hM
  obtain ⟨w1, w2, w3, w4, w5, w6, w7, w8⟩ := id wC
  obtain ⟨d1, d2, d3, d4, d5, d6, d7⟩ := id hM2
  obtain ⟨v1, v2, v3, v4, v5, v6, v7, v8⟩ := id wD
  simp only [Int.zero_add] at d4 d5 d6 d7 v4 v5 v6 v7 v8
  refine a_ald0 eX10_rank_0 ?_
  refine a_ild1 eX10_rank_1 ?_
  refine a_cV1 eX10_rank_2 lk_X10_255 mV_X10_isRank sh_171 ⟨_, rfl, rfl⟩ mt_X10_isRank rfl rfl rfl rfl rfl (c_X10_isRank (by omega) (by omega) (fun hT2 => ?_) (fun hF2 => ?_))
  · skip
    dsimp only [Option.toList, List.cons_append, List.nil_append]
    refine a_if_eq 17 eX10_rank_5 (by decide) (by omega) (fun h => absurd h (by decide)) (fun _ => ?_)
    refine a_ild2 eX10_rank_8 ?_
    refine a_iconst eX10_rank_9 ?_
    refine a_iconst eX10_rank_10 ?_
    refine a_cS3 eX10_rank_11 lk_X10_128 mS_X10_in mt_X10_in rfl rfl rfl rfl rfl rfl rfl (c_X10_in (by omega) (fun hT11 => ?_) (fun hF11 => ?_))
    · skip
      dsimp only [Option.toList, List.cons_append, List.nil_append]
      refine a_if_ne 19 eX10_rank_14 (by decide) (by omega) (fun _ => ?_) (fun h => absurd h (by decide))
      refine a_ild2 eX10_rank_19 ?_
      refine a_iconst eX10_rank_20 ?_
      refine a_icmp_ge 37 eX10_rank_21 (by decide) (by omega) (fun hT21 => ?_) (fun hF21 => ?_)
      · skip
        refine a_ild2 eX10_rank_37 ?_
        refine a_iconst eX10_rank_38 ?_
        refine a_icmp_ne 51 eX10_rank_39 (by decide) (by omega) (fun hT39 => ?_) (fun hF39 => ?_)
        · skip
          refine a_ald0 eX10_rank_51 ?_
          refine a_getR 28 186 eX10_rank_52 fl_X10_54 rfl rfl sh_171 ((congrFun (congrFun hR _) _).trans rf_171_28) ?_
          refine a_ild1 eX10_rank_55 ?_
          refine a_iald eX10_rank_56 sh_186 rfl (by omega) ?_
          refine a_iret eX10_rank_57 rfl rfl ⟨Nat.zero_le _, Nat.zero_le _⟩ ?_
          first | (refine aw_ret hk ?_; unfold sp_rank; (repeat (first | rw [if_pos (by omega)] | rw [if_neg (by omega)])); done) | (have cr := c2 r (by omega) (by omega); have dr := d4 r (by omega) (by omega); rcases (show w = 0 ∨ w = 1 ∨ w = 2 ∨ w = 3 ∨ w = 4 by omega) with rfl | rfl | rfl | rfl | rfl <;> first | (exfalso; omega) | (refine aw_ret hk ?_; unfold sp_rank; (repeat (first | rw [if_pos (by omega)] | rw [if_neg (by omega)])); (try rw [Int.add_zero]); omega))
        · skip
          refine a_ald0 eX10_rank_42 ?_
          refine a_getR 25 184 eX10_rank_43 fl_X10_48 rfl rfl sh_171 ((congrFun (congrFun hR _) _).trans rf_171_25) ?_
          refine a_ild1 eX10_rank_46 ?_
          refine a_iald eX10_rank_47 sh_184 rfl (by omega) ?_
          refine a_goto 57 eX10_rank_48 (by decide) ?_
          refine a_iret eX10_rank_57 rfl rfl ⟨Nat.zero_le _, Nat.zero_le _⟩ ?_
          first | (refine aw_ret hk ?_; unfold sp_rank; (repeat (first | rw [if_pos (by omega)] | rw [if_neg (by omega)])); done) | (have cr := c2 r (by omega) (by omega); have dr := d4 r (by omega) (by omega); rcases (show w = 0 ∨ w = 1 ∨ w = 2 ∨ w = 3 ∨ w = 4 by omega) with rfl | rfl | rfl | rfl | rfl <;> first | (exfalso; omega) | (refine aw_ret hk ?_; unfold sp_rank; (repeat (first | rw [if_pos (by omega)] | rw [if_neg (by omega)])); (try rw [Int.add_zero]); omega))
      · skip
        refine a_ald0 eX10_rank_24 ?_
        refine a_getR 15 178 eX10_rank_25 fl_X10_30 rfl rfl sh_171 ((congrFun (congrFun hR _) _).trans rf_171_15) ?_
        refine a_iconst eX10_rank_28 ?_
        refine a_ild1 eX10_rank_29 ?_
        refine a_imul eX10_rank_30 ?_
        refine a_ild2 eX10_rank_31 ?_
        refine a_iadd eX10_rank_32 ?_
        refine a_iald eX10_rank_33 sh_178 rfl (by omega) ?_
        refine a_goto 57 eX10_rank_34 (by decide) ?_
        refine a_iret eX10_rank_57 rfl rfl ⟨Nat.zero_le _, Nat.zero_le _⟩ ?_
        first | (refine aw_ret hk ?_; unfold sp_rank; (repeat (first | rw [if_pos (by omega)] | rw [if_neg (by omega)])); done) | (have cr := c2 r (by omega) (by omega); have dr := d4 r (by omega) (by omega); rcases (show w = 0 ∨ w = 1 ∨ w = 2 ∨ w = 3 ∨ w = 4 by omega) with rfl | rfl | rfl | rfl | rfl <;> first | (exfalso; omega) | (refine aw_ret hk ?_; unfold sp_rank; (repeat (first | rw [if_pos (by omega)] | rw [if_neg (by omega)])); (try rw [Int.add_zero]); omega))
    · skip
      dsimp only [Option.toList, List.cons_append, List.nil_append]
      refine a_if_ne 19 eX10_rank_14 (by decide) (by omega) (fun h => absurd h (by decide)) (fun _ => ?_)
      refine a_iconst eX10_rank_17 ?_
      refine a_iret eX10_rank_18 rfl rfl ⟨Nat.zero_le _, Nat.zero_le _⟩ ?_
      first | (refine aw_ret hk ?_; unfold sp_rank; (repeat (first | rw [if_pos (by omega)] | rw [if_neg (by omega)])); done) | (have cr := c2 r (by omega) (by omega); have dr := d4 r (by omega) (by omega); rcases (show w = 0 ∨ w = 1 ∨ w = 2 ∨ w = 3 ∨ w = 4 by omega) with rfl | rfl | rfl | rfl | rfl <;> first | (exfalso; omega) | (refine aw_ret hk ?_; unfold sp_rank; (repeat (first | rw [if_pos (by omega)] | rw [if_neg (by omega)])); (try rw [Int.add_zero]); omega))
  · skip
    dsimp only [Option.toList, List.cons_append, List.nil_append]
    refine a_if_eq 17 eX10_rank_5 (by decide) (by omega) (fun _ => ?_) (fun h => absurd h (by decide))
    refine a_iconst eX10_rank_17 ?_
    refine a_iret eX10_rank_18 rfl rfl ⟨Nat.zero_le _, Nat.zero_le _⟩ ?_
    first | (refine aw_ret hk ?_; unfold sp_rank; (repeat (first | rw [if_pos (by omega)] | rw [if_neg (by omega)])); done) | (have cr := c2 r (by omega) (by omega); have dr := d4 r (by omega) (by omega); rcases (show w = 0 ∨ w = 1 ∨ w = 2 ∨ w = 3 ∨ w = 4 by omega) with rfl | rfl | rfl | rfl | rfl <;> first | (exfalso; omega) | (refine aw_ret hk ?_; unfold sp_rank; (repeat (first | rw [if_pos (by omega)] | rw [if_neg (by omega)])); (try rw [Int.add_zero]); omega))

def sp_row (m : mS) (r k : Int) : Int := if (0 ≤ r ∧ r < m 0 0) ∧ 0 ≤ k ∧ k < m 10 r then m (200 + r) k else -1
set_option maxHeartbeats 4000000 in
set_option maxRecDepth 100000 in
theorem c_X9_row {l : Launch} {σ : aw_S} {Post : Option Value → aw_S → Prop} {tw cs : Bool} (hR : σ.2.2 = RF tw cs) {t : Nat} (hct : isCity t) (hrt : RF tw cs 0 1 = some t) {m : mS} (hC : cityC σ t m) (wC : wfCity m) {N : Int} (hD : dayC σ 21 0 m) (wD : wfDay m 0 N) (hN : 0 ≤ N ∧ N ≤ 1000) {r k : Int} (hr : (-2147483648 ≤ r ∧ r ≤ 2147483647) ∧ (-2147483648 ≤ k ∧ k ≤ 2147483647)) (hk : Post (some (.int (jI (sp_row m r k)))) σ) : AE l yX9_row cX9_row 3 (some .int) 2 43 0 0 SH SH σ [.ref 0, .int (jI r), .int (jI k)] Post := by
  show AW l yX9_row cX9_row 3 (some .int) 2 43 0 0 SH Post SH 0 0 σ 0 [some (.ref 0), some (.int (jI r)), some (.int (jI k))] []
  obtain ⟨c1, c2, c3, c4, c5, c6, c7, c8⟩ := id hC
  obtain ⟨w1, w2, w3, w4, w5, w6, w7, w8⟩ := id wC
  obtain ⟨d1, d2, d3, d4, d5, d6, d7⟩ := id hD
  obtain ⟨v1, v2, v3, v4, v5, v6, v7, v8⟩ := id wD
  simp only [Int.zero_add] at d4 d5 d6 d7 v4 v5 v6 v7 v8
  refine a_ald0 eX9_row_0 ?_
  refine a_ild1 eX9_row_1 ?_
  refine a_cV1 eX9_row_2 lk_X9_102 mV_X9_hasRank sh_0 ⟨_, rfl, rfl⟩ mt_X9_hasRank rfl rfl rfl rfl rfl (c_X9_hasRank hR hct hrt hC wC (by omega) (fun hT2 => ?_) (fun hF2 => ?_))
  · skip
    dsimp only [Option.toList, List.cons_append, List.nil_append]
    refine a_if_eq 27 eX9_row_5 (by decide) (by omega) (fun h => absurd h (by decide)) (fun _ => ?_)
    have dr := d4 r (by omega) (by omega)
    have vr := v4 r (by omega) (by omega)
    refine a_ild2 eX9_row_8 ?_
    refine a_iconst eX9_row_9 ?_
    refine a_ald0 eX9_row_10 ?_
    refine a_getR 2 21 eX9_row_11 fl_X9_26 rfl rfl sh_0 ((congrFun (congrFun hR _) _).trans rf_0_2) ?_
    refine a_getR 4 (21 + 9) eX9_row_14 fl_X9_116 rfl rfl (sh_day (Or.inl rfl)) ((congrFun (congrFun hR _) _).trans (rf_day_4 (Or.inl rfl))) ?_
    refine a_ild1 eX9_row_17 ?_
    refine a_iald eX9_row_18 (sh_day_9 (Or.inl rfl)) rfl (by omega) ?_
    refine a_iconst eX9_row_19 ?_
    refine a_isub eX9_row_20 ?_
    refine a_cS3 eX9_row_21 lk_X9_81 mS_X9_within mt_X9_within rfl rfl rfl rfl rfl rfl rfl (c_X9_within (by omega) (fun hT21 => ?_) (fun hF21 => ?_))
    · skip
      dsimp only [Option.toList, List.cons_append, List.nil_append]
      refine a_if_ne 29 eX9_row_24 (by decide) (by omega) (fun _ => ?_) (fun h => absurd h (by decide))
      refine a_ald0 eX9_row_29 ?_
      refine a_getR 2 21 eX9_row_30 fl_X9_26 rfl rfl sh_0 ((congrFun (congrFun hR _) _).trans rf_0_2) ?_
      refine a_getR 3 (21 + 2) eX9_row_33 fl_X9_183 rfl rfl (sh_day (Or.inl rfl)) ((congrFun (congrFun hR _) _).trans (rf_day_3 (Or.inl rfl))) ?_
      refine a_ild1 eX9_row_36 ?_
      refine a_aald _ eX9_row_37 (sh_day_2 (Or.inl rfl)) rfl rfl rfl (by omega) ((congrFun (congrFun hR _) _).trans (rf_row (Or.inl rfl) (by omega))) ?_
      refine a_ild2 eX9_row_38 ?_
      refine a_iald eX9_row_39 (sh_row (Or.inl rfl) (by omega)) rfl (by omega) ?_
      refine a_iret eX9_row_40 rfl rfl ⟨Nat.zero_le _, Nat.zero_le _⟩ ?_
      first | (have e6 := d6 r k (by omega) (by omega) (by omega) (by omega); refine aw_ret hk ?_; unfold sp_row; (repeat (first | rw [if_pos (by omega)] | rw [if_neg (by omega)])); exact e6) | (refine aw_ret hk ?_; unfold sp_row; (repeat (first | rw [if_pos (by omega)] | rw [if_neg (by omega)])); done)
    · skip
      dsimp only [Option.toList, List.cons_append, List.nil_append]
      refine a_if_ne 29 eX9_row_24 (by decide) (by omega) (fun h => absurd h (by decide)) (fun _ => ?_)
      refine a_iconst eX9_row_27 ?_
      refine a_iret eX9_row_28 rfl rfl ⟨Nat.zero_le _, Nat.zero_le _⟩ ?_
      first | (have e6 := d6 r k (by omega) (by omega) (by omega) (by omega); refine aw_ret hk ?_; unfold sp_row; (repeat (first | rw [if_pos (by omega)] | rw [if_neg (by omega)])); exact e6) | (refine aw_ret hk ?_; unfold sp_row; (repeat (first | rw [if_pos (by omega)] | rw [if_neg (by omega)])); done)
  · skip
    dsimp only [Option.toList, List.cons_append, List.nil_append]
    refine a_if_eq 27 eX9_row_5 (by decide) (by omega) (fun _ => ?_) (fun h => absurd h (by decide))
    refine a_iconst eX9_row_27 ?_
    refine a_iret eX9_row_28 rfl rfl ⟨Nat.zero_le _, Nat.zero_le _⟩ ?_
    first | (have e6 := d6 r k (by omega) (by omega) (by omega) (by omega); refine aw_ret hk ?_; unfold sp_row; (repeat (first | rw [if_pos (by omega)] | rw [if_neg (by omega)])); exact e6) | (refine aw_ret hk ?_; unfold sp_row; (repeat (first | rw [if_pos (by omega)] | rw [if_neg (by omega)])); done)

set_option maxHeartbeats 4000000 in
set_option maxRecDepth 100000 in
theorem c_X10_row {l : Launch} {σ : aw_S} {Post : Option Value → aw_S → Prop} {tw cs : Bool} (hR : σ.2.2 = RF tw cs) {m : mS} (hM : cityM σ m) (wC : wfCity m) {N : Int} (hM2 : dayM σ m) (wD : wfDay m 0 N) (hN : 0 ≤ N ∧ N ≤ 1000) {r k : Int} (hr : (-2147483648 ≤ r ∧ r ≤ 2147483647) ∧ (-2147483648 ≤ k ∧ k ≤ 2147483647)) (hk : Post (some (.int (jI (sp_row m r k)))) σ) : AE l yX10_row cX10_row 3 (some .int) 2 43 0 0 SH SH σ [.ref 171, .int (jI r), .int (jI k)] Post := by
  show AW l yX10_row cX10_row 3 (some .int) 2 43 0 0 SH Post SH 0 0 σ 0 [some (.ref 171), some (.int (jI r)), some (.int (jI k))] []
  obtain ⟨c1, c2, c3, c4, c5, c6, c7⟩ := id hM
  obtain ⟨w1, w2, w3, w4, w5, w6, w7, w8⟩ := id wC
  obtain ⟨d1, d2, d3, d4, d5, d6, d7⟩ := id hM2
  obtain ⟨v1, v2, v3, v4, v5, v6, v7, v8⟩ := id wD
  simp only [Int.zero_add] at d4 d5 d6 d7 v4 v5 v6 v7 v8
  refine a_ald0 eX10_row_0 ?_
  refine a_ild1 eX10_row_1 ?_
  refine a_cV1 eX10_row_2 lk_X10_255 mV_X10_isRank sh_171 ⟨_, rfl, rfl⟩ mt_X10_isRank rfl rfl rfl rfl rfl (c_X10_isRank (by omega) (by omega) (fun hT2 => ?_) (fun hF2 => ?_))
  · skip
    dsimp only [Option.toList, List.cons_append, List.nil_append]
    refine a_if_eq 38 eX10_row_5 (by decide) (by omega) (fun h => absurd h (by decide)) (fun _ => ?_)
    have dr := d4 r (by omega) (by omega)
    have vr := v4 r (by omega) (by omega)
    refine a_ild2 eX10_row_8 ?_
    refine a_iconst eX10_row_9 ?_
    refine a_ald0 eX10_row_10 ?_
    refine a_getR 25 184 eX10_row_11 fl_X10_48 rfl rfl sh_171 ((congrFun (congrFun hR _) _).trans rf_171_25) ?_
    refine a_ild1 eX10_row_14 ?_
    refine a_iald eX10_row_15 sh_184 rfl (by omega) ?_
    refine a_iconst eX10_row_16 ?_
    refine a_isub eX10_row_17 ?_
    refine a_cS3 eX10_row_18 lk_X10_128 mS_X10_in mt_X10_in rfl rfl rfl rfl rfl rfl rfl (c_X10_in (by omega) (fun hT18 => ?_) (fun hF18 => ?_))
    · skip
      dsimp only [Option.toList, List.cons_append, List.nil_append]
      refine a_if_eq 38 eX10_row_21 (by decide) (by omega) (fun h => absurd h (by decide)) (fun _ => ?_)
      refine a_ald0 eX10_row_24 ?_
      refine a_getR 24 183 eX10_row_25 fl_X10_45 rfl rfl sh_171 ((congrFun (congrFun hR _) _).trans rf_171_24) ?_
      refine a_bipush eX10_row_28 (by decide) ?_
      refine a_ild1 eX10_row_30 ?_
      refine a_imul eX10_row_31 ?_
      refine a_ild2 eX10_row_32 ?_
      refine a_iadd eX10_row_33 ?_
      refine a_iald eX10_row_34 sh_183 rfl (by omega) ?_
      refine a_goto 39 eX10_row_35 (by decide) ?_
      refine a_iret eX10_row_39 rfl rfl ⟨Nat.zero_le _, Nat.zero_le _⟩ ?_
      first | (have e6 := d6 r k (by omega) (by omega) (by omega) (by omega); refine aw_ret hk ?_; unfold sp_row; (repeat (first | rw [if_pos (by omega)] | rw [if_neg (by omega)])); exact e6) | (refine aw_ret hk ?_; unfold sp_row; (repeat (first | rw [if_pos (by omega)] | rw [if_neg (by omega)])); done)
    · skip
      dsimp only [Option.toList, List.cons_append, List.nil_append]
      refine a_if_eq 38 eX10_row_21 (by decide) (by omega) (fun _ => ?_) (fun h => absurd h (by decide))
      refine a_iconst eX10_row_38 ?_
      refine a_iret eX10_row_39 rfl rfl ⟨Nat.zero_le _, Nat.zero_le _⟩ ?_
      first | (have e6 := d6 r k (by omega) (by omega) (by omega) (by omega); refine aw_ret hk ?_; unfold sp_row; (repeat (first | rw [if_pos (by omega)] | rw [if_neg (by omega)])); exact e6) | (refine aw_ret hk ?_; unfold sp_row; (repeat (first | rw [if_pos (by omega)] | rw [if_neg (by omega)])); done)
  · skip
    dsimp only [Option.toList, List.cons_append, List.nil_append]
    refine a_if_eq 38 eX10_row_5 (by decide) (by omega) (fun _ => ?_) (fun h => absurd h (by decide))
    refine a_iconst eX10_row_38 ?_
    refine a_iret eX10_row_39 rfl rfl ⟨Nat.zero_le _, Nat.zero_le _⟩ ?_
    first | (have e6 := d6 r k (by omega) (by omega) (by omega) (by omega); refine aw_ret hk ?_; unfold sp_row; (repeat (first | rw [if_pos (by omega)] | rw [if_neg (by omega)])); exact e6) | (refine aw_ret hk ?_; unfold sp_row; (repeat (first | rw [if_pos (by omega)] | rw [if_neg (by omega)])); done)

def sp_pass (m : mS) (k w : Int) : Int := if k = -1 then m 0 5 else if (0 ≤ k ∧ k < m 0 5) ∧ 0 ≤ w ∧ w ≤ 4 then m (300 + k) w else -1
set_option maxHeartbeats 4000000 in
set_option maxRecDepth 100000 in
theorem c_X9_pass {l : Launch} {σ : aw_S} {Post : Option Value → aw_S → Prop} {tw cs : Bool} (hR : σ.2.2 = RF tw cs) {t : Nat} (hct : isCity t) (hrt : RF tw cs 0 1 = some t) {m : mS} (hC : cityC σ t m) (wC : wfCity m) {N : Int} (hD : dayC σ 21 0 m) (wD : wfDay m 0 N) (hN : 0 ≤ N ∧ N ≤ 1000) {k w : Int} (hr : (-2147483648 ≤ k ∧ k ≤ 2147483647) ∧ (-2147483648 ≤ w ∧ w ≤ 2147483647)) (hk : Post (some (.int (jI (sp_pass m k w)))) σ) : AE l yX9_pass cX9_pass 3 (some .int) 1 22 0 0 SH SH σ [.ref 0, .int (jI k), .int (jI w)] Post := by
  show AW l yX9_pass cX9_pass 3 (some .int) 1 22 0 0 SH Post SH 0 0 σ 0 [some (.ref 0), some (.int (jI k)), some (.int (jI w))] []
  obtain ⟨c1, c2, c3, c4, c5, c6, c7, c8⟩ := id hC
  obtain ⟨w1, w2, w3, w4, w5, w6, w7, w8⟩ := id wC
  obtain ⟨d1, d2, d3, d4, d5, d6, d7⟩ := id hD
  obtain ⟨v1, v2, v3, v4, v5, v6, v7, v8⟩ := id wD
  simp only [Int.zero_add] at d4 d5 d6 d7 v4 v5 v6 v7 v8
  refine a_ild1 eX9_pass_0 ?_
  refine a_iconst eX9_pass_1 ?_
  refine a_icmp_ne 13 eX9_pass_2 (by decide) (by omega) (fun hT2 => ?_) (fun hF2 => ?_)
  · skip
    refine a_ild1 eX9_pass_13 ?_
    refine a_iconst eX9_pass_14 ?_
    refine a_ald0 eX9_pass_15 ?_
    refine a_getR 2 21 eX9_pass_16 fl_X9_26 rfl rfl sh_0 ((congrFun (congrFun hR _) _).trans rf_0_2) ?_
    refine a_getI 6 eX9_pass_19 fl_X9_226 rfl rfl (sh_day (Or.inl rfl)) ?_
    refine a_iconst eX9_pass_22 ?_
    refine a_isub eX9_pass_23 ?_
    refine a_cS3 eX9_pass_24 lk_X9_81 mS_X9_within mt_X9_within rfl rfl rfl rfl rfl rfl rfl (c_X9_within (by omega) (fun hT24 => ?_) (fun hF24 => ?_))
    · skip
      dsimp only [Option.toList, List.cons_append, List.nil_append]
      refine a_if_eq 39 eX9_pass_27 (by decide) (by omega) (fun h => absurd h (by decide)) (fun _ => ?_)
      refine a_ild2 eX9_pass_30 ?_
      refine a_iconst eX9_pass_31 ?_
      refine a_iconst eX9_pass_32 ?_
      refine a_cS3 eX9_pass_33 lk_X9_81 mS_X9_within mt_X9_within rfl rfl rfl rfl rfl rfl rfl (c_X9_within (by omega) (fun hT33 => ?_) (fun hF33 => ?_))
      · skip
        dsimp only [Option.toList, List.cons_append, List.nil_append]
        refine a_if_ne 41 eX9_pass_36 (by decide) (by omega) (fun _ => ?_) (fun h => absurd h (by decide))
        refine a_ald0 eX9_pass_41 ?_
        refine a_getR 2 21 eX9_pass_42 fl_X9_26 rfl rfl sh_0 ((congrFun (congrFun hR _) _).trans rf_0_2) ?_
        refine a_getR 7 (21 + 11) eX9_pass_45 fl_X9_229 rfl rfl (sh_day (Or.inl rfl)) ((congrFun (congrFun hR _) _).trans (rf_day_7 (Or.inl rfl))) ?_
        refine a_ild1 eX9_pass_48 ?_
        refine a_iconst eX9_pass_49 ?_
        refine a_imul eX9_pass_50 ?_
        refine a_ild2 eX9_pass_51 ?_
        refine a_iadd eX9_pass_52 ?_
        refine a_iald eX9_pass_53 (sh_day_11 (Or.inl rfl)) rfl (by omega) ?_
        refine a_iret eX9_pass_54 rfl rfl ⟨Nat.zero_le _, Nat.zero_le _⟩ ?_
        first | (have e7 := d7 k w (by omega) (by omega) (by omega) (by omega); rw [show k * 5 + w = 5 * k + w by omega]; refine aw_ret hk ?_; unfold sp_pass; (repeat (first | rw [if_pos (by omega)] | rw [if_neg (by omega)])); exact e7) | (refine aw_ret hk ?_; unfold sp_pass; (repeat (first | rw [if_pos (by omega)] | rw [if_neg (by omega)])); (try omega); done)
      · skip
        dsimp only [Option.toList, List.cons_append, List.nil_append]
        refine a_if_ne 41 eX9_pass_36 (by decide) (by omega) (fun h => absurd h (by decide)) (fun _ => ?_)
        refine a_iconst eX9_pass_39 ?_
        refine a_iret eX9_pass_40 rfl rfl ⟨Nat.zero_le _, Nat.zero_le _⟩ ?_
        first | (have e7 := d7 k w (by omega) (by omega) (by omega) (by omega); rw [show k * 5 + w = 5 * k + w by omega]; refine aw_ret hk ?_; unfold sp_pass; (repeat (first | rw [if_pos (by omega)] | rw [if_neg (by omega)])); exact e7) | (refine aw_ret hk ?_; unfold sp_pass; (repeat (first | rw [if_pos (by omega)] | rw [if_neg (by omega)])); (try omega); done)
    · skip
      dsimp only [Option.toList, List.cons_append, List.nil_append]
      refine a_if_eq 39 eX9_pass_27 (by decide) (by omega) (fun _ => ?_) (fun h => absurd h (by decide))
      refine a_iconst eX9_pass_39 ?_
      refine a_iret eX9_pass_40 rfl rfl ⟨Nat.zero_le _, Nat.zero_le _⟩ ?_
      first | (have e7 := d7 k w (by omega) (by omega) (by omega) (by omega); rw [show k * 5 + w = 5 * k + w by omega]; refine aw_ret hk ?_; unfold sp_pass; (repeat (first | rw [if_pos (by omega)] | rw [if_neg (by omega)])); exact e7) | (refine aw_ret hk ?_; unfold sp_pass; (repeat (first | rw [if_pos (by omega)] | rw [if_neg (by omega)])); (try omega); done)
  · skip
    refine a_ald0 eX9_pass_5 ?_
    refine a_getR 2 21 eX9_pass_6 fl_X9_26 rfl rfl sh_0 ((congrFun (congrFun hR _) _).trans rf_0_2) ?_
    refine a_getI 6 eX9_pass_9 fl_X9_226 rfl rfl (sh_day (Or.inl rfl)) ?_
    refine a_iret eX9_pass_12 rfl rfl ⟨Nat.zero_le _, Nat.zero_le _⟩ ?_
    first | (have e7 := d7 k w (by omega) (by omega) (by omega) (by omega); rw [show k * 5 + w = 5 * k + w by omega]; refine aw_ret hk ?_; unfold sp_pass; (repeat (first | rw [if_pos (by omega)] | rw [if_neg (by omega)])); exact e7) | (refine aw_ret hk ?_; unfold sp_pass; (repeat (first | rw [if_pos (by omega)] | rw [if_neg (by omega)])); (try omega); done)

set_option maxHeartbeats 4000000 in
set_option maxRecDepth 100000 in
theorem c_X10_pass {l : Launch} {σ : aw_S} {Post : Option Value → aw_S → Prop} {tw cs : Bool} (hR : σ.2.2 = RF tw cs) {m : mS} (hM : cityM σ m) (wC : wfCity m) {N : Int} (hM2 : dayM σ m) (wD : wfDay m 0 N) (hN : 0 ≤ N ∧ N ≤ 1000) {k w : Int} (hr : (-2147483648 ≤ k ∧ k ≤ 2147483647) ∧ (-2147483648 ≤ w ∧ w ≤ 2147483647)) (hk : Post (some (.int (jI (sp_pass m k w)))) σ) : AE l yX10_pass cX10_pass 3 (some .int) 1 22 0 0 SH SH σ [.ref 171, .int (jI k), .int (jI w)] Post := by
  show AW l yX10_pass cX10_pass 3 (some .int) 1 22 0 0 SH Post SH 0 0 σ 0 [some (.ref 171), some (.int (jI k)), some (.int (jI w))] []
  obtain ⟨c1, c2, c3, c4, c5, c6, c7⟩ := id hM
  obtain ⟨w1, w2, w3, w4, w5, w6, w7, w8⟩ := id wC
  obtain ⟨d1, d2, d3, d4, d5, d6, d7⟩ := id hM2
  obtain ⟨v1, v2, v3, v4, v5, v6, v7, v8⟩ := id wD
  simp only [Int.zero_add] at d4 d5 d6 d7 v4 v5 v6 v7 v8
  refine a_ild1 eX10_pass_0 ?_
  refine a_iconst eX10_pass_1 ?_
  refine a_icmp_ne 12 eX10_pass_2 (by decide) (by omega) (fun hT2 => ?_) (fun hF2 => ?_)
  · skip
    refine a_ild1 eX10_pass_12 ?_
    refine a_iconst eX10_pass_13 ?_
    refine a_ald0 eX10_pass_14 ?_
    refine a_getI 26 eX10_pass_15 fl_X10_249 rfl rfl sh_171 ?_
    refine a_iconst eX10_pass_18 ?_
    refine a_isub eX10_pass_19 ?_
    refine a_cS3 eX10_pass_20 lk_X10_128 mS_X10_in mt_X10_in rfl rfl rfl rfl rfl rfl rfl (c_X10_in (by omega) (fun hT20 => ?_) (fun hF20 => ?_))
    · skip
      dsimp only [Option.toList, List.cons_append, List.nil_append]
      refine a_if_eq 48 eX10_pass_23 (by decide) (by omega) (fun h => absurd h (by decide)) (fun _ => ?_)
      refine a_ild2 eX10_pass_26 ?_
      refine a_iconst eX10_pass_27 ?_
      refine a_iconst eX10_pass_28 ?_
      refine a_cS3 eX10_pass_29 lk_X10_128 mS_X10_in mt_X10_in rfl rfl rfl rfl rfl rfl rfl (c_X10_in (by omega) (fun hT29 => ?_) (fun hF29 => ?_))
      · skip
        dsimp only [Option.toList, List.cons_append, List.nil_append]
        refine a_if_eq 48 eX10_pass_32 (by decide) (by omega) (fun h => absurd h (by decide)) (fun _ => ?_)
        refine a_ald0 eX10_pass_35 ?_
        refine a_getR 27 185 eX10_pass_36 fl_X10_51 rfl rfl sh_171 ((congrFun (congrFun hR _) _).trans rf_171_27) ?_
        refine a_iconst eX10_pass_39 ?_
        refine a_ild1 eX10_pass_40 ?_
        refine a_imul eX10_pass_41 ?_
        refine a_ild2 eX10_pass_42 ?_
        refine a_iadd eX10_pass_43 ?_
        refine a_iald eX10_pass_44 sh_185 rfl (by omega) ?_
        refine a_goto 49 eX10_pass_45 (by decide) ?_
        refine a_iret eX10_pass_49 rfl rfl ⟨Nat.zero_le _, Nat.zero_le _⟩ ?_
        first | (have e7 := d7 k w (by omega) (by omega) (by omega) (by omega); refine aw_ret hk ?_; unfold sp_pass; (repeat (first | rw [if_pos (by omega)] | rw [if_neg (by omega)])); exact e7) | (refine aw_ret hk ?_; unfold sp_pass; (repeat (first | rw [if_pos (by omega)] | rw [if_neg (by omega)])); (try omega); done)
      · skip
        dsimp only [Option.toList, List.cons_append, List.nil_append]
        refine a_if_eq 48 eX10_pass_32 (by decide) (by omega) (fun _ => ?_) (fun h => absurd h (by decide))
        refine a_iconst eX10_pass_48 ?_
        refine a_iret eX10_pass_49 rfl rfl ⟨Nat.zero_le _, Nat.zero_le _⟩ ?_
        first | (have e7 := d7 k w (by omega) (by omega) (by omega) (by omega); refine aw_ret hk ?_; unfold sp_pass; (repeat (first | rw [if_pos (by omega)] | rw [if_neg (by omega)])); exact e7) | (refine aw_ret hk ?_; unfold sp_pass; (repeat (first | rw [if_pos (by omega)] | rw [if_neg (by omega)])); (try omega); done)
    · skip
      dsimp only [Option.toList, List.cons_append, List.nil_append]
      refine a_if_eq 48 eX10_pass_23 (by decide) (by omega) (fun _ => ?_) (fun h => absurd h (by decide))
      refine a_iconst eX10_pass_48 ?_
      refine a_iret eX10_pass_49 rfl rfl ⟨Nat.zero_le _, Nat.zero_le _⟩ ?_
      first | (have e7 := d7 k w (by omega) (by omega) (by omega) (by omega); refine aw_ret hk ?_; unfold sp_pass; (repeat (first | rw [if_pos (by omega)] | rw [if_neg (by omega)])); exact e7) | (refine aw_ret hk ?_; unfold sp_pass; (repeat (first | rw [if_pos (by omega)] | rw [if_neg (by omega)])); (try omega); done)
  · skip
    refine a_ald0 eX10_pass_5 ?_
    refine a_getI 26 eX10_pass_6 fl_X10_249 rfl rfl sh_171 ?_
    refine a_goto 49 eX10_pass_9 (by decide) ?_
    refine a_iret eX10_pass_49 rfl rfl ⟨Nat.zero_le _, Nat.zero_le _⟩ ?_
    first | (have e7 := d7 k w (by omega) (by omega) (by omega) (by omega); refine aw_ret hk ?_; unfold sp_pass; (repeat (first | rw [if_pos (by omega)] | rw [if_neg (by omega)])); exact e7) | (refine aw_ret hk ?_; unfold sp_pass; (repeat (first | rw [if_pos (by omega)] | rw [if_neg (by omega)])); (try omega); done)

noncomputable def sp_of (m : mS) (c w : Int) : Int := if 0 ≤ c ∧ c < m 0 4 then (if w = 0 then m (100 + c) 1 else if w = 1 then (if m (100 + c) 1 = 0 ∨ m (100 + c) 1 = 2 then m (100 + c) 2 else -1) else if w = 2 then m (100 + c) 3 else if w = 3 then (if m (100 + c) 1 = 2 then mpos m 0 c else -1) else if w = 4 then m (100 + c) 4 else if 5 ≤ w ∧ w ≤ 9 then m (100 + c) w else -1) else -1
set_option maxHeartbeats 4000000 in
set_option maxRecDepth 100000 in
theorem c_X2_seenPlace {l : Launch} {σ : aw_S} {Post : Option Value → aw_S → Prop} {d : Nat} (hd : isDay d) {i : Int} (hi : 0 ≤ i ∧ i < ((16 : Nat) : Int)) (hs : 0 ≤ σ.1 (d + 12 + i.toNat) 1 ∧ σ.1 (d + 12 + i.toNat) 1 ≤ 3) (hk : Post (some (.int (jI (if σ.1 (d + 12 + i.toNat) 1 = 0 ∨ σ.1 (d + 12 + i.toNat) 1 = 2 then σ.1 (d + 12 + i.toNat) 2 else -1)))) σ) : AE l yX2_seenPlace cX2_seenPlace 1 (some .int) 0 0 0 0 SH SH σ [.ref (d + 12 + i.toNat)] Post := by
  show AW l yX2_seenPlace cX2_seenPlace 1 (some .int) 0 0 0 0 SH Post SH 0 0 σ 0 [some (.ref (d + 12 + i.toNat))] []
  refine a_ald0 eX2_seenPlace_0 ?_
  refine a_getI 1 eX2_seenPlace_1 fl_X2_38 rfl rfl (sh_cab hd hi) ?_
  refine a_if_eq 15 eX2_seenPlace_4 (by decide) (by omega) (fun hT4 => ?_) (fun hF4 => ?_)
  · skip
    refine a_ald0 eX2_seenPlace_15 ?_
    refine a_getI 2 eX2_seenPlace_16 fl_X2_41 rfl rfl (sh_cab hd hi) ?_
    refine a_goto 23 eX2_seenPlace_19 (by decide) ?_
    refine a_iret eX2_seenPlace_23 rfl rfl ⟨Nat.zero_le _, Nat.zero_le _⟩ ?_
    first | exact aw_ret hk (if_pos (by omega)).symm | exact aw_ret hk (if_neg (by omega)).symm
  · skip
    refine a_ald0 eX2_seenPlace_7 ?_
    refine a_getI 1 eX2_seenPlace_8 fl_X2_38 rfl rfl (sh_cab hd hi) ?_
    refine a_iconst eX2_seenPlace_11 ?_
    refine a_icmp_ne 22 eX2_seenPlace_12 (by decide) (by omega) (fun hT12 => ?_) (fun hF12 => ?_)
    · skip
      refine a_iconst eX2_seenPlace_22 ?_
      refine a_iret eX2_seenPlace_23 rfl rfl ⟨Nat.zero_le _, Nat.zero_le _⟩ ?_
      first | exact aw_ret hk (if_pos (by omega)).symm | exact aw_ret hk (if_neg (by omega)).symm
    · skip
      refine a_ald0 eX2_seenPlace_15 ?_
      refine a_getI 2 eX2_seenPlace_16 fl_X2_41 rfl rfl (sh_cab hd hi) ?_
      refine a_goto 23 eX2_seenPlace_19 (by decide) ?_
      refine a_iret eX2_seenPlace_23 rfl rfl ⟨Nat.zero_le _, Nat.zero_le _⟩ ?_
      first | exact aw_ret hk (if_pos (by omega)).symm | exact aw_ret hk (if_neg (by omega)).symm

set_option maxHeartbeats 4000000 in
set_option maxRecDepth 100000 in
theorem c_X9_of {l : Launch} {σ : aw_S} {Post : Option Value → aw_S → Prop} {tw cs : Bool} (hR : σ.2.2 = RF tw cs) {t : Nat} (hct : isCity t) (hrt : RF tw cs 0 1 = some t) {m : mS} (hC : cityC σ t m) (wC : wfCity m) {N : Int} (hD : dayC σ 21 0 m) (wD : wfDay m 0 N) (hN : 0 ≤ N ∧ N ≤ 1000) {c w : Int} (hr : (-2147483648 ≤ c ∧ c ≤ 2147483647) ∧ (-2147483648 ≤ w ∧ w ≤ 2147483647)) (hk : Post (some (.int (jI (sp_of m c w)))) σ) : AE l yX9_of cX9_of 4 (some .int) 4 87 0 0 SH SH σ [.ref 0, .int (jI c), .int (jI w)] Post := by
  show AW l yX9_of cX9_of 4 (some .int) 4 87 0 0 SH Post SH 0 0 σ 0 [some (.ref 0), some (.int (jI c)), some (.int (jI w)), none] []
  obtain ⟨c1, c2, c3, c4, c5, c6, c7, c8⟩ := id hC
  obtain ⟨w1, w2, w3, w4, w5, w6, w7, w8⟩ := id wC
  obtain ⟨d1, d2, d3, d4, d5, d6, d7⟩ := id hD
  obtain ⟨v1, v2, v3, v4, v5, v6, v7, v8⟩ := id wD
  simp only [Int.zero_add] at d4 d5 d6 d7 v4 v5 v6 v7 v8
  refine a_ald0 eX9_of_0 ?_
  refine a_getR 2 21 eX9_of_1 fl_X9_26 rfl rfl sh_0 ((congrFun (congrFun hR _) _).trans rf_0_2) ?_
  refine a_ild1 eX9_of_4 ?_
  refine a_cV1 eX9_of_5 lk_X9_139 mV_X5_has (sh_day (Or.inl rfl)) ⟨_, rfl, rfl⟩ mt_X5_has rfl rfl rfl rfl rfl (c_X5_has hR (Or.inl rfl) hD wC wD hN (by omega) (fun hT5 => ?_) (fun hF5 => ?_))
  · skip
    dsimp only [Option.toList, List.cons_append, List.nil_append]
    refine a_if_ne 13 eX9_of_8 (by decide) (by omega) (fun _ => ?_) (fun h => absurd h (by decide))
    refine a_ald0 eX9_of_13 ?_
    refine a_getR 2 21 eX9_of_14 fl_X9_26 rfl rfl sh_0 ((congrFun (congrFun hR _) _).trans rf_0_2) ?_
    refine a_getR 2 (21 + 1) eX9_of_17 fl_X9_142 rfl rfl (sh_day (Or.inl rfl)) ((congrFun (congrFun hR _) _).trans (rf_day_2 (Or.inl rfl))) ?_
    refine a_ild1 eX9_of_20 ?_
    refine a_aald _ eX9_of_21 (sh_day_1 (Or.inl rfl)) rfl rfl rfl (by omega) ((congrFun (congrFun hR _) _).trans (rf_cab (Or.inl rfl) (by omega))) ?_
    refine a_ast3 eX9_of_22 (by decide) aw_n2i ?_
    have f1 := d5 c 1 (by omega) (by omega) (by omega) (by omega)
    have f2 := d5 c 2 (by omega) (by omega) (by omega) (by omega)
    have f3 := d5 c 3 (by omega) (by omega) (by omega) (by omega)
    have f4 := d5 c 4 (by omega) (by omega) (by omega) (by omega)
    have f5 := d5 c 5 (by omega) (by omega) (by omega) (by omega)
    have f6 := d5 c 6 (by omega) (by omega) (by omega) (by omega)
    have f7 := d5 c 7 (by omega) (by omega) (by omega) (by omega)
    have f8 := d5 c 8 (by omega) (by omega) (by omega) (by omega)
    have f9 := d5 c 9 (by omega) (by omega) (by omega) (by omega)
    have wc := v5 c (by omega) (by omega)
    refine a_ild2 eX9_of_23 ?_
    by_cases hsw : 0 ≤ w ∧ w ≤ 9
    · have hsx : w = 0 ∨ w = 1 ∨ w = 2 ∨ w = 3 ∨ w = 4 ∨ w = 5 ∨ w = 6 ∨ w = 7 ∨ w = 8 ∨ w = 9 := by omega
      rcases hsx with rfl | rfl | rfl | rfl | rfl | rfl | rfl | rfl | rfl | rfl
      · refine a_table 56 80 eX9_of_24 (by omega) (by omega) (by omega) rfl (by decide) ?_
        refine a_ald3 eX9_of_80 ?_
        refine a_getI 1 eX9_of_81 fl_X9_146 rfl rfl (sh_cab (Or.inl rfl) (by omega)) ?_
        refine a_iret eX9_of_84 rfl rfl ⟨Nat.zero_le _, Nat.zero_le _⟩ ?_
        first | (refine aw_ret hk ?_; unfold sp_of; (repeat (first | rw [if_pos (by omega)] | rw [if_neg (by omega)])); omega) | (refine aw_ret hk ?_; unfold sp_of; (repeat (first | rw [if_pos (by omega)] | rw [if_neg (by omega)])); done)
      · refine a_table 61 85 eX9_of_24 (by omega) (by omega) (by omega) rfl (by decide) ?_
        refine a_ald3 eX9_of_85 ?_
        refine a_cV0 eX9_of_86 lk_X9_151 mV_X2_seenPlace (sh_cab (Or.inl rfl) (by omega)) ⟨_, rfl, rfl⟩ mt_X2_seenPlace rfl rfl rfl rfl (c_X2_seenPlace (Or.inl rfl) (by omega) (by have := wc.2.1; omega) ?_)
        dsimp only [Option.toList, List.cons_append, List.nil_append]
        refine a_iret eX9_of_89 rfl rfl ⟨Nat.zero_le _, Nat.zero_le _⟩ ?_
        exact aw_ret hk (Eq.trans (by rw [f1, f2]) (show sp_of m c 1 = (if m (100 + c) 1 = 0 ∨ m (100 + c) 1 = 2 then m (100 + c) 2 else -1) by unfold sp_of; rw [if_pos (by omega), if_neg (by decide), if_pos rfl]).symm)
      · refine a_table 66 90 eX9_of_24 (by omega) (by omega) (by omega) rfl (by decide) ?_
        refine a_ald3 eX9_of_90 ?_
        refine a_getI 3 eX9_of_91 fl_X9_154 rfl rfl (sh_cab (Or.inl rfl) (by omega)) ?_
        refine a_iret eX9_of_94 rfl rfl ⟨Nat.zero_le _, Nat.zero_le _⟩ ?_
        first | (refine aw_ret hk ?_; unfold sp_of; (repeat (first | rw [if_pos (by omega)] | rw [if_neg (by omega)])); omega) | (refine aw_ret hk ?_; unfold sp_of; (repeat (first | rw [if_pos (by omega)] | rw [if_neg (by omega)])); done)
      · refine a_table 71 95 eX9_of_24 (by omega) (by omega) (by omega) rfl (by decide) ?_
        refine a_ald0 eX9_of_95 ?_
        refine a_getR 2 21 eX9_of_96 fl_X9_26 rfl rfl sh_0 ((congrFun (congrFun hR _) _).trans rf_0_2) ?_
        refine a_ild1 eX9_of_99 ?_
        refine a_cV1 eX9_of_100 lk_X9_157 mV_X5_placeInRow (sh_day (Or.inl rfl)) ⟨_, rfl, rfl⟩ mt_X5_placeInRow rfl rfl rfl rfl rfl (c_X5_placeInRow hR (Or.inl rfl) hD wC wD hN (by omega) (fun hT100 hU100 => ?_) (fun hF100 => ?_))
        · skip
          dsimp only [Option.toList, List.cons_append, List.nil_append]
          refine a_iret eX9_of_103 rfl rfl ⟨Nat.zero_le _, Nat.zero_le _⟩ ?_
          simp only [Int.zero_add] at *
          first | exact aw_ret hk (by unfold sp_of; rw [if_pos (by omega), if_neg (by decide), if_neg (by decide), if_neg (by decide), if_pos rfl, if_pos hU100]) | exact aw_ret hk (by unfold sp_of; rw [if_pos (by omega), if_neg (by decide), if_neg (by decide), if_neg (by decide), if_pos rfl, if_neg (by omega)])
        · skip
          dsimp only [Option.toList, List.cons_append, List.nil_append]
          refine a_iret eX9_of_103 rfl rfl ⟨Nat.zero_le _, Nat.zero_le _⟩ ?_
          simp only [Int.zero_add] at *
          first | exact aw_ret hk (by unfold sp_of; rw [if_pos (by omega), if_neg (by decide), if_neg (by decide), if_neg (by decide), if_pos rfl, if_pos hU100]) | exact aw_ret hk (by unfold sp_of; rw [if_pos (by omega), if_neg (by decide), if_neg (by decide), if_neg (by decide), if_pos rfl, if_neg (by omega)])
      · refine a_table 80 104 eX9_of_24 (by omega) (by omega) (by omega) rfl (by decide) ?_
        refine a_ald3 eX9_of_104 ?_
        refine a_getI 4 eX9_of_105 fl_X9_161 rfl rfl (sh_cab (Or.inl rfl) (by omega)) ?_
        refine a_iret eX9_of_108 rfl rfl ⟨Nat.zero_le _, Nat.zero_le _⟩ ?_
        first | (refine aw_ret hk ?_; unfold sp_of; (repeat (first | rw [if_pos (by omega)] | rw [if_neg (by omega)])); omega) | (refine aw_ret hk ?_; unfold sp_of; (repeat (first | rw [if_pos (by omega)] | rw [if_neg (by omega)])); done)
      · refine a_table 85 109 eX9_of_24 (by omega) (by omega) (by omega) rfl (by decide) ?_
        refine a_ald3 eX9_of_109 ?_
        refine a_getI 5 eX9_of_110 fl_X9_164 rfl rfl (sh_cab (Or.inl rfl) (by omega)) ?_
        refine a_iret eX9_of_113 rfl rfl ⟨Nat.zero_le _, Nat.zero_le _⟩ ?_
        first | (refine aw_ret hk ?_; unfold sp_of; (repeat (first | rw [if_pos (by omega)] | rw [if_neg (by omega)])); omega) | (refine aw_ret hk ?_; unfold sp_of; (repeat (first | rw [if_pos (by omega)] | rw [if_neg (by omega)])); done)
      · refine a_table 90 114 eX9_of_24 (by omega) (by omega) (by omega) rfl (by decide) ?_
        refine a_ald3 eX9_of_114 ?_
        refine a_getI 6 eX9_of_115 fl_X9_167 rfl rfl (sh_cab (Or.inl rfl) (by omega)) ?_
        refine a_iret eX9_of_118 rfl rfl ⟨Nat.zero_le _, Nat.zero_le _⟩ ?_
        first | (refine aw_ret hk ?_; unfold sp_of; (repeat (first | rw [if_pos (by omega)] | rw [if_neg (by omega)])); omega) | (refine aw_ret hk ?_; unfold sp_of; (repeat (first | rw [if_pos (by omega)] | rw [if_neg (by omega)])); done)
      · refine a_table 95 119 eX9_of_24 (by omega) (by omega) (by omega) rfl (by decide) ?_
        refine a_ald3 eX9_of_119 ?_
        refine a_getI 7 eX9_of_120 fl_X9_170 rfl rfl (sh_cab (Or.inl rfl) (by omega)) ?_
        refine a_iret eX9_of_123 rfl rfl ⟨Nat.zero_le _, Nat.zero_le _⟩ ?_
        first | (refine aw_ret hk ?_; unfold sp_of; (repeat (first | rw [if_pos (by omega)] | rw [if_neg (by omega)])); omega) | (refine aw_ret hk ?_; unfold sp_of; (repeat (first | rw [if_pos (by omega)] | rw [if_neg (by omega)])); done)
      · refine a_table 100 124 eX9_of_24 (by omega) (by omega) (by omega) rfl (by decide) ?_
        refine a_ald3 eX9_of_124 ?_
        refine a_getI 8 eX9_of_125 fl_X9_173 rfl rfl (sh_cab (Or.inl rfl) (by omega)) ?_
        refine a_iret eX9_of_128 rfl rfl ⟨Nat.zero_le _, Nat.zero_le _⟩ ?_
        first | (refine aw_ret hk ?_; unfold sp_of; (repeat (first | rw [if_pos (by omega)] | rw [if_neg (by omega)])); omega) | (refine aw_ret hk ?_; unfold sp_of; (repeat (first | rw [if_pos (by omega)] | rw [if_neg (by omega)])); done)
      · refine a_table 105 129 eX9_of_24 (by omega) (by omega) (by omega) rfl (by decide) ?_
        refine a_ald3 eX9_of_129 ?_
        refine a_getI 9 eX9_of_130 fl_X9_176 rfl rfl (sh_cab (Or.inl rfl) (by omega)) ?_
        refine a_iret eX9_of_133 rfl rfl ⟨Nat.zero_le _, Nat.zero_le _⟩ ?_
        first | (refine aw_ret hk ?_; unfold sp_of; (repeat (first | rw [if_pos (by omega)] | rw [if_neg (by omega)])); omega) | (refine aw_ret hk ?_; unfold sp_of; (repeat (first | rw [if_pos (by omega)] | rw [if_neg (by omega)])); done)
    · refine a_tableOut 134 eX9_of_24 (by omega) (by omega) (by decide) ?_
      refine a_iconst eX9_of_134 ?_
      refine a_iret eX9_of_135 rfl rfl ⟨Nat.zero_le _, Nat.zero_le _⟩ ?_
      first | (refine aw_ret hk ?_; unfold sp_of; (repeat (first | rw [if_pos (by omega)] | rw [if_neg (by omega)])); omega) | (refine aw_ret hk ?_; unfold sp_of; (repeat (first | rw [if_pos (by omega)] | rw [if_neg (by omega)])); done)
  · skip
    dsimp only [Option.toList, List.cons_append, List.nil_append]
    refine a_if_ne 13 eX9_of_8 (by decide) (by omega) (fun h => absurd h (by decide)) (fun _ => ?_)
    refine a_iconst eX9_of_11 ?_
    refine a_iret eX9_of_12 rfl rfl ⟨Nat.zero_le _, Nat.zero_le _⟩ ?_
    first | (refine aw_ret hk ?_; unfold sp_of; (repeat (first | rw [if_pos (by omega)] | rw [if_neg (by omega)])); omega) | (refine aw_ret hk ?_; unfold sp_of; (repeat (first | rw [if_pos (by omega)] | rw [if_neg (by omega)])); done)

set_option maxHeartbeats 4000000 in
set_option maxRecDepth 100000 in
theorem c_X10_of {l : Launch} {σ : aw_S} {Post : Option Value → aw_S → Prop} {tw cs : Bool} (hR : σ.2.2 = RF tw cs) {m : mS} (hM : cityM σ m) (wC : wfCity m) {N : Int} (hM2 : dayM σ m) (wD : wfDay m 0 N) (hN : 0 ≤ N ∧ N ≤ 1000) {c w : Int} (hr : (-2147483648 ≤ c ∧ c ≤ 2147483647) ∧ (-2147483648 ≤ w ∧ w ≤ 2147483647)) (hk : Post (some (.int (jI (sp_of m c w)))) σ) : AE l yX10_of cX10_of 4 (some .int) 2 45 0 0 SH SH σ [.ref 171, .int (jI c), .int (jI w)] Post := by
  show AW l yX10_of cX10_of 4 (some .int) 2 45 0 0 SH Post SH 0 0 σ 0 [some (.ref 171), some (.int (jI c)), some (.int (jI w)), none] []
  obtain ⟨c1, c2, c3, c4, c5, c6, c7⟩ := id hM
  obtain ⟨w1, w2, w3, w4, w5, w6, w7, w8⟩ := id wC
  obtain ⟨d1, d2, d3, d4, d5, d6, d7⟩ := id hM2
  obtain ⟨v1, v2, v3, v4, v5, v6, v7, v8⟩ := id wD
  simp only [Int.zero_add] at d4 d5 d6 d7 v4 v5 v6 v7 v8
  refine a_ald0 eX10_of_0 ?_
  refine a_ild1 eX10_of_1 ?_
  refine a_cV1 eX10_of_2 lk_X10_273 mV_X10_isCab sh_171 ⟨_, rfl, rfl⟩ mt_X10_isCab rfl rfl rfl rfl rfl (c_X10_isCab (by omega) (by omega) (fun hT2 => ?_) (fun hF2 => ?_))
  · skip
    dsimp only [Option.toList, List.cons_append, List.nil_append]
    refine a_if_ne 10 eX10_of_5 (by decide) (by omega) (fun _ => ?_) (fun h => absurd h (by decide))
    have cm := d5 c (by omega) (by omega)
    have wc := v5 c (by omega) (by omega)
    unfold cabM at cm
    unfold wfCab at wc
    refine a_ald0 eX10_of_10 ?_
    refine a_ild1 eX10_of_11 ?_
    refine a_iconst eX10_of_12 ?_
    refine a_cV2 eX10_of_13 lk_X10_276 mV_X10_of0 sh_171 ⟨_, rfl, rfl⟩ mt_X10_of0 rfl rfl rfl rfl rfl rfl (c_X10_of0 hR (by omega) ?_)
    dsimp only [Option.toList, List.cons_append, List.nil_append]
    rw [show (11 * c + 0 : Int) = 11 * c by omega, cm.1]
    refine a_ist3 eX10_of_16 (by decide) aw_n2i ?_
    refine a_ild2 eX10_of_17 ?_
    by_cases hsw : 0 ≤ w ∧ w ≤ 9
    · have hsx : w = 0 ∨ w = 1 ∨ w = 2 ∨ w = 3 ∨ w = 4 ∨ w = 5 ∨ w = 6 ∨ w = 7 ∨ w = 8 ∨ w = 9 := by omega
      rcases hsx with rfl | rfl | rfl | rfl | rfl | rfl | rfl | rfl | rfl | rfl
      · refine a_table 54 72 eX10_of_18 (by omega) (by omega) (by omega) rfl (by decide) ?_
        refine a_ild3 eX10_of_72 ?_
        refine a_iret eX10_of_73 rfl rfl ⟨Nat.zero_le _, Nat.zero_le _⟩ ?_
        first | (refine aw_ret hk ?_; unfold sp_of; (repeat (first | rw [if_pos (by omega)] | rw [if_neg (by omega)])); done) | (refine aw_ret hk ?_; unfold sp_of; (repeat (first | rw [if_pos (by omega)] | rw [if_neg (by omega)])); omega) | (refine aw_ret hk ?_; unfold sp_of; (repeat (first | rw [if_pos (by omega)] | rw [if_neg (by omega)])); (first | (rw [cm.2.2.2.1 (by omega)]; have := wc.2.2.2.2.2.2.2.1 (by omega); have := c2 (m (100 + c) 3) (by omega) (by omega); omega) | omega))
      · refine a_table 56 74 eX10_of_18 (by omega) (by omega) (by omega) rfl (by decide) ?_
        refine a_ild3 eX10_of_74 ?_
        refine a_if_ne 87 eX10_of_75 (by decide) (by omega) (fun hT75 => ?_) (fun hF75 => ?_)
        · skip
          refine a_ild3 eX10_of_87 ?_
          refine a_iconst eX10_of_88 ?_
          refine a_icmp_ne 105 eX10_of_89 (by decide) (by omega) (fun hT89 => ?_) (fun hF89 => ?_)
          · skip
            refine a_iconst eX10_of_105 ?_
            refine a_iret eX10_of_106 rfl rfl ⟨Nat.zero_le _, Nat.zero_le _⟩ ?_
            first | (refine aw_ret hk ?_; unfold sp_of; (repeat (first | rw [if_pos (by omega)] | rw [if_neg (by omega)])); done) | (refine aw_ret hk ?_; unfold sp_of; (repeat (first | rw [if_pos (by omega)] | rw [if_neg (by omega)])); omega) | (refine aw_ret hk ?_; unfold sp_of; (repeat (first | rw [if_pos (by omega)] | rw [if_neg (by omega)])); (first | (rw [cm.2.2.2.1 (by omega)]; have := wc.2.2.2.2.2.2.2.1 (by omega); have := c2 (m (100 + c) 3) (by omega) (by omega); omega) | omega))
          · skip
            refine a_ald0 eX10_of_92 ?_
            refine a_ald0 eX10_of_93 ?_
            refine a_ild1 eX10_of_94 ?_
            refine a_iconst eX10_of_95 ?_
            refine a_cV2 eX10_of_96 lk_X10_276 mV_X10_of0 sh_171 ⟨_, rfl, rfl⟩ mt_X10_of0 rfl rfl rfl rfl rfl rfl (c_X10_of0 hR (by omega) ?_)
            dsimp only [Option.toList, List.cons_append, List.nil_append]
            refine a_cV1 eX10_of_99 lk_X10_279 mV_X10_place sh_171 ⟨_, rfl, rfl⟩ mt_X10_place rfl rfl rfl rfl rfl (c_X10_place hR (by omega) ?_)
            dsimp only [Option.toList, List.cons_append, List.nil_append]
            refine a_goto 106 eX10_of_102 (by decide) ?_
            refine a_iret eX10_of_106 rfl rfl ⟨Nat.zero_le _, Nat.zero_le _⟩ ?_
            first | (refine aw_ret hk ?_; unfold sp_of; (repeat (first | rw [if_pos (by omega)] | rw [if_neg (by omega)])); done) | (refine aw_ret hk ?_; unfold sp_of; (repeat (first | rw [if_pos (by omega)] | rw [if_neg (by omega)])); omega) | (refine aw_ret hk ?_; unfold sp_of; (repeat (first | rw [if_pos (by omega)] | rw [if_neg (by omega)])); (first | (rw [cm.2.2.2.1 (by omega)]; have := wc.2.2.2.2.2.2.2.1 (by omega); have := c2 (m (100 + c) 3) (by omega) (by omega); omega) | omega))
        · skip
          refine a_ald0 eX10_of_78 ?_
          refine a_ild1 eX10_of_79 ?_
          refine a_iconst eX10_of_80 ?_
          refine a_cV2 eX10_of_81 lk_X10_276 mV_X10_of0 sh_171 ⟨_, rfl, rfl⟩ mt_X10_of0 rfl rfl rfl rfl rfl rfl (c_X10_of0 hR (by omega) ?_)
          dsimp only [Option.toList, List.cons_append, List.nil_append]
          refine a_goto 106 eX10_of_84 (by decide) ?_
          refine a_iret eX10_of_106 rfl rfl ⟨Nat.zero_le _, Nat.zero_le _⟩ ?_
          first | (refine aw_ret hk ?_; unfold sp_of; (repeat (first | rw [if_pos (by omega)] | rw [if_neg (by omega)])); done) | (refine aw_ret hk ?_; unfold sp_of; (repeat (first | rw [if_pos (by omega)] | rw [if_neg (by omega)])); omega) | (refine aw_ret hk ?_; unfold sp_of; (repeat (first | rw [if_pos (by omega)] | rw [if_neg (by omega)])); (first | (rw [cm.2.2.2.1 (by omega)]; have := wc.2.2.2.2.2.2.2.1 (by omega); have := c2 (m (100 + c) 3) (by omega) (by omega); omega) | omega))
      · refine a_table 89 107 eX10_of_18 (by omega) (by omega) (by omega) rfl (by decide) ?_
        refine a_ild3 eX10_of_107 ?_
        refine a_iconst eX10_of_108 ?_
        refine a_icmp_eq 117 eX10_of_109 (by decide) (by omega) (fun hT109 => ?_) (fun hF109 => ?_)
        · skip
          refine a_ald0 eX10_of_117 ?_
          refine a_ild1 eX10_of_118 ?_
          refine a_iconst eX10_of_119 ?_
          refine a_cV2 eX10_of_120 lk_X10_276 mV_X10_of0 sh_171 ⟨_, rfl, rfl⟩ mt_X10_of0 rfl rfl rfl rfl rfl rfl (c_X10_of0 hR (by omega) ?_)
          dsimp only [Option.toList, List.cons_append, List.nil_append]
          refine a_goto 127 eX10_of_123 (by decide) ?_
          refine a_iret eX10_of_127 rfl rfl ⟨Nat.zero_le _, Nat.zero_le _⟩ ?_
          first | (refine aw_ret hk ?_; unfold sp_of; (repeat (first | rw [if_pos (by omega)] | rw [if_neg (by omega)])); done) | (refine aw_ret hk ?_; unfold sp_of; (repeat (first | rw [if_pos (by omega)] | rw [if_neg (by omega)])); omega) | (refine aw_ret hk ?_; unfold sp_of; (repeat (first | rw [if_pos (by omega)] | rw [if_neg (by omega)])); (first | (rw [cm.2.2.2.1 (by omega)]; have := wc.2.2.2.2.2.2.2.1 (by omega); have := c2 (m (100 + c) 3) (by omega) (by omega); omega) | omega))
        · skip
          refine a_ild3 eX10_of_112 ?_
          refine a_iconst eX10_of_113 ?_
          refine a_icmp_ne 126 eX10_of_114 (by decide) (by omega) (fun hT114 => ?_) (fun hF114 => ?_)
          · skip
            refine a_iconst eX10_of_126 ?_
            refine a_iret eX10_of_127 rfl rfl ⟨Nat.zero_le _, Nat.zero_le _⟩ ?_
            first | (refine aw_ret hk ?_; unfold sp_of; (repeat (first | rw [if_pos (by omega)] | rw [if_neg (by omega)])); done) | (refine aw_ret hk ?_; unfold sp_of; (repeat (first | rw [if_pos (by omega)] | rw [if_neg (by omega)])); omega) | (refine aw_ret hk ?_; unfold sp_of; (repeat (first | rw [if_pos (by omega)] | rw [if_neg (by omega)])); (first | (rw [cm.2.2.2.1 (by omega)]; have := wc.2.2.2.2.2.2.2.1 (by omega); have := c2 (m (100 + c) 3) (by omega) (by omega); omega) | omega))
          · skip
            refine a_ald0 eX10_of_117 ?_
            refine a_ild1 eX10_of_118 ?_
            refine a_iconst eX10_of_119 ?_
            refine a_cV2 eX10_of_120 lk_X10_276 mV_X10_of0 sh_171 ⟨_, rfl, rfl⟩ mt_X10_of0 rfl rfl rfl rfl rfl rfl (c_X10_of0 hR (by omega) ?_)
            dsimp only [Option.toList, List.cons_append, List.nil_append]
            refine a_goto 127 eX10_of_123 (by decide) ?_
            refine a_iret eX10_of_127 rfl rfl ⟨Nat.zero_le _, Nat.zero_le _⟩ ?_
            first | (refine aw_ret hk ?_; unfold sp_of; (repeat (first | rw [if_pos (by omega)] | rw [if_neg (by omega)])); done) | (refine aw_ret hk ?_; unfold sp_of; (repeat (first | rw [if_pos (by omega)] | rw [if_neg (by omega)])); omega) | (refine aw_ret hk ?_; unfold sp_of; (repeat (first | rw [if_pos (by omega)] | rw [if_neg (by omega)])); (first | (rw [cm.2.2.2.1 (by omega)]; have := wc.2.2.2.2.2.2.2.1 (by omega); have := c2 (m (100 + c) 3) (by omega) (by omega); omega) | omega))
      · refine a_table 110 128 eX10_of_18 (by omega) (by omega) (by omega) rfl (by decide) ?_
        refine a_ild3 eX10_of_128 ?_
        refine a_iconst eX10_of_129 ?_
        refine a_icmp_ne 141 eX10_of_130 (by decide) (by omega) (fun hT130 => ?_) (fun hF130 => ?_)
        · skip
          refine a_iconst eX10_of_141 ?_
          refine a_iret eX10_of_142 rfl rfl ⟨Nat.zero_le _, Nat.zero_le _⟩ ?_
          first | exact aw_ret hk (by unfold sp_of; rw [if_pos (by omega), if_neg (by decide), if_neg (by decide), if_neg (by decide), if_pos rfl, if_pos (by omega)]) | exact aw_ret hk (by unfold sp_of; rw [if_pos (by omega), if_neg (by decide), if_neg (by decide), if_neg (by decide), if_pos rfl, if_neg (by omega)])
        · skip
          refine a_ald0 eX10_of_133 ?_
          refine a_ild1 eX10_of_134 ?_
          refine a_cV1 eX10_of_135 lk_X10_283 mV_X10_posOf sh_171 ⟨_, rfl, rfl⟩ mt_X10_posOf rfl rfl rfl rfl rfl (c_X10_posOf hR hM2 wC wD hN (by omega) (by omega) ?_)
          dsimp only [Option.toList, List.cons_append, List.nil_append]
          refine a_goto 142 eX10_of_138 (by decide) ?_
          refine a_iret eX10_of_142 rfl rfl ⟨Nat.zero_le _, Nat.zero_le _⟩ ?_
          first | exact aw_ret hk (by unfold sp_of; rw [if_pos (by omega), if_neg (by decide), if_neg (by decide), if_neg (by decide), if_pos rfl, if_pos (by omega)]) | exact aw_ret hk (by unfold sp_of; rw [if_pos (by omega), if_neg (by decide), if_neg (by decide), if_neg (by decide), if_pos rfl, if_neg (by omega)])
      · refine a_table 125 143 eX10_of_18 (by omega) (by omega) (by omega) rfl (by decide) ?_
        refine a_ild3 eX10_of_143 ?_
        refine a_iconst eX10_of_144 ?_
        refine a_icmp_eq 153 eX10_of_145 (by decide) (by omega) (fun hT145 => ?_) (fun hF145 => ?_)
        · skip
          refine a_ald0 eX10_of_153 ?_
          refine a_ild1 eX10_of_154 ?_
          refine a_iconst eX10_of_155 ?_
          refine a_cV2 eX10_of_156 lk_X10_276 mV_X10_of0 sh_171 ⟨_, rfl, rfl⟩ mt_X10_of0 rfl rfl rfl rfl rfl rfl (c_X10_of0 hR (by omega) ?_)
          dsimp only [Option.toList, List.cons_append, List.nil_append]
          refine a_goto 163 eX10_of_159 (by decide) ?_
          refine a_iret eX10_of_163 rfl rfl ⟨Nat.zero_le _, Nat.zero_le _⟩ ?_
          first | (refine aw_ret hk ?_; unfold sp_of; (repeat (first | rw [if_pos (by omega)] | rw [if_neg (by omega)])); done) | (refine aw_ret hk ?_; unfold sp_of; (repeat (first | rw [if_pos (by omega)] | rw [if_neg (by omega)])); omega) | (refine aw_ret hk ?_; unfold sp_of; (repeat (first | rw [if_pos (by omega)] | rw [if_neg (by omega)])); (first | (rw [cm.2.2.2.1 (by omega)]; have := wc.2.2.2.2.2.2.2.1 (by omega); have := c2 (m (100 + c) 3) (by omega) (by omega); omega) | omega))
        · skip
          refine a_ild3 eX10_of_148 ?_
          refine a_iconst eX10_of_149 ?_
          refine a_icmp_ne 162 eX10_of_150 (by decide) (by omega) (fun hT150 => ?_) (fun hF150 => ?_)
          · skip
            refine a_iconst eX10_of_162 ?_
            refine a_iret eX10_of_163 rfl rfl ⟨Nat.zero_le _, Nat.zero_le _⟩ ?_
            first | (refine aw_ret hk ?_; unfold sp_of; (repeat (first | rw [if_pos (by omega)] | rw [if_neg (by omega)])); done) | (refine aw_ret hk ?_; unfold sp_of; (repeat (first | rw [if_pos (by omega)] | rw [if_neg (by omega)])); omega) | (refine aw_ret hk ?_; unfold sp_of; (repeat (first | rw [if_pos (by omega)] | rw [if_neg (by omega)])); (first | (rw [cm.2.2.2.1 (by omega)]; have := wc.2.2.2.2.2.2.2.1 (by omega); have := c2 (m (100 + c) 3) (by omega) (by omega); omega) | omega))
          · skip
            refine a_ald0 eX10_of_153 ?_
            refine a_ild1 eX10_of_154 ?_
            refine a_iconst eX10_of_155 ?_
            refine a_cV2 eX10_of_156 lk_X10_276 mV_X10_of0 sh_171 ⟨_, rfl, rfl⟩ mt_X10_of0 rfl rfl rfl rfl rfl rfl (c_X10_of0 hR (by omega) ?_)
            dsimp only [Option.toList, List.cons_append, List.nil_append]
            refine a_goto 163 eX10_of_159 (by decide) ?_
            refine a_iret eX10_of_163 rfl rfl ⟨Nat.zero_le _, Nat.zero_le _⟩ ?_
            first | (refine aw_ret hk ?_; unfold sp_of; (repeat (first | rw [if_pos (by omega)] | rw [if_neg (by omega)])); done) | (refine aw_ret hk ?_; unfold sp_of; (repeat (first | rw [if_pos (by omega)] | rw [if_neg (by omega)])); omega) | (refine aw_ret hk ?_; unfold sp_of; (repeat (first | rw [if_pos (by omega)] | rw [if_neg (by omega)])); (first | (rw [cm.2.2.2.1 (by omega)]; have := wc.2.2.2.2.2.2.2.1 (by omega); have := c2 (m (100 + c) 3) (by omega) (by omega); omega) | omega))
      · refine a_table 146 164 eX10_of_18 (by omega) (by omega) (by omega) rfl (by decide) ?_
        refine a_ald0 eX10_of_164 ?_
        refine a_ild1 eX10_of_165 ?_
        refine a_iconst eX10_of_166 ?_
        refine a_cV2 eX10_of_167 lk_X10_276 mV_X10_of0 sh_171 ⟨_, rfl, rfl⟩ mt_X10_of0 rfl rfl rfl rfl rfl rfl (c_X10_of0 hR (by omega) ?_)
        dsimp only [Option.toList, List.cons_append, List.nil_append]
        refine a_iret eX10_of_170 rfl rfl ⟨Nat.zero_le _, Nat.zero_le _⟩ ?_
        first | (refine aw_ret hk ?_; unfold sp_of; (repeat (first | rw [if_pos (by omega)] | rw [if_neg (by omega)])); done) | (refine aw_ret hk ?_; unfold sp_of; (repeat (first | rw [if_pos (by omega)] | rw [if_neg (by omega)])); omega) | (refine aw_ret hk ?_; unfold sp_of; (repeat (first | rw [if_pos (by omega)] | rw [if_neg (by omega)])); (first | (rw [cm.2.2.2.1 (by omega)]; have := wc.2.2.2.2.2.2.2.1 (by omega); have := c2 (m (100 + c) 3) (by omega) (by omega); omega) | omega))
      · refine a_table 153 171 eX10_of_18 (by omega) (by omega) (by omega) rfl (by decide) ?_
        refine a_ald0 eX10_of_171 ?_
        refine a_ild1 eX10_of_172 ?_
        refine a_iconst eX10_of_173 ?_
        refine a_cV2 eX10_of_174 lk_X10_276 mV_X10_of0 sh_171 ⟨_, rfl, rfl⟩ mt_X10_of0 rfl rfl rfl rfl rfl rfl (c_X10_of0 hR (by omega) ?_)
        dsimp only [Option.toList, List.cons_append, List.nil_append]
        refine a_iret eX10_of_177 rfl rfl ⟨Nat.zero_le _, Nat.zero_le _⟩ ?_
        first | (refine aw_ret hk ?_; unfold sp_of; (repeat (first | rw [if_pos (by omega)] | rw [if_neg (by omega)])); done) | (refine aw_ret hk ?_; unfold sp_of; (repeat (first | rw [if_pos (by omega)] | rw [if_neg (by omega)])); omega) | (refine aw_ret hk ?_; unfold sp_of; (repeat (first | rw [if_pos (by omega)] | rw [if_neg (by omega)])); (first | (rw [cm.2.2.2.1 (by omega)]; have := wc.2.2.2.2.2.2.2.1 (by omega); have := c2 (m (100 + c) 3) (by omega) (by omega); omega) | omega))
      · refine a_table 160 178 eX10_of_18 (by omega) (by omega) (by omega) rfl (by decide) ?_
        refine a_ald0 eX10_of_178 ?_
        refine a_ild1 eX10_of_179 ?_
        refine a_bipush eX10_of_180 (by decide) ?_
        refine a_cV2 eX10_of_182 lk_X10_276 mV_X10_of0 sh_171 ⟨_, rfl, rfl⟩ mt_X10_of0 rfl rfl rfl rfl rfl rfl (c_X10_of0 hR (by omega) ?_)
        dsimp only [Option.toList, List.cons_append, List.nil_append]
        refine a_iret eX10_of_185 rfl rfl ⟨Nat.zero_le _, Nat.zero_le _⟩ ?_
        first | (refine aw_ret hk ?_; unfold sp_of; (repeat (first | rw [if_pos (by omega)] | rw [if_neg (by omega)])); done) | (refine aw_ret hk ?_; unfold sp_of; (repeat (first | rw [if_pos (by omega)] | rw [if_neg (by omega)])); omega) | (refine aw_ret hk ?_; unfold sp_of; (repeat (first | rw [if_pos (by omega)] | rw [if_neg (by omega)])); (first | (rw [cm.2.2.2.1 (by omega)]; have := wc.2.2.2.2.2.2.2.1 (by omega); have := c2 (m (100 + c) 3) (by omega) (by omega); omega) | omega))
      · refine a_table 168 186 eX10_of_18 (by omega) (by omega) (by omega) rfl (by decide) ?_
        refine a_ald0 eX10_of_186 ?_
        refine a_ild1 eX10_of_187 ?_
        refine a_bipush eX10_of_188 (by decide) ?_
        refine a_cV2 eX10_of_190 lk_X10_276 mV_X10_of0 sh_171 ⟨_, rfl, rfl⟩ mt_X10_of0 rfl rfl rfl rfl rfl rfl (c_X10_of0 hR (by omega) ?_)
        dsimp only [Option.toList, List.cons_append, List.nil_append]
        refine a_iret eX10_of_193 rfl rfl ⟨Nat.zero_le _, Nat.zero_le _⟩ ?_
        first | (refine aw_ret hk ?_; unfold sp_of; (repeat (first | rw [if_pos (by omega)] | rw [if_neg (by omega)])); done) | (refine aw_ret hk ?_; unfold sp_of; (repeat (first | rw [if_pos (by omega)] | rw [if_neg (by omega)])); omega) | (refine aw_ret hk ?_; unfold sp_of; (repeat (first | rw [if_pos (by omega)] | rw [if_neg (by omega)])); (first | (rw [cm.2.2.2.1 (by omega)]; have := wc.2.2.2.2.2.2.2.1 (by omega); have := c2 (m (100 + c) 3) (by omega) (by omega); omega) | omega))
      · refine a_table 176 194 eX10_of_18 (by omega) (by omega) (by omega) rfl (by decide) ?_
        refine a_ald0 eX10_of_194 ?_
        refine a_ild1 eX10_of_195 ?_
        refine a_bipush eX10_of_196 (by decide) ?_
        refine a_cV2 eX10_of_198 lk_X10_276 mV_X10_of0 sh_171 ⟨_, rfl, rfl⟩ mt_X10_of0 rfl rfl rfl rfl rfl rfl (c_X10_of0 hR (by omega) ?_)
        dsimp only [Option.toList, List.cons_append, List.nil_append]
        refine a_iret eX10_of_201 rfl rfl ⟨Nat.zero_le _, Nat.zero_le _⟩ ?_
        first | (refine aw_ret hk ?_; unfold sp_of; (repeat (first | rw [if_pos (by omega)] | rw [if_neg (by omega)])); done) | (refine aw_ret hk ?_; unfold sp_of; (repeat (first | rw [if_pos (by omega)] | rw [if_neg (by omega)])); omega) | (refine aw_ret hk ?_; unfold sp_of; (repeat (first | rw [if_pos (by omega)] | rw [if_neg (by omega)])); (first | (rw [cm.2.2.2.1 (by omega)]; have := wc.2.2.2.2.2.2.2.1 (by omega); have := c2 (m (100 + c) 3) (by omega) (by omega); omega) | omega))
    · refine a_tableOut 202 eX10_of_18 (by omega) (by omega) (by decide) ?_
      refine a_iconst eX10_of_202 ?_
      refine a_iret eX10_of_203 rfl rfl ⟨Nat.zero_le _, Nat.zero_le _⟩ ?_
      first | (refine aw_ret hk ?_; unfold sp_of; (repeat (first | rw [if_pos (by omega)] | rw [if_neg (by omega)])); done) | (refine aw_ret hk ?_; unfold sp_of; (repeat (first | rw [if_pos (by omega)] | rw [if_neg (by omega)])); omega) | (refine aw_ret hk ?_; unfold sp_of; (repeat (first | rw [if_pos (by omega)] | rw [if_neg (by omega)])); (first | (rw [cm.2.2.2.1 (by omega)]; have := wc.2.2.2.2.2.2.2.1 (by omega); have := c2 (m (100 + c) 3) (by omega) (by omega); omega) | omega))
  · skip
    dsimp only [Option.toList, List.cons_append, List.nil_append]
    refine a_if_ne 10 eX10_of_5 (by decide) (by omega) (fun h => absurd h (by decide)) (fun _ => ?_)
    refine a_iconst eX10_of_8 ?_
    refine a_iret eX10_of_9 rfl rfl ⟨Nat.zero_le _, Nat.zero_le _⟩ ?_
    first | (refine aw_ret hk ?_; unfold sp_of; (repeat (first | rw [if_pos (by omega)] | rw [if_neg (by omega)])); done) | (refine aw_ret hk ?_; unfold sp_of; (repeat (first | rw [if_pos (by omega)] | rw [if_neg (by omega)])); omega) | (refine aw_ret hk ?_; unfold sp_of; (repeat (first | rw [if_pos (by omega)] | rw [if_neg (by omega)])); (first | (rw [cm.2.2.2.1 (by omega)]; have := wc.2.2.2.2.2.2.2.1 (by omega); have := c2 (m (100 + c) 3) (by omega) (by omega); omega) | omega))
