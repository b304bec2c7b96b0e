set_option maxHeartbeats 4000000 in
set_option maxRecDepth 100000 in
theorem c_X9_end {l : Launch} {σ : aw_S} {Post : Option Value → aw_S → Prop} {tw cs : Bool} (hR : σ.2.2 = RF tw cs) {m : mS} {n1 : Int} (ht : σ.1 1 1 = m 0 7) (ht2 : 0 ≤ m 0 7 ∧ m 0 7 ≤ 500) (hr : (-2147483648 ≤ n1 ∧ n1 ≤ 2147483647)) (h1 : (0 ≤ n1 ∧ n1 ≤ m 0 7) → Post (some (.int (jI 1))) (aw_si σ 1 1 n1)) (h0 : ¬ (0 ≤ n1 ∧ n1 ≤ m 0 7) → Post (some (.int (jI 0))) σ) : AE l yX9_end cX9_end 2 (some .boolean) 1 22 0 0 SH SH σ [.ref 0, .int (jI n1)] Post := by
  show AW l yX9_end cX9_end 2 (some .boolean) 1 22 0 0 SH Post SH 0 0 σ 0 [some (.ref 0), some (.int (jI n1))] []
  refine a_ild1 eX9_end_0 ?_
  refine a_iconst eX9_end_1 ?_
  refine a_ald0 eX9_end_2 ?_
  refine a_getR 0 1 eX9_end_3 fl_X9_10 rfl rfl sh_0 ((congrFun (congrFun hR _) _).trans rf_0_0) ?_
  refine a_getI 1 eX9_end_6 fl_X9_73 rfl rfl sh_1 ?_
  refine a_eqtop (y0 := m 0 7) (by exact ht) ?_
  refine a_cS3 eX9_end_9 lk_X9_81 mS_X9_within mt_X9_within rfl rfl rfl rfl rfl rfl rfl (c_X9_within (by omega) (fun hT9 => ?_) (fun hF9 => ?_))
  · skip
    dsimp only [Option.toList, List.cons_append, List.nil_append]
    refine a_if_ne 17 eX9_end_12 (by decide) (by omega) (fun _ => ?_) (fun h => absurd h (by decide))
    refine a_ald0 eX9_end_17 ?_
    refine a_getR 0 1 eX9_end_18 fl_X9_10 rfl rfl sh_0 ((congrFun (congrFun hR _) _).trans rf_0_0) ?_
    refine a_ild1 eX9_end_21 ?_
    refine a_putI 1 eX9_end_22 fl_X9_73 rfl rfl sh_1 (fun q h => Or.inl (by cases h; rfl)) ?_
    refine a_iconst eX9_end_25 ?_
    refine a_zret eX9_end_26 rfl (by first | exact Or.inl rfl | exact Or.inr rfl | omega) rfl ⟨Nat.zero_le _, Nat.zero_le _⟩ ?_
    exact h1 (by omega)
  · skip
    dsimp only [Option.toList, List.cons_append, List.nil_append]
    refine a_if_ne 17 eX9_end_12 (by decide) (by omega) (fun h => absurd h (by decide)) (fun _ => ?_)
    refine a_iconst eX9_end_15 ?_
    refine a_zret eX9_end_16 rfl (by first | exact Or.inl rfl | exact Or.inr rfl | omega) rfl ⟨Nat.zero_le _, Nat.zero_le _⟩ ?_
    exact h0 (by omega)

set_option maxHeartbeats 4000000 in
set_option maxRecDepth 100000 in
theorem c_X10_end {l : Launch} {σ : aw_S} {Post : Option Value → aw_S → Prop} {tw cs : Bool} (hR : σ.2.2 = RF tw cs) {m : mS} {n1 : Int} (ht : σ.1 171 1 = m 0 7) (ht2 : 0 ≤ m 0 7 ∧ m 0 7 ≤ 500) (hr : (-2147483648 ≤ n1 ∧ n1 ≤ 2147483647)) (h1 : (0 ≤ n1 ∧ n1 ≤ m 0 7) → Post (some (.int (jI 1))) (aw_si σ 171 1 n1)) (h0 : ¬ (0 ≤ n1 ∧ n1 ≤ m 0 7) → Post (some (.int (jI 0))) σ) : AE l yX10_end cX10_end 2 (some .boolean) 1 22 0 0 SH SH σ [.ref 171, .int (jI n1)] Post := by
  show AW l yX10_end cX10_end 2 (some .boolean) 1 22 0 0 SH Post SH 0 0 σ 0 [some (.ref 171), some (.int (jI n1))] []
  refine a_ild1 eX10_end_0 ?_
  refine a_iconst eX10_end_1 ?_
  refine a_ald0 eX10_end_2 ?_
  refine a_getI 1 eX10_end_3 fl_X10_124 rfl rfl sh_171 ?_
  refine a_eqtop (y0 := m 0 7) (by exact ht) ?_
  refine a_cS3 eX10_end_6 lk_X10_128 mS_X10_in mt_X10_in rfl rfl rfl rfl rfl rfl rfl (c_X10_in (by omega) (fun hT6 => ?_) (fun hF6 => ?_))
  · skip
    dsimp only [Option.toList, List.cons_append, List.nil_append]
    refine a_if_ne 14 eX10_end_9 (by decide) (by omega) (fun _ => ?_) (fun h => absurd h (by decide))
    refine a_ald0 eX10_end_14 ?_
    refine a_ild1 eX10_end_15 ?_
    refine a_putI 1 eX10_end_16 fl_X10_124 rfl rfl sh_171 (fun q h => Or.inl (by cases h; rfl)) ?_
    refine a_iconst eX10_end_19 ?_
    refine a_zret eX10_end_20 rfl (by first | exact Or.inl rfl | exact Or.inr rfl | omega) rfl ⟨Nat.zero_le _, Nat.zero_le _⟩ ?_
    exact h1 (by omega)
  · skip
    dsimp only [Option.toList, List.cons_append, List.nil_append]
    refine a_if_ne 14 eX10_end_9 (by decide) (by omega) (fun h => absurd h (by decide)) (fun _ => ?_)
    refine a_iconst eX10_end_12 ?_
    refine a_zret eX10_end_13 rfl (by first | exact Or.inl rfl | exact Or.inr rfl | omega) rfl ⟨Nat.zero_le _, Nat.zero_le _⟩ ?_
    exact h0 (by omega)

def vchance (m : mS) (r q mi to : Int) : Prop := (0 ≤ r ∧ r < m 0 0) ∧ (0 ≤ to ∧ to < m 0 0) ∧ (0 ≤ q ∧ q ≤ 16) ∧ (1 ≤ mi ∧ mi ≤ 60)
set_option maxHeartbeats 4000000 in
set_option maxRecDepth 100000 in
theorem c_X8_setChance {l : Launch} {σ : aw_S} {Post : Option Value → aw_S → Prop} {tw cs : Bool} (hR : σ.2.2 = RF tw cs) {r q mi to : Int} (hr : 0 ≤ r ∧ r < 6) (hk : Post none (aw_si (aw_si (aw_si (aw_si σ 52 r q) 53 r mi) 54 r to) 51 5 0)) : AE l yX8_setChance cX8_setChance 5 (none : Option Jvm.ClassFile.FieldType) 0 0 0 0 SH SH σ [.ref 51, .int (jI r), .int (jI q), .int (jI mi), .int (jI to)] Post := by
  show AW l yX8_setChance cX8_setChance 5 (none : Option Jvm.ClassFile.FieldType) 0 0 0 0 SH Post SH 0 0 σ 0 [some (.ref 51), some (.int (jI r)), some (.int (jI q)), some (.int (jI mi)), some (.int (jI to))] []
  refine a_ald0 eX8_setChance_0 ?_
  refine a_getR 0 52 eX8_setChance_1 fl_X8_11 rfl rfl sh_51 ((congrFun (congrFun hR _) _).trans rf_51_0) ?_
  refine a_ild1 eX8_setChance_4 ?_
  refine a_ild2 eX8_setChance_5 ?_
  refine a_iast eX8_setChance_6 sh_52 rfl (by omega) ?_
  refine a_ald0 eX8_setChance_7 ?_
  refine a_getR 1 53 eX8_setChance_8 fl_X8_15 rfl rfl sh_51 ((congrFun (congrFun hR _) _).trans rf_51_1) ?_
  refine a_ild1 eX8_setChance_11 ?_
  refine a_ild3 eX8_setChance_12 ?_
  refine a_iast eX8_setChance_13 sh_53 rfl (by omega) ?_
  refine a_ald0 eX8_setChance_14 ?_
  refine a_getR 2 54 eX8_setChance_15 fl_X8_18 rfl rfl sh_51 ((congrFun (congrFun hR _) _).trans rf_51_2) ?_
  refine a_ild1 eX8_setChance_18 ?_
  refine a_ild4 eX8_setChance_19 ?_
  refine a_iast eX8_setChance_21 sh_54 rfl (by omega) ?_
  refine a_ald0 eX8_setChance_22 ?_
  refine a_iconst eX8_setChance_23 ?_
  refine a_putI 5 eX8_setChance_24 fl_X8_33 rfl rfl sh_51 (fun q h => Or.inl (by cases h; rfl)) ?_
  refine a_vret eX8_setChance_27 rfl rfl ⟨Nat.zero_le _, Nat.zero_le _⟩ ?_
  exact hk

set_option maxHeartbeats 4000000 in
set_option maxRecDepth 100000 in
theorem c_X9_chance {l : Launch} {σ : aw_S} {Post : Option Value → aw_S → Prop} {tw cs : Bool} (hR : σ.2.2 = RF tw cs) {t : Nat} (hct : isCity t) (hrt : RF tw cs 0 1 = some t) {m : mS} (hC : cityC σ t m) (wC : wfCity m) {r q mi to : Int} (hr : (-2147483648 ≤ r ∧ r ≤ 2147483647) ∧ (-2147483648 ≤ q ∧ q ≤ 2147483647) ∧ (-2147483648 ≤ mi ∧ mi ≤ 2147483647) ∧ (-2147483648 ≤ to ∧ to ≤ 2147483647)) (h1 : vchance m r q mi to → Post (some (.int (jI 1))) (aw_si (aw_si (aw_si (aw_si σ 52 r q) 53 r mi) 54 r to) 51 5 0)) (h0 : ¬ vchance m r q mi to → Post (some (.int (jI 0))) σ) : AE l yX9_chance cX9_chance 5 (some .boolean) 2 43 0 0 SH SH σ [.ref 0, .int (jI r), .int (jI q), .int (jI mi), .int (jI to)] Post := by
  show AW l yX9_chance cX9_chance 5 (some .boolean) 2 43 0 0 SH Post SH 0 0 σ 0 [some (.ref 0), some (.int (jI r)), some (.int (jI q)), some (.int (jI mi)), some (.int (jI to))] []
  obtain ⟨c1, c2, c3, c4, c5, c6, c7, c8⟩ := id hC
  obtain ⟨w1, w2, w3, w4, w5, w6, w7, w8⟩ := id wC
  refine a_ald0 eX9_chance_0 ?_
  refine a_ild1 eX9_chance_1 ?_
  refine a_cV1 eX9_chance_2 lk_X9_102 mV_X9_hasRank sh_0 ⟨_, rfl, rfl⟩ mt_X9_hasRank rfl rfl rfl rfl rfl (c_X9_hasRank hR hct hrt hC wC (by omega) (fun hT2 => ?_) (fun hF2 => ?_))
  · skip
    dsimp only [Option.toList, List.cons_append, List.nil_append]
    refine a_if_eq 37 eX9_chance_5 (by decide) (by omega) (fun h => absurd h (by decide)) (fun _ => ?_)
    refine a_ald0 eX9_chance_8 ?_
    refine a_ild4 eX9_chance_9 ?_
    refine a_cV1 eX9_chance_11 lk_X9_102 mV_X9_hasRank sh_0 ⟨_, rfl, rfl⟩ mt_X9_hasRank rfl rfl rfl rfl rfl (c_X9_hasRank hR hct hrt hC wC (by omega) (fun hT11 => ?_) (fun hF11 => ?_))
    · skip
      dsimp only [Option.toList, List.cons_append, List.nil_append]
      refine a_if_eq 37 eX9_chance_14 (by decide) (by omega) (fun h => absurd h (by decide)) (fun _ => ?_)
      refine a_ild2 eX9_chance_17 ?_
      refine a_iconst eX9_chance_18 ?_
      refine a_bipush eX9_chance_19 (by decide) ?_
      refine a_cS3 eX9_chance_21 lk_X9_81 mS_X9_within mt_X9_within rfl rfl rfl rfl rfl rfl rfl (c_X9_within (by omega) (fun hT21 => ?_) (fun hF21 => ?_))
      · skip
        dsimp only [Option.toList, List.cons_append, List.nil_append]
        refine a_if_eq 37 eX9_chance_24 (by decide) (by omega) (fun h => absurd h (by decide)) (fun _ => ?_)
        refine a_ild3 eX9_chance_27 ?_
        refine a_iconst eX9_chance_28 ?_
        refine a_bipush eX9_chance_29 (by decide) ?_
        refine a_cS3 eX9_chance_31 lk_X9_81 mS_X9_within mt_X9_within rfl rfl rfl rfl rfl rfl rfl (c_X9_within (by omega) (fun hT31 => ?_) (fun hF31 => ?_))
        · skip
          dsimp only [Option.toList, List.cons_append, List.nil_append]
          refine a_if_ne 39 eX9_chance_34 (by decide) (by omega) (fun _ => ?_) (fun h => absurd h (by decide))
          refine a_ald0 eX9_chance_39 ?_
          refine a_getR 5 51 eX9_chance_40 fl_X9_41 rfl rfl sh_0 ((congrFun (congrFun hR _) _).trans rf_0_5) ?_
          refine a_ild1 eX9_chance_43 ?_
          refine a_ild2 eX9_chance_44 ?_
          refine a_ild3 eX9_chance_45 ?_
          refine a_ild4 eX9_chance_46 ?_
          refine a_cV4 eX9_chance_48 lk_X9_232 mV_X8_setChance sh_51 ⟨_, rfl, rfl⟩ mt_X8_setChance rfl rfl rfl rfl rfl rfl rfl rfl (c_X8_setChance hR (by omega) ?_)
          dsimp only [Option.toList, List.cons_append, List.nil_append]
          refine a_iconst eX9_chance_51 ?_
          refine a_zret eX9_chance_52 rfl (by first | exact Or.inl rfl | exact Or.inr rfl | omega) rfl ⟨Nat.zero_le _, Nat.zero_le _⟩ ?_
          exact h1 ⟨by omega, by omega, by omega, by omega⟩
        · skip
          dsimp only [Option.toList, List.cons_append, List.nil_append]
          refine a_if_ne 39 eX9_chance_34 (by decide) (by omega) (fun h => absurd h (by decide)) (fun _ => ?_)
          refine a_iconst eX9_chance_37 ?_
          refine a_zret eX9_chance_38 rfl (by first | exact Or.inl rfl | exact Or.inr rfl | omega) rfl ⟨Nat.zero_le _, Nat.zero_le _⟩ ?_
          exact h0 (fun q => by unfold vchance at q; omega)
      · skip
        dsimp only [Option.toList, List.cons_append, List.nil_append]
        refine a_if_eq 37 eX9_chance_24 (by decide) (by omega) (fun _ => ?_) (fun h => absurd h (by decide))
        refine a_iconst eX9_chance_37 ?_
        refine a_zret eX9_chance_38 rfl (by first | exact Or.inl rfl | exact Or.inr rfl | omega) rfl ⟨Nat.zero_le _, Nat.zero_le _⟩ ?_
        exact h0 (fun q => by unfold vchance at q; omega)
    · skip
      dsimp only [Option.toList, List.cons_append, List.nil_append]
      refine a_if_eq 37 eX9_chance_14 (by decide) (by omega) (fun _ => ?_) (fun h => absurd h (by decide))
      refine a_iconst eX9_chance_37 ?_
      refine a_zret eX9_chance_38 rfl (by first | exact Or.inl rfl | exact Or.inr rfl | omega) rfl ⟨Nat.zero_le _, Nat.zero_le _⟩ ?_
      exact h0 (fun q => by unfold vchance at q; omega)
  · skip
    dsimp only [Option.toList, List.cons_append, List.nil_append]
    refine a_if_eq 37 eX9_chance_5 (by decide) (by omega) (fun _ => ?_) (fun h => absurd h (by decide))
    refine a_iconst eX9_chance_37 ?_
    refine a_zret eX9_chance_38 rfl (by first | exact Or.inl rfl | exact Or.inr rfl | omega) rfl ⟨Nat.zero_le _, Nat.zero_le _⟩ ?_
    exact h0 (fun q => by unfold vchance at q; omega)

set_option maxHeartbeats 4000000 in
set_option maxRecDepth 100000 in
theorem c_X10_chance {l : Launch} {σ : aw_S} {Post : Option Value → aw_S → Prop} {tw cs : Bool} (hR : σ.2.2 = RF tw cs) {m : mS} (hM : cityM σ m) (wC : wfCity m) {r q mi to : Int} (hr : (-2147483648 ≤ r ∧ r ≤ 2147483647) ∧ (-2147483648 ≤ q ∧ q ≤ 2147483647) ∧ (-2147483648 ≤ mi ∧ mi ≤ 2147483647) ∧ (-2147483648 ≤ to ∧ to ≤ 2147483647)) (h1 : vchance m r q mi to → Post (some (.int (jI 1))) (aw_si (aw_si (aw_si σ 187 (3 * r) q) 187 (3 * r + 1) mi) 187 (3 * r + 2) to)) (h0 : ¬ vchance m r q mi to → Post (some (.int (jI 0))) σ) : AE l yX10_chance cX10_chance 5 (some .boolean) 2 43 0 0 SH SH σ [.ref 171, .int (jI r), .int (jI q), .int (jI mi), .int (jI to)] Post := by
  show AW l yX10_chance cX10_chance 5 (some .boolean) 2 43 0 0 SH Post SH 0 0 σ 0 [some (.ref 171), some (.int (jI r)), some (.int (jI q)), some (.int (jI mi)), some (.int (jI to))] []
  obtain ⟨c1, c2, c3, c4, c5, c6, c7⟩ := id hM
  obtain ⟨w1, w2, w3, w4, w5, w6, w7, w8⟩ := id wC
  refine a_ald0 eX10_chance_0 ?_
  refine a_ild1 eX10_chance_1 ?_
  refine a_cV1 eX10_chance_2 lk_X10_255 mV_X10_isRank sh_171 ⟨_, rfl, rfl⟩ mt_X10_isRank rfl rfl rfl rfl rfl (c_X10_isRank (by omega) (by omega) (fun hT2 => ?_) (fun hF2 => ?_))
  · skip
    dsimp only [Option.toList, List.cons_append, List.nil_append]
    refine a_if_eq 37 eX10_chance_5 (by decide) (by omega) (fun h => absurd h (by decide)) (fun _ => ?_)
    refine a_ald0 eX10_chance_8 ?_
    refine a_ild4 eX10_chance_9 ?_
    refine a_cV1 eX10_chance_11 lk_X10_255 mV_X10_isRank sh_171 ⟨_, rfl, rfl⟩ mt_X10_isRank rfl rfl rfl rfl rfl (c_X10_isRank (by omega) (by omega) (fun hT11 => ?_) (fun hF11 => ?_))
    · skip
      dsimp only [Option.toList, List.cons_append, List.nil_append]
      refine a_if_eq 37 eX10_chance_14 (by decide) (by omega) (fun h => absurd h (by decide)) (fun _ => ?_)
      refine a_ild2 eX10_chance_17 ?_
      refine a_iconst eX10_chance_18 ?_
      refine a_bipush eX10_chance_19 (by decide) ?_
      refine a_cS3 eX10_chance_21 lk_X10_128 mS_X10_in mt_X10_in rfl rfl rfl rfl rfl rfl rfl (c_X10_in (by omega) (fun hT21 => ?_) (fun hF21 => ?_))
      · skip
        dsimp only [Option.toList, List.cons_append, List.nil_append]
        refine a_if_eq 37 eX10_chance_24 (by decide) (by omega) (fun h => absurd h (by decide)) (fun _ => ?_)
        refine a_ild3 eX10_chance_27 ?_
        refine a_iconst eX10_chance_28 ?_
        refine a_bipush eX10_chance_29 (by decide) ?_
        refine a_cS3 eX10_chance_31 lk_X10_128 mS_X10_in mt_X10_in rfl rfl rfl rfl rfl rfl rfl (c_X10_in (by omega) (fun hT31 => ?_) (fun hF31 => ?_))
        · skip
          dsimp only [Option.toList, List.cons_append, List.nil_append]
          refine a_if_ne 39 eX10_chance_34 (by decide) (by omega) (fun _ => ?_) (fun h => absurd h (by decide))
          refine a_ald0 eX10_chance_39 ?_
          refine a_getR 29 187 eX10_chance_40 fl_X10_57 rfl rfl sh_171 ((congrFun (congrFun hR _) _).trans rf_171_29) ?_
          refine a_iconst eX10_chance_43 ?_
          refine a_ild1 eX10_chance_44 ?_
          refine a_imul eX10_chance_45 ?_
          refine a_ild2 eX10_chance_46 ?_
          refine a_iast eX10_chance_47 sh_187 rfl (by omega) ?_
          refine a_ald0 eX10_chance_48 ?_
          refine a_getR 29 187 eX10_chance_49 fl_X10_57 rfl rfl sh_171 ((congrFun (congrFun hR _) _).trans rf_171_29) ?_
          refine a_iconst eX10_chance_52 ?_
          refine a_ild1 eX10_chance_53 ?_
          refine a_imul eX10_chance_54 ?_
          refine a_iconst eX10_chance_55 ?_
          refine a_iadd eX10_chance_56 ?_
          refine a_ild3 eX10_chance_57 ?_
          refine a_iast eX10_chance_58 sh_187 rfl (by omega) ?_
          refine a_ald0 eX10_chance_59 ?_
          refine a_getR 29 187 eX10_chance_60 fl_X10_57 rfl rfl sh_171 ((congrFun (congrFun hR _) _).trans rf_171_29) ?_
          refine a_iconst eX10_chance_63 ?_
          refine a_ild1 eX10_chance_64 ?_
          refine a_imul eX10_chance_65 ?_
          refine a_iconst eX10_chance_66 ?_
          refine a_iadd eX10_chance_67 ?_
          refine a_ild4 eX10_chance_68 ?_
          refine a_iast eX10_chance_70 sh_187 rfl (by omega) ?_
          refine a_iconst eX10_chance_71 ?_
          refine a_zret eX10_chance_72 rfl (by first | exact Or.inl rfl | exact Or.inr rfl | omega) rfl ⟨Nat.zero_le _, Nat.zero_le _⟩ ?_
          exact h1 ⟨by omega, by omega, by omega, by omega⟩
        · skip
          dsimp only [Option.toList, List.cons_append, List.nil_append]
          refine a_if_ne 39 eX10_chance_34 (by decide) (by omega) (fun h => absurd h (by decide)) (fun _ => ?_)
          refine a_iconst eX10_chance_37 ?_
          refine a_zret eX10_chance_38 rfl (by first | exact Or.inl rfl | exact Or.inr rfl | omega) rfl ⟨Nat.zero_le _, Nat.zero_le _⟩ ?_
          exact h0 (fun q => by unfold vchance at q; omega)
      · skip
        dsimp only [Option.toList, List.cons_append, List.nil_append]
        refine a_if_eq 37 eX10_chance_24 (by decide) (by omega) (fun _ => ?_) (fun h => absurd h (by decide))
        refine a_iconst eX10_chance_37 ?_
        refine a_zret eX10_chance_38 rfl (by first | exact Or.inl rfl | exact Or.inr rfl | omega) rfl ⟨Nat.zero_le _, Nat.zero_le _⟩ ?_
        exact h0 (fun q => by unfold vchance at q; omega)
    · skip
      dsimp only [Option.toList, List.cons_append, List.nil_append]
      refine a_if_eq 37 eX10_chance_14 (by decide) (by omega) (fun _ => ?_) (fun h => absurd h (by decide))
      refine a_iconst eX10_chance_37 ?_
      refine a_zret eX10_chance_38 rfl (by first | exact Or.inl rfl | exact Or.inr rfl | omega) rfl ⟨Nat.zero_le _, Nat.zero_le _⟩ ?_
      exact h0 (fun q => by unfold vchance at q; omega)
  · skip
    dsimp only [Option.toList, List.cons_append, List.nil_append]
    refine a_if_eq 37 eX10_chance_5 (by decide) (by omega) (fun _ => ?_) (fun h => absurd h (by decide))
    refine a_iconst eX10_chance_37 ?_
    refine a_zret eX10_chance_38 rfl (by first | exact Or.inl rfl | exact Or.inr rfl | omega) rfl ⟨Nat.zero_le _, Nat.zero_le _⟩ ?_
    exact h0 (fun q => by unfold vchance at q; omega)
