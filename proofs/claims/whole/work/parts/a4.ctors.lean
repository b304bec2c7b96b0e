set_option maxHeartbeats 4000000 in
set_option maxRecDepth 100000 in
theorem k_X3_init_4 {l : Launch} {Post : Option Value → aw_S → Prop} (hk : Post none (sN 8 2)) : AE l yX3_init cX3_init 1 (none : Option Jvm.ClassFile.FieldType) 1 21 7 48 (SH.take 11) (SH.take 4) (sN 1 0) [.ref 3] Post := by
  show AW l yX3_init cX3_init 1 (none : Option Jvm.ClassFile.FieldType) 1 21 7 48 (SH.take 11) Post (SH.take 4) 0 0 (sN 1 0) 0 [some (.ref 3)] []
  refine a_ald0 eX3_init_0 ?_
  refine a_oi eX3_init_1 lk_X3_3 rfl rfl ?_
  refine a_ald0 eX3_init_4 ?_
  refine a_bipush eX3_init_5 (by decide) ?_
  refine n_newa (N := 6) eX3_init_7 rfl rfl ka_0 rfl rfl sh_4 (by decide +kernel) rfl ?_
  refine n_putR 1 eX3_init_9 fl_X3_9 rfl (by first | exact Or.inl ⟨_, rfl⟩ | exact Or.inr ⟨_, rfl⟩) sh_3 rfl (fun q h => Or.inr (by cases h; exact ⟨rfl, rfl, rfl⟩)) rfl rfl ?_
  refine a_ald0 eX3_init_12 ?_
  refine a_bipush eX3_init_13 (by decide) ?_
  refine n_newa (N := 6) eX3_init_15 rfl rfl ka_0 rfl rfl sh_5 (by decide +kernel) rfl ?_
  refine n_putR 2 eX3_init_17 fl_X3_15 rfl (by first | exact Or.inl ⟨_, rfl⟩ | exact Or.inr ⟨_, rfl⟩) sh_3 rfl (fun q h => Or.inr (by cases h; exact ⟨rfl, rfl, rfl⟩)) rfl rfl ?_
  refine a_ald0 eX3_init_20 ?_
  refine a_bipush eX3_init_21 (by decide) ?_
  refine n_newa (N := 6) eX3_init_23 rfl rfl ka_0 rfl rfl sh_6 (by decide +kernel) rfl ?_
  refine n_putR 3 eX3_init_25 fl_X3_18 rfl (by first | exact Or.inl ⟨_, rfl⟩ | exact Or.inr ⟨_, rfl⟩) sh_3 rfl (fun q h => Or.inr (by cases h; exact ⟨rfl, rfl, rfl⟩)) rfl rfl ?_
  refine a_ald0 eX3_init_28 ?_
  refine a_bipush eX3_init_29 (by decide) ?_
  refine n_newa (N := 6) eX3_init_31 rfl rfl ka_0 rfl rfl sh_7 (by decide +kernel) rfl ?_
  refine n_putR 5 eX3_init_33 fl_X3_21 rfl (by first | exact Or.inl ⟨_, rfl⟩ | exact Or.inr ⟨_, rfl⟩) sh_3 rfl (fun q h => Or.inr (by cases h; exact ⟨rfl, rfl, rfl⟩)) rfl rfl ?_
  refine a_ald0 eX3_init_36 ?_
  refine a_bipush eX3_init_37 (by decide) ?_
  refine n_newa (N := 8) eX3_init_39 rfl rfl ka_0 rfl rfl sh_8 (by decide +kernel) rfl ?_
  refine n_putR 6 eX3_init_41 fl_X3_24 rfl (by first | exact Or.inl ⟨_, rfl⟩ | exact Or.inr ⟨_, rfl⟩) sh_3 rfl (fun q h => Or.inr (by cases h; exact ⟨rfl, rfl, rfl⟩)) rfl rfl ?_
  refine a_ald0 eX3_init_44 ?_
  refine a_bipush eX3_init_45 (by decide) ?_
  refine n_newa (N := 8) eX3_init_47 rfl rfl ka_0 rfl rfl sh_9 (by decide +kernel) rfl ?_
  refine n_putR 7 eX3_init_49 fl_X3_27 rfl (by first | exact Or.inl ⟨_, rfl⟩ | exact Or.inr ⟨_, rfl⟩) sh_3 rfl (fun q h => Or.inr (by cases h; exact ⟨rfl, rfl, rfl⟩)) rfl rfl ?_
  refine a_ald0 eX3_init_52 ?_
  refine a_bipush eX3_init_53 (by decide) ?_
  refine n_newa (N := 8) eX3_init_55 rfl rfl ka_0 rfl rfl sh_10 (by decide +kernel) rfl ?_
  refine n_putR 8 eX3_init_57 fl_X3_30 rfl (by first | exact Or.inl ⟨_, rfl⟩ | exact Or.inr ⟨_, rfl⟩) sh_3 rfl (fun q h => Or.inr (by cases h; exact ⟨rfl, rfl, rfl⟩)) rfl rfl ?_
  refine a_ald0 eX3_init_60 ?_
  refine a_iconst eX3_init_61 ?_
  refine n_putI 11 eX3_init_62 fl_X3_33 rfl rfl sh_3 rfl (fun q h => Or.inl (by cases h; rfl)) rfl ?_
  refine a_ald0 eX3_init_65 ?_
  refine a_iconst eX3_init_66 ?_
  refine n_putI 15 eX3_init_67 fl_X3_37 rfl rfl sh_3 rfl (fun q h => Or.inl (by cases h; rfl)) rfl ?_
  refine a_vret eX3_init_70 rfl rfl ⟨by decide, by decide⟩ ?_
  exact hk

set_option maxHeartbeats 4000000 in
set_option maxRecDepth 100000 in
theorem k_X4_init_2 {l : Launch} {Post : Option Value → aw_S → Prop} (hk : Post none (sN 11 2)) : AE l yX4_init cX4_init 1 (none : Option Jvm.ClassFile.FieldType) 2 41 11 576 (SH.take 13) (SH.take 2) (sN 0 0) [.ref 1] Post := by
  show AW l yX4_init cX4_init 1 (none : Option Jvm.ClassFile.FieldType) 2 41 11 576 (SH.take 13) Post (SH.take 2) 0 0 (sN 0 0) 0 [some (.ref 1)] []
  refine a_ald0 eX4_init_0 ?_
  refine a_oi eX4_init_1 lk_X4_3 rfl rfl ?_
  refine a_ald0 eX4_init_4 ?_
  refine a_sipush eX4_init_5 (by decide) ?_
  refine n_newa (N := 500) eX4_init_8 rfl rfl ka_1 rfl rfl sh_2 (by decide +kernel) rfl ?_
  refine n_putR 0 eX4_init_10 fl_X4_9 rfl (by first | exact Or.inl ⟨_, rfl⟩ | exact Or.inr ⟨_, rfl⟩) sh_1 rfl (fun q h => Or.inr (by cases h; exact ⟨rfl, rfl, rfl⟩)) rfl rfl ?_
  refine a_ald0 eX4_init_13 ?_
  refine n_new (ci := 3) eX4_init_14 rfl kl_X4_15 ki_X3 kn_X3 nt_3 sh_3 (by decide +kernel) rfl ?_
  refine a_dup eX4_init_17 rfl ?_
  refine a_callIN eX4_init_18 ln_X4_17 mI_X3_init mt_X3_init rfl rfl rfl rfl (k_X3_init_4 ?_)
  dsimp only [Option.toList, List.cons_append, List.nil_append]
  refine n_putR 2 eX4_init_21 fl_X4_18 rfl (by first | exact Or.inl ⟨_, rfl⟩ | exact Or.inr ⟨_, rfl⟩) sh_1 rfl (fun q h => Or.inl (by cases h; rfl)) rfl rfl ?_
  refine a_ald0 eX4_init_24 ?_
  refine a_bipush eX4_init_25 (by decide) ?_
  refine n_newa (N := 6) eX4_init_27 rfl rfl ka_0 rfl rfl sh_11 (by decide +kernel) rfl ?_
  refine n_putR 3 eX4_init_29 fl_X4_22 rfl (by first | exact Or.inl ⟨_, rfl⟩ | exact Or.inr ⟨_, rfl⟩) sh_1 rfl (fun q h => Or.inr (by cases h; exact ⟨rfl, rfl, rfl⟩)) rfl rfl ?_
  refine a_ald0 eX4_init_32 ?_
  refine a_bipush eX4_init_33 (by decide) ?_
  refine n_newa (N := 6) eX4_init_35 rfl rfl ka_0 rfl rfl sh_12 (by decide +kernel) rfl ?_
  refine n_putR 4 eX4_init_37 fl_X4_26 rfl (by first | exact Or.inl ⟨_, rfl⟩ | exact Or.inr ⟨_, rfl⟩) sh_1 rfl (fun q h => Or.inr (by cases h; exact ⟨rfl, rfl, rfl⟩)) rfl rfl ?_
  refine a_vret eX4_init_40 rfl rfl ⟨by decide, by decide⟩ ?_
  exact hk

set_option maxHeartbeats 4000000 in
set_option maxRecDepth 100000 in
theorem k_X3_init_14 {l : Launch} {Post : Option Value → aw_S → Prop} (hk : Post none (sN 19 4)) : AE l yX3_init cX3_init 1 (none : Option Jvm.ClassFile.FieldType) 1 21 7 48 (SH.take 21) (SH.take 14) (sN 12 2) [.ref 13] Post := by
  show AW l yX3_init cX3_init 1 (none : Option Jvm.ClassFile.FieldType) 1 21 7 48 (SH.take 21) Post (SH.take 14) 0 0 (sN 12 2) 0 [some (.ref 13)] []
  refine a_ald0 eX3_init_0 ?_
  refine a_oi eX3_init_1 lk_X3_3 rfl rfl ?_
  refine a_ald0 eX3_init_4 ?_
  refine a_bipush eX3_init_5 (by decide) ?_
  refine n_newa (N := 6) eX3_init_7 rfl rfl ka_0 rfl rfl sh_14 (by decide +kernel) rfl ?_
  refine n_putR 1 eX3_init_9 fl_X3_9 rfl (by first | exact Or.inl ⟨_, rfl⟩ | exact Or.inr ⟨_, rfl⟩) sh_13 rfl (fun q h => Or.inr (by cases h; exact ⟨rfl, rfl, rfl⟩)) rfl rfl ?_
  refine a_ald0 eX3_init_12 ?_
  refine a_bipush eX3_init_13 (by decide) ?_
  refine n_newa (N := 6) eX3_init_15 rfl rfl ka_0 rfl rfl sh_15 (by decide +kernel) rfl ?_
  refine n_putR 2 eX3_init_17 fl_X3_15 rfl (by first | exact Or.inl ⟨_, rfl⟩ | exact Or.inr ⟨_, rfl⟩) sh_13 rfl (fun q h => Or.inr (by cases h; exact ⟨rfl, rfl, rfl⟩)) rfl rfl ?_
  refine a_ald0 eX3_init_20 ?_
  refine a_bipush eX3_init_21 (by decide) ?_
  refine n_newa (N := 6) eX3_init_23 rfl rfl ka_0 rfl rfl sh_16 (by decide +kernel) rfl ?_
  refine n_putR 3 eX3_init_25 fl_X3_18 rfl (by first | exact Or.inl ⟨_, rfl⟩ | exact Or.inr ⟨_, rfl⟩) sh_13 rfl (fun q h => Or.inr (by cases h; exact ⟨rfl, rfl, rfl⟩)) rfl rfl ?_
  refine a_ald0 eX3_init_28 ?_
  refine a_bipush eX3_init_29 (by decide) ?_
  refine n_newa (N := 6) eX3_init_31 rfl rfl ka_0 rfl rfl sh_17 (by decide +kernel) rfl ?_
  refine n_putR 5 eX3_init_33 fl_X3_21 rfl (by first | exact Or.inl ⟨_, rfl⟩ | exact Or.inr ⟨_, rfl⟩) sh_13 rfl (fun q h => Or.inr (by cases h; exact ⟨rfl, rfl, rfl⟩)) rfl rfl ?_
  refine a_ald0 eX3_init_36 ?_
  refine a_bipush eX3_init_37 (by decide) ?_
  refine n_newa (N := 8) eX3_init_39 rfl rfl ka_0 rfl rfl sh_18 (by decide +kernel) rfl ?_
  refine n_putR 6 eX3_init_41 fl_X3_24 rfl (by first | exact Or.inl ⟨_, rfl⟩ | exact Or.inr ⟨_, rfl⟩) sh_13 rfl (fun q h => Or.inr (by cases h; exact ⟨rfl, rfl, rfl⟩)) rfl rfl ?_
  refine a_ald0 eX3_init_44 ?_
  refine a_bipush eX3_init_45 (by decide) ?_
  refine n_newa (N := 8) eX3_init_47 rfl rfl ka_0 rfl rfl sh_19 (by decide +kernel) rfl ?_
  refine n_putR 7 eX3_init_49 fl_X3_27 rfl (by first | exact Or.inl ⟨_, rfl⟩ | exact Or.inr ⟨_, rfl⟩) sh_13 rfl (fun q h => Or.inr (by cases h; exact ⟨rfl, rfl, rfl⟩)) rfl rfl ?_
  refine a_ald0 eX3_init_52 ?_
  refine a_bipush eX3_init_53 (by decide) ?_
  refine n_newa (N := 8) eX3_init_55 rfl rfl ka_0 rfl rfl sh_20 (by decide +kernel) rfl ?_
  refine n_putR 8 eX3_init_57 fl_X3_30 rfl (by first | exact Or.inl ⟨_, rfl⟩ | exact Or.inr ⟨_, rfl⟩) sh_13 rfl (fun q h => Or.inr (by cases h; exact ⟨rfl, rfl, rfl⟩)) rfl rfl ?_
  refine a_ald0 eX3_init_60 ?_
  refine a_iconst eX3_init_61 ?_
  refine n_putI 11 eX3_init_62 fl_X3_33 rfl rfl sh_13 rfl (fun q h => Or.inl (by cases h; rfl)) rfl ?_
  refine a_ald0 eX3_init_65 ?_
  refine a_iconst eX3_init_66 ?_
  refine n_putI 15 eX3_init_67 fl_X3_37 rfl rfl sh_13 rfl (fun q h => Or.inl (by cases h; rfl)) rfl ?_
  refine a_vret eX3_init_70 rfl rfl ⟨by decide, by decide⟩ ?_
  exact hk

set_option maxHeartbeats 4000000 in
set_option maxRecDepth 100000 in
theorem k_X5_init_22 {l : Launch} {Post : Option Value → aw_S → Prop} (hk : Post none (sN 47 4)) : AE l yX5_init cX5_init 2 (none : Option Jvm.ClassFile.FieldType) 2 41 27 506 (SH.take 49) (SH.take 22) (sN 20 4) [.ref 21] Post := by
  show AW l yX5_init cX5_init 2 (none : Option Jvm.ClassFile.FieldType) 2 41 27 506 (SH.take 49) Post (SH.take 22) 0 0 (sN 20 4) 0 [some (.ref 21), none] []
  refine a_ald0 eX5_init_0 ?_
  refine a_oi eX5_init_1 lk_X5_3 rfl rfl ?_
  refine a_ald0 eX5_init_4 ?_
  refine a_bipush eX5_init_5 (by decide) ?_
  refine n_anew (N := 16) eX5_init_7 (by first | exact Or.inl ⟨rfl, rfl⟩ | exact Or.inr ⟨rfl, rfl⟩) kl_X5_9 rfl rfl sh_22 (by decide +kernel) rfl ?_
  refine n_putR 2 eX5_init_10 fl_X5_11 rfl (by first | exact Or.inl ⟨_, rfl⟩ | exact Or.inr ⟨_, rfl⟩) sh_21 rfl (fun q h => Or.inr (by cases h; exact ⟨rfl, rfl, rfl⟩)) rfl rfl ?_
  refine a_ald0 eX5_init_13 ?_
  refine a_bipush eX5_init_14 (by decide) ?_
  refine a_bipush eX5_init_16 (by decide) ?_
  refine n_mna (N := 6) (M := 16) eX5_init_18 kl_X5_17 rfl rfl rfl rfl rfl (by decide +kernel) (by decide +kernel) rfl ?_
  refine n_putR 3 eX5_init_22 fl_X5_19 rfl (by first | exact Or.inl ⟨_, rfl⟩ | exact Or.inr ⟨_, rfl⟩) sh_21 rfl (fun q h => Or.inr (by cases h; exact ⟨rfl, rfl, rfl⟩)) rfl rfl ?_
  refine a_ald0 eX5_init_25 ?_
  refine a_bipush eX5_init_26 (by decide) ?_
  refine n_newa (N := 6) eX5_init_28 rfl rfl ka_0 rfl rfl sh_30 (by decide +kernel) rfl ?_
  refine n_putR 4 eX5_init_30 fl_X5_22 rfl (by first | exact Or.inl ⟨_, rfl⟩ | exact Or.inr ⟨_, rfl⟩) sh_21 rfl (fun q h => Or.inr (by cases h; exact ⟨rfl, rfl, rfl⟩)) rfl rfl ?_
  refine a_ald0 eX5_init_33 ?_
  refine a_bipush eX5_init_34 (by decide) ?_
  refine n_newa (N := 6) eX5_init_36 rfl rfl ka_0 rfl rfl sh_31 (by decide +kernel) rfl ?_
  refine n_putR 5 eX5_init_38 fl_X5_26 rfl (by first | exact Or.inl ⟨_, rfl⟩ | exact Or.inr ⟨_, rfl⟩) sh_21 rfl (fun q h => Or.inr (by cases h; exact ⟨rfl, rfl, rfl⟩)) rfl rfl ?_
  refine a_ald0 eX5_init_41 ?_
  refine a_sipush eX5_init_42 (by decide) ?_
  refine n_newa (N := 200) eX5_init_45 rfl rfl ka_0 rfl rfl sh_32 (by decide +kernel) rfl ?_
  refine n_putR 7 eX5_init_47 fl_X5_29 rfl (by first | exact Or.inl ⟨_, rfl⟩ | exact Or.inr ⟨_, rfl⟩) sh_21 rfl (fun q h => Or.inr (by cases h; exact ⟨rfl, rfl, rfl⟩)) rfl rfl ?_
  refine a_iconst eX5_init_50 ?_
  refine a_ist1 eX5_init_51 (by decide) aw_n2r ?_
  refine a_ild1 eX5_init_52 ?_
  refine a_bipush eX5_init_53 (by decide) ?_
  refine a_icmp_ge 77 eX5_init_55 (by decide) (by omega) (fun h => absurd h (by decide)) (fun _ => ?_)
  refine a_ald0 eX5_init_58 ?_
  refine n_getR 2 22 eX5_init_59 fl_X5_11 rfl rfl sh_21 rfl (by decide +kernel) ?_
  refine a_ild1 eX5_init_62 ?_
  refine n_new (ci := 2) eX5_init_63 rfl kl_X5_9 ki_X2 kn_X2 nt_2 sh_33 (by decide +kernel) rfl ?_
  refine a_dup eX5_init_66 rfl ?_
  refine a_callIN eX5_init_67 ln_X5_32 mI_X2_init mt_X2_init rfl rfl rfl rfl (c_X2_init ?_)
  dsimp only [Option.toList, List.cons_append, List.nil_append]
  refine n_aast (j := 0) eX5_init_70 sh_22 rfl (by first | exact Or.inl ⟨rfl, rfl⟩ | exact Or.inr ⟨rfl, rfl⟩) sh_33 rfl rfl (by decide) rfl rfl rfl ?_
  refine a_iinc1 eX5_init_71 (by decide) aw_n2r ?_
  refine a_goto 52 eX5_init_74 (by decide) ?_
  refine a_ild1 eX5_init_52 ?_
  refine a_bipush eX5_init_53 (by decide) ?_
  refine a_icmp_ge 77 eX5_init_55 (by decide) (by omega) (fun h => absurd h (by decide)) (fun _ => ?_)
  refine a_ald0 eX5_init_58 ?_
  refine n_getR 2 22 eX5_init_59 fl_X5_11 rfl rfl sh_21 rfl (by decide +kernel) ?_
  refine a_ild1 eX5_init_62 ?_
  refine n_new (ci := 2) eX5_init_63 rfl kl_X5_9 ki_X2 kn_X2 nt_2 sh_34 (by decide +kernel) rfl ?_
  refine a_dup eX5_init_66 rfl ?_
  refine a_callIN eX5_init_67 ln_X5_32 mI_X2_init mt_X2_init rfl rfl rfl rfl (c_X2_init ?_)
  dsimp only [Option.toList, List.cons_append, List.nil_append]
  refine n_aast (j := 1) eX5_init_70 sh_22 rfl (by first | exact Or.inl ⟨rfl, rfl⟩ | exact Or.inr ⟨rfl, rfl⟩) sh_34 rfl rfl (by decide) rfl rfl rfl ?_
  refine a_iinc1 eX5_init_71 (by decide) aw_n2r ?_
  refine a_goto 52 eX5_init_74 (by decide) ?_
  refine a_ild1 eX5_init_52 ?_
  refine a_bipush eX5_init_53 (by decide) ?_
  refine a_icmp_ge 77 eX5_init_55 (by decide) (by omega) (fun h => absurd h (by decide)) (fun _ => ?_)
  refine a_ald0 eX5_init_58 ?_
  refine n_getR 2 22 eX5_init_59 fl_X5_11 rfl rfl sh_21 rfl (by decide +kernel) ?_
  refine a_ild1 eX5_init_62 ?_
  refine n_new (ci := 2) eX5_init_63 rfl kl_X5_9 ki_X2 kn_X2 nt_2 sh_35 (by decide +kernel) rfl ?_
  refine a_dup eX5_init_66 rfl ?_
  refine a_callIN eX5_init_67 ln_X5_32 mI_X2_init mt_X2_init rfl rfl rfl rfl (c_X2_init ?_)
  dsimp only [Option.toList, List.cons_append, List.nil_append]
  refine n_aast (j := 2) eX5_init_70 sh_22 rfl (by first | exact Or.inl ⟨rfl, rfl⟩ | exact Or.inr ⟨rfl, rfl⟩) sh_35 rfl rfl (by decide) rfl rfl rfl ?_
  refine a_iinc1 eX5_init_71 (by decide) aw_n2r ?_
  refine a_goto 52 eX5_init_74 (by decide) ?_
  refine a_ild1 eX5_init_52 ?_
  refine a_bipush eX5_init_53 (by decide) ?_
  refine a_icmp_ge 77 eX5_init_55 (by decide) (by omega) (fun h => absurd h (by decide)) (fun _ => ?_)
  refine a_ald0 eX5_init_58 ?_
  refine n_getR 2 22 eX5_init_59 fl_X5_11 rfl rfl sh_21 rfl (by decide +kernel) ?_
  refine a_ild1 eX5_init_62 ?_
  refine n_new (ci := 2) eX5_init_63 rfl kl_X5_9 ki_X2 kn_X2 nt_2 sh_36 (by decide +kernel) rfl ?_
  refine a_dup eX5_init_66 rfl ?_
  refine a_callIN eX5_init_67 ln_X5_32 mI_X2_init mt_X2_init rfl rfl rfl rfl (c_X2_init ?_)
  dsimp only [Option.toList, List.cons_append, List.nil_append]
  refine n_aast (j := 3) eX5_init_70 sh_22 rfl (by first | exact Or.inl ⟨rfl, rfl⟩ | exact Or.inr ⟨rfl, rfl⟩) sh_36 rfl rfl (by decide) rfl rfl rfl ?_
  refine a_iinc1 eX5_init_71 (by decide) aw_n2r ?_
  refine a_goto 52 eX5_init_74 (by decide) ?_
  refine a_ild1 eX5_init_52 ?_
  refine a_bipush eX5_init_53 (by decide) ?_
  refine a_icmp_ge 77 eX5_init_55 (by decide) (by omega) (fun h => absurd h (by decide)) (fun _ => ?_)
  refine a_ald0 eX5_init_58 ?_
  refine n_getR 2 22 eX5_init_59 fl_X5_11 rfl rfl sh_21 rfl (by decide +kernel) ?_
  refine a_ild1 eX5_init_62 ?_
  refine n_new (ci := 2) eX5_init_63 rfl kl_X5_9 ki_X2 kn_X2 nt_2 sh_37 (by decide +kernel) rfl ?_
  refine a_dup eX5_init_66 rfl ?_
  refine a_callIN eX5_init_67 ln_X5_32 mI_X2_init mt_X2_init rfl rfl rfl rfl (c_X2_init ?_)
  dsimp only [Option.toList, List.cons_append, List.nil_append]
  refine n_aast (j := 4) eX5_init_70 sh_22 rfl (by first | exact Or.inl ⟨rfl, rfl⟩ | exact Or.inr ⟨rfl, rfl⟩) sh_37 rfl rfl (by decide) rfl rfl rfl ?_
  refine a_iinc1 eX5_init_71 (by decide) aw_n2r ?_
  refine a_goto 52 eX5_init_74 (by decide) ?_
  refine a_ild1 eX5_init_52 ?_
  refine a_bipush eX5_init_53 (by decide) ?_
  refine a_icmp_ge 77 eX5_init_55 (by decide) (by omega) (fun h => absurd h (by decide)) (fun _ => ?_)
  refine a_ald0 eX5_init_58 ?_
  refine n_getR 2 22 eX5_init_59 fl_X5_11 rfl rfl sh_21 rfl (by decide +kernel) ?_
  refine a_ild1 eX5_init_62 ?_
  refine n_new (ci := 2) eX5_init_63 rfl kl_X5_9 ki_X2 kn_X2 nt_2 sh_38 (by decide +kernel) rfl ?_
  refine a_dup eX5_init_66 rfl ?_
  refine a_callIN eX5_init_67 ln_X5_32 mI_X2_init mt_X2_init rfl rfl rfl rfl (c_X2_init ?_)
  dsimp only [Option.toList, List.cons_append, List.nil_append]
  refine n_aast (j := 5) eX5_init_70 sh_22 rfl (by first | exact Or.inl ⟨rfl, rfl⟩ | exact Or.inr ⟨rfl, rfl⟩) sh_38 rfl rfl (by decide) rfl rfl rfl ?_
  refine a_iinc1 eX5_init_71 (by decide) aw_n2r ?_
  refine a_goto 52 eX5_init_74 (by decide) ?_
  refine a_ild1 eX5_init_52 ?_
  refine a_bipush eX5_init_53 (by decide) ?_
  refine a_icmp_ge 77 eX5_init_55 (by decide) (by omega) (fun h => absurd h (by decide)) (fun _ => ?_)
  refine a_ald0 eX5_init_58 ?_
  refine n_getR 2 22 eX5_init_59 fl_X5_11 rfl rfl sh_21 rfl (by decide +kernel) ?_
  refine a_ild1 eX5_init_62 ?_
  refine n_new (ci := 2) eX5_init_63 rfl kl_X5_9 ki_X2 kn_X2 nt_2 sh_39 (by decide +kernel) rfl ?_
  refine a_dup eX5_init_66 rfl ?_
  refine a_callIN eX5_init_67 ln_X5_32 mI_X2_init mt_X2_init rfl rfl rfl rfl (c_X2_init ?_)
  dsimp only [Option.toList, List.cons_append, List.nil_append]
  refine n_aast (j := 6) eX5_init_70 sh_22 rfl (by first | exact Or.inl ⟨rfl, rfl⟩ | exact Or.inr ⟨rfl, rfl⟩) sh_39 rfl rfl (by decide) rfl rfl rfl ?_
  refine a_iinc1 eX5_init_71 (by decide) aw_n2r ?_
  refine a_goto 52 eX5_init_74 (by decide) ?_
  refine a_ild1 eX5_init_52 ?_
  refine a_bipush eX5_init_53 (by decide) ?_
  refine a_icmp_ge 77 eX5_init_55 (by decide) (by omega) (fun h => absurd h (by decide)) (fun _ => ?_)
  refine a_ald0 eX5_init_58 ?_
  refine n_getR 2 22 eX5_init_59 fl_X5_11 rfl rfl sh_21 rfl (by decide +kernel) ?_
  refine a_ild1 eX5_init_62 ?_
  refine n_new (ci := 2) eX5_init_63 rfl kl_X5_9 ki_X2 kn_X2 nt_2 sh_40 (by decide +kernel) rfl ?_
  refine a_dup eX5_init_66 rfl ?_
  refine a_callIN eX5_init_67 ln_X5_32 mI_X2_init mt_X2_init rfl rfl rfl rfl (c_X2_init ?_)
  dsimp only [Option.toList, List.cons_append, List.nil_append]
  refine n_aast (j := 7) eX5_init_70 sh_22 rfl (by first | exact Or.inl ⟨rfl, rfl⟩ | exact Or.inr ⟨rfl, rfl⟩) sh_40 rfl rfl (by decide) rfl rfl rfl ?_
  refine a_iinc1 eX5_init_71 (by decide) aw_n2r ?_
  refine a_goto 52 eX5_init_74 (by decide) ?_
  refine a_ild1 eX5_init_52 ?_
  refine a_bipush eX5_init_53 (by decide) ?_
  refine a_icmp_ge 77 eX5_init_55 (by decide) (by omega) (fun h => absurd h (by decide)) (fun _ => ?_)
  refine a_ald0 eX5_init_58 ?_
  refine n_getR 2 22 eX5_init_59 fl_X5_11 rfl rfl sh_21 rfl (by decide +kernel) ?_
  refine a_ild1 eX5_init_62 ?_
  refine n_new (ci := 2) eX5_init_63 rfl kl_X5_9 ki_X2 kn_X2 nt_2 sh_41 (by decide +kernel) rfl ?_
  refine a_dup eX5_init_66 rfl ?_
  refine a_callIN eX5_init_67 ln_X5_32 mI_X2_init mt_X2_init rfl rfl rfl rfl (c_X2_init ?_)
  dsimp only [Option.toList, List.cons_append, List.nil_append]
  refine n_aast (j := 8) eX5_init_70 sh_22 rfl (by first | exact Or.inl ⟨rfl, rfl⟩ | exact Or.inr ⟨rfl, rfl⟩) sh_41 rfl rfl (by decide) rfl rfl rfl ?_
  refine a_iinc1 eX5_init_71 (by decide) aw_n2r ?_
  refine a_goto 52 eX5_init_74 (by decide) ?_
  refine a_ild1 eX5_init_52 ?_
  refine a_bipush eX5_init_53 (by decide) ?_
  refine a_icmp_ge 77 eX5_init_55 (by decide) (by omega) (fun h => absurd h (by decide)) (fun _ => ?_)
  refine a_ald0 eX5_init_58 ?_
  refine n_getR 2 22 eX5_init_59 fl_X5_11 rfl rfl sh_21 rfl (by decide +kernel) ?_
  refine a_ild1 eX5_init_62 ?_
  refine n_new (ci := 2) eX5_init_63 rfl kl_X5_9 ki_X2 kn_X2 nt_2 sh_42 (by decide +kernel) rfl ?_
  refine a_dup eX5_init_66 rfl ?_
  refine a_callIN eX5_init_67 ln_X5_32 mI_X2_init mt_X2_init rfl rfl rfl rfl (c_X2_init ?_)
  dsimp only [Option.toList, List.cons_append, List.nil_append]
  refine n_aast (j := 9) eX5_init_70 sh_22 rfl (by first | exact Or.inl ⟨rfl, rfl⟩ | exact Or.inr ⟨rfl, rfl⟩) sh_42 rfl rfl (by decide) rfl rfl rfl ?_
  refine a_iinc1 eX5_init_71 (by decide) aw_n2r ?_
  refine a_goto 52 eX5_init_74 (by decide) ?_
  refine a_ild1 eX5_init_52 ?_
  refine a_bipush eX5_init_53 (by decide) ?_
  refine a_icmp_ge 77 eX5_init_55 (by decide) (by omega) (fun h => absurd h (by decide)) (fun _ => ?_)
  refine a_ald0 eX5_init_58 ?_
  refine n_getR 2 22 eX5_init_59 fl_X5_11 rfl rfl sh_21 rfl (by decide +kernel) ?_
  refine a_ild1 eX5_init_62 ?_
  refine n_new (ci := 2) eX5_init_63 rfl kl_X5_9 ki_X2 kn_X2 nt_2 sh_43 (by decide +kernel) rfl ?_
  refine a_dup eX5_init_66 rfl ?_
  refine a_callIN eX5_init_67 ln_X5_32 mI_X2_init mt_X2_init rfl rfl rfl rfl (c_X2_init ?_)
  dsimp only [Option.toList, List.cons_append, List.nil_append]
  refine n_aast (j := 10) eX5_init_70 sh_22 rfl (by first | exact Or.inl ⟨rfl, rfl⟩ | exact Or.inr ⟨rfl, rfl⟩) sh_43 rfl rfl (by decide) rfl rfl rfl ?_
  refine a_iinc1 eX5_init_71 (by decide) aw_n2r ?_
  refine a_goto 52 eX5_init_74 (by decide) ?_
  refine a_ild1 eX5_init_52 ?_
  refine a_bipush eX5_init_53 (by decide) ?_
  refine a_icmp_ge 77 eX5_init_55 (by decide) (by omega) (fun h => absurd h (by decide)) (fun _ => ?_)
  refine a_ald0 eX5_init_58 ?_
  refine n_getR 2 22 eX5_init_59 fl_X5_11 rfl rfl sh_21 rfl (by decide +kernel) ?_
  refine a_ild1 eX5_init_62 ?_
  refine n_new (ci := 2) eX5_init_63 rfl kl_X5_9 ki_X2 kn_X2 nt_2 sh_44 (by decide +kernel) rfl ?_
  refine a_dup eX5_init_66 rfl ?_
  refine a_callIN eX5_init_67 ln_X5_32 mI_X2_init mt_X2_init rfl rfl rfl rfl (c_X2_init ?_)
  dsimp only [Option.toList, List.cons_append, List.nil_append]
  refine n_aast (j := 11) eX5_init_70 sh_22 rfl (by first | exact Or.inl ⟨rfl, rfl⟩ | exact Or.inr ⟨rfl, rfl⟩) sh_44 rfl rfl (by decide) rfl rfl rfl ?_
  refine a_iinc1 eX5_init_71 (by decide) aw_n2r ?_
  refine a_goto 52 eX5_init_74 (by decide) ?_
  refine a_ild1 eX5_init_52 ?_
  refine a_bipush eX5_init_53 (by decide) ?_
  refine a_icmp_ge 77 eX5_init_55 (by decide) (by omega) (fun h => absurd h (by decide)) (fun _ => ?_)
  refine a_ald0 eX5_init_58 ?_
  refine n_getR 2 22 eX5_init_59 fl_X5_11 rfl rfl sh_21 rfl (by decide +kernel) ?_
  refine a_ild1 eX5_init_62 ?_
  refine n_new (ci := 2) eX5_init_63 rfl kl_X5_9 ki_X2 kn_X2 nt_2 sh_45 (by decide +kernel) rfl ?_
  refine a_dup eX5_init_66 rfl ?_
  refine a_callIN eX5_init_67 ln_X5_32 mI_X2_init mt_X2_init rfl rfl rfl rfl (c_X2_init ?_)
  dsimp only [Option.toList, List.cons_append, List.nil_append]
  refine n_aast (j := 12) eX5_init_70 sh_22 rfl (by first | exact Or.inl ⟨rfl, rfl⟩ | exact Or.inr ⟨rfl, rfl⟩) sh_45 rfl rfl (by decide) rfl rfl rfl ?_
  refine a_iinc1 eX5_init_71 (by decide) aw_n2r ?_
  refine a_goto 52 eX5_init_74 (by decide) ?_
  refine a_ild1 eX5_init_52 ?_
  refine a_bipush eX5_init_53 (by decide) ?_
  refine a_icmp_ge 77 eX5_init_55 (by decide) (by omega) (fun h => absurd h (by decide)) (fun _ => ?_)
  refine a_ald0 eX5_init_58 ?_
  refine n_getR 2 22 eX5_init_59 fl_X5_11 rfl rfl sh_21 rfl (by decide +kernel) ?_
  refine a_ild1 eX5_init_62 ?_
  refine n_new (ci := 2) eX5_init_63 rfl kl_X5_9 ki_X2 kn_X2 nt_2 sh_46 (by decide +kernel) rfl ?_
  refine a_dup eX5_init_66 rfl ?_
  refine a_callIN eX5_init_67 ln_X5_32 mI_X2_init mt_X2_init rfl rfl rfl rfl (c_X2_init ?_)
  dsimp only [Option.toList, List.cons_append, List.nil_append]
  refine n_aast (j := 13) eX5_init_70 sh_22 rfl (by first | exact Or.inl ⟨rfl, rfl⟩ | exact Or.inr ⟨rfl, rfl⟩) sh_46 rfl rfl (by decide) rfl rfl rfl ?_
  refine a_iinc1 eX5_init_71 (by decide) aw_n2r ?_
  refine a_goto 52 eX5_init_74 (by decide) ?_
  refine a_ild1 eX5_init_52 ?_
  refine a_bipush eX5_init_53 (by decide) ?_
  refine a_icmp_ge 77 eX5_init_55 (by decide) (by omega) (fun h => absurd h (by decide)) (fun _ => ?_)
  refine a_ald0 eX5_init_58 ?_
  refine n_getR 2 22 eX5_init_59 fl_X5_11 rfl rfl sh_21 rfl (by decide +kernel) ?_
  refine a_ild1 eX5_init_62 ?_
  refine n_new (ci := 2) eX5_init_63 rfl kl_X5_9 ki_X2 kn_X2 nt_2 sh_47 (by decide +kernel) rfl ?_
  refine a_dup eX5_init_66 rfl ?_
  refine a_callIN eX5_init_67 ln_X5_32 mI_X2_init mt_X2_init rfl rfl rfl rfl (c_X2_init ?_)
  dsimp only [Option.toList, List.cons_append, List.nil_append]
  refine n_aast (j := 14) eX5_init_70 sh_22 rfl (by first | exact Or.inl ⟨rfl, rfl⟩ | exact Or.inr ⟨rfl, rfl⟩) sh_47 rfl rfl (by decide) rfl rfl rfl ?_
  refine a_iinc1 eX5_init_71 (by decide) aw_n2r ?_
  refine a_goto 52 eX5_init_74 (by decide) ?_
  refine a_ild1 eX5_init_52 ?_
  refine a_bipush eX5_init_53 (by decide) ?_
  refine a_icmp_ge 77 eX5_init_55 (by decide) (by omega) (fun h => absurd h (by decide)) (fun _ => ?_)
  refine a_ald0 eX5_init_58 ?_
  refine n_getR 2 22 eX5_init_59 fl_X5_11 rfl rfl sh_21 rfl (by decide +kernel) ?_
  refine a_ild1 eX5_init_62 ?_
  refine n_new (ci := 2) eX5_init_63 rfl kl_X5_9 ki_X2 kn_X2 nt_2 sh_48 (by decide +kernel) rfl ?_
  refine a_dup eX5_init_66 rfl ?_
  refine a_callIN eX5_init_67 ln_X5_32 mI_X2_init mt_X2_init rfl rfl rfl rfl (c_X2_init ?_)
  dsimp only [Option.toList, List.cons_append, List.nil_append]
  refine n_aast (j := 15) eX5_init_70 sh_22 rfl (by first | exact Or.inl ⟨rfl, rfl⟩ | exact Or.inr ⟨rfl, rfl⟩) sh_48 rfl rfl (by decide) rfl rfl rfl ?_
  refine a_iinc1 eX5_init_71 (by decide) aw_n2r ?_
  refine a_goto 52 eX5_init_74 (by decide) ?_
  refine a_ild1 eX5_init_52 ?_
  refine a_bipush eX5_init_53 (by decide) ?_
  refine a_icmp_ge 77 eX5_init_55 (by decide) (by omega) (fun _ => ?_) (fun h => absurd h (by decide))
  refine a_vret eX5_init_77 rfl rfl ⟨by decide, by decide⟩ ?_
  exact hk

set_option maxHeartbeats 4000000 in
set_option maxRecDepth 100000 in
theorem k_X8_init_52 {l : Launch} {Post : Option Value → aw_S → Prop} (hk : Post none (sN 55 4)) : AE l yX8_init cX8_init 1 (none : Option Jvm.ClassFile.FieldType) 1 21 5 7284 (SH.take 57) (SH.take 52) (sN 50 4) [.ref 51] Post := by
  show AW l yX8_init cX8_init 1 (none : Option Jvm.ClassFile.FieldType) 1 21 5 7284 (SH.take 57) Post (SH.take 52) 0 0 (sN 50 4) 0 [some (.ref 51)] []
  refine a_ald0 eX8_init_0 ?_
  refine a_oi eX8_init_1 lk_X8_5 rfl rfl ?_
  refine a_ald0 eX8_init_4 ?_
  refine a_bipush eX8_init_5 (by decide) ?_
  refine n_newa (N := 6) eX8_init_7 rfl rfl ka_0 rfl rfl sh_52 (by decide +kernel) rfl ?_
  refine n_putR 0 eX8_init_9 fl_X8_11 rfl (by first | exact Or.inl ⟨_, rfl⟩ | exact Or.inr ⟨_, rfl⟩) sh_51 rfl (fun q h => Or.inr (by cases h; exact ⟨rfl, rfl, rfl⟩)) rfl rfl ?_
  refine a_ald0 eX8_init_12 ?_
  refine a_bipush eX8_init_13 (by decide) ?_
  refine n_newa (N := 6) eX8_init_15 rfl rfl ka_0 rfl rfl sh_53 (by decide +kernel) rfl ?_
  refine n_putR 1 eX8_init_17 fl_X8_15 rfl (by first | exact Or.inl ⟨_, rfl⟩ | exact Or.inr ⟨_, rfl⟩) sh_51 rfl (fun q h => Or.inr (by cases h; exact ⟨rfl, rfl, rfl⟩)) rfl rfl ?_
  refine a_ald0 eX8_init_20 ?_
  refine a_bipush eX8_init_21 (by decide) ?_
  refine n_newa (N := 6) eX8_init_23 rfl rfl ka_0 rfl rfl sh_54 (by decide +kernel) rfl ?_
  refine n_putR 2 eX8_init_25 fl_X8_18 rfl (by first | exact Or.inl ⟨_, rfl⟩ | exact Or.inr ⟨_, rfl⟩) sh_51 rfl (fun q h => Or.inr (by cases h; exact ⟨rfl, rfl, rfl⟩)) rfl rfl ?_
  refine a_ald0 eX8_init_28 ?_
  refine a_bipush eX8_init_29 (by decide) ?_
  refine n_newa (N := 6) eX8_init_31 rfl rfl ka_0 rfl rfl sh_55 (by decide +kernel) rfl ?_
  refine n_putR 3 eX8_init_33 fl_X8_21 rfl (by first | exact Or.inl ⟨_, rfl⟩ | exact Or.inr ⟨_, rfl⟩) sh_51 rfl (fun q h => Or.inr (by cases h; exact ⟨rfl, rfl, rfl⟩)) rfl rfl ?_
  refine a_ald0 eX8_init_36 ?_
  refine a_sipush eX8_init_37 (by decide) ?_
  refine n_newa (N := 7260) eX8_init_40 rfl rfl ka_0 rfl rfl sh_56 (by decide +kernel) rfl ?_
  refine n_putR 4 eX8_init_42 fl_X8_24 rfl (by first | exact Or.inl ⟨_, rfl⟩ | exact Or.inr ⟨_, rfl⟩) sh_51 rfl (fun q h => Or.inr (by cases h; exact ⟨rfl, rfl, rfl⟩)) rfl rfl ?_
  refine a_vret eX8_init_45 rfl rfl ⟨by decide, by decide⟩ ?_
  exact hk

set_option maxHeartbeats 4000000 in
set_option maxRecDepth 100000 in
theorem k_X1_init_58 {l : Launch} {Post : Option Value → aw_S → Prop} (hk : Post none (sN 60 4)) : AE l yX1_init cX1_init 1 (none : Option Jvm.ClassFile.FieldType) 1 21 4 78 (SH.take 62) (SH.take 58) (sN 56 4) [.ref 57] Post := by
  show AW l yX1_init cX1_init 1 (none : Option Jvm.ClassFile.FieldType) 1 21 4 78 (SH.take 62) Post (SH.take 58) 0 0 (sN 56 4) 0 [some (.ref 57)] []
  refine a_ald0 eX1_init_0 ?_
  refine a_oi eX1_init_1 lk_X1_3 rfl rfl ?_
  refine a_ald0 eX1_init_4 ?_
  refine a_bipush eX1_init_5 (by decide) ?_
  refine n_newa (N := 6) eX1_init_7 rfl rfl ka_0 rfl rfl sh_58 (by decide +kernel) rfl ?_
  refine n_putR 0 eX1_init_9 fl_X1_9 rfl (by first | exact Or.inl ⟨_, rfl⟩ | exact Or.inr ⟨_, rfl⟩) sh_57 rfl (fun q h => Or.inr (by cases h; exact ⟨rfl, rfl, rfl⟩)) rfl rfl ?_
  refine a_ald0 eX1_init_12 ?_
  refine a_bipush eX1_init_13 (by decide) ?_
  refine n_newa (N := 6) eX1_init_15 rfl rfl ka_0 rfl rfl sh_59 (by decide +kernel) rfl ?_
  refine n_putR 1 eX1_init_17 fl_X1_15 rfl (by first | exact Or.inl ⟨_, rfl⟩ | exact Or.inr ⟨_, rfl⟩) sh_57 rfl (fun q h => Or.inr (by cases h; exact ⟨rfl, rfl, rfl⟩)) rfl rfl ?_
  refine a_ald0 eX1_init_20 ?_
  refine a_bipush eX1_init_21 (by decide) ?_
  refine n_newa (N := 33) eX1_init_23 rfl rfl ka_0 rfl rfl sh_60 (by decide +kernel) rfl ?_
  refine n_putR 4 eX1_init_25 fl_X1_18 rfl (by first | exact Or.inl ⟨_, rfl⟩ | exact Or.inr ⟨_, rfl⟩) sh_57 rfl (fun q h => Or.inl (by cases h; rfl)) rfl rfl ?_
  refine a_ald0 eX1_init_28 ?_
  refine a_bipush eX1_init_29 (by decide) ?_
  refine n_newa (N := 33) eX1_init_31 rfl rfl ka_0 rfl rfl sh_61 (by decide +kernel) rfl ?_
  refine n_putR 5 eX1_init_33 fl_X1_21 rfl (by first | exact Or.inl ⟨_, rfl⟩ | exact Or.inr ⟨_, rfl⟩) sh_57 rfl (fun q h => Or.inl (by cases h; rfl)) rfl rfl ?_
  refine a_vret eX1_init_36 rfl rfl ⟨by decide, by decide⟩ ?_
  exact hk

set_option maxHeartbeats 4000000 in
set_option maxRecDepth 100000 in
theorem k_X6_init_63 {l : Launch} {Post : Option Value → aw_S → Prop} (hk : Post none (sN 62 4)) : AE l yX6_init cX6_init 1 (none : Option Jvm.ClassFile.FieldType) 1 21 1 4 (SH.take 64) (SH.take 63) (sN 61 4) [.ref 62] Post := by
  show AW l yX6_init cX6_init 1 (none : Option Jvm.ClassFile.FieldType) 1 21 1 4 (SH.take 64) Post (SH.take 63) 0 0 (sN 61 4) 0 [some (.ref 62)] []
  refine a_ald0 eX6_init_0 ?_
  refine a_oi eX6_init_1 lk_X6_3 rfl rfl ?_
  refine a_ald0 eX6_init_4 ?_
  refine a_iconst eX6_init_5 ?_
  refine n_newa (N := 4) eX6_init_6 rfl rfl ka_0 rfl rfl sh_63 (by decide +kernel) rfl ?_
  refine n_putR 0 eX6_init_8 fl_X6_9 rfl (by first | exact Or.inl ⟨_, rfl⟩ | exact Or.inr ⟨_, rfl⟩) sh_62 rfl (fun q h => Or.inr (by cases h; exact ⟨rfl, rfl, rfl⟩)) rfl rfl ?_
  refine a_vret eX6_init_11 rfl rfl ⟨by decide, by decide⟩ ?_
  exact hk

set_option maxHeartbeats 4000000 in
set_option maxRecDepth 100000 in
theorem k_X0_init_65 {l : Launch} {Post : Option Value → aw_S → Prop} (hk : Post none (sN 82 4)) : AE l yX0_init cX0_init 1 (none : Option Jvm.ClassFile.FieldType) 1 21 19 144 (SH.take 84) (SH.take 65) (sN 63 4) [.ref 64] Post := by
  show AW l yX0_init cX0_init 1 (none : Option Jvm.ClassFile.FieldType) 1 21 19 144 (SH.take 84) Post (SH.take 65) 0 0 (sN 63 4) 0 [some (.ref 64)] []
  refine a_ald0 eX0_init_0 ?_
  refine a_oi eX0_init_1 lk_X0_3 rfl rfl ?_
  refine a_ald0 eX0_init_4 ?_
  refine a_bipush eX0_init_5 (by decide) ?_
  refine n_newa (N := 12) eX0_init_7 rfl rfl ka_0 rfl rfl sh_65 (by decide +kernel) rfl ?_
  refine n_putR 4 eX0_init_9 fl_X0_11 rfl (by first | exact Or.inl ⟨_, rfl⟩ | exact Or.inr ⟨_, rfl⟩) sh_64 rfl (fun q h => Or.inr (by cases h; exact ⟨rfl, rfl, rfl⟩)) rfl rfl ?_
  refine a_ald0 eX0_init_12 ?_
  refine a_bipush eX0_init_13 (by decide) ?_
  refine n_newa (N := 12) eX0_init_15 rfl rfl ka_0 rfl rfl sh_66 (by decide +kernel) rfl ?_
  refine n_putR 5 eX0_init_17 fl_X0_15 rfl (by first | exact Or.inl ⟨_, rfl⟩ | exact Or.inr ⟨_, rfl⟩) sh_64 rfl (fun q h => Or.inr (by cases h; exact ⟨rfl, rfl, rfl⟩)) rfl rfl ?_
  refine a_ald0 eX0_init_20 ?_
  refine a_bipush eX0_init_21 (by decide) ?_
  refine n_newa (N := 12) eX0_init_23 rfl rfl ka_0 rfl rfl sh_67 (by decide +kernel) rfl ?_
  refine n_putR 6 eX0_init_25 fl_X0_18 rfl (by first | exact Or.inl ⟨_, rfl⟩ | exact Or.inr ⟨_, rfl⟩) sh_64 rfl (fun q h => Or.inr (by cases h; exact ⟨rfl, rfl, rfl⟩)) rfl rfl ?_
  refine a_ald0 eX0_init_28 ?_
  refine a_bipush eX0_init_29 (by decide) ?_
  refine n_newa (N := 12) eX0_init_31 rfl rfl ka_0 rfl rfl sh_68 (by decide +kernel) rfl ?_
  refine n_putR 7 eX0_init_33 fl_X0_21 rfl (by first | exact Or.inl ⟨_, rfl⟩ | exact Or.inr ⟨_, rfl⟩) sh_64 rfl (fun q h => Or.inr (by cases h; exact ⟨rfl, rfl, rfl⟩)) rfl rfl ?_
  refine a_ald0 eX0_init_36 ?_
  refine a_bipush eX0_init_37 (by decide) ?_
  refine a_bipush eX0_init_39 (by decide) ?_
  refine n_mna (N := 12) (M := 6) eX0_init_41 kl_X0_24 rfl rfl rfl rfl rfl (by decide +kernel) (by decide +kernel) rfl ?_
  refine n_putR 8 eX0_init_45 fl_X0_26 rfl (by first | exact Or.inl ⟨_, rfl⟩ | exact Or.inr ⟨_, rfl⟩) sh_64 rfl (fun q h => Or.inr (by cases h; exact ⟨rfl, rfl, rfl⟩)) rfl rfl ?_
  refine a_ald0 eX0_init_48 ?_
  refine a_bipush eX0_init_49 (by decide) ?_
  refine n_newa (N := 6) eX0_init_51 rfl rfl ka_0 rfl rfl sh_82 (by decide +kernel) rfl ?_
  refine n_putR 9 eX0_init_53 fl_X0_29 rfl (by first | exact Or.inl ⟨_, rfl⟩ | exact Or.inr ⟨_, rfl⟩) sh_64 rfl (fun q h => Or.inr (by cases h; exact ⟨rfl, rfl, rfl⟩)) rfl rfl ?_
  refine a_ald0 eX0_init_56 ?_
  refine a_bipush eX0_init_57 (by decide) ?_
  refine n_newa (N := 6) eX0_init_59 rfl rfl ka_0 rfl rfl sh_83 (by decide +kernel) rfl ?_
  refine n_putR 10 eX0_init_61 fl_X0_32 rfl (by first | exact Or.inl ⟨_, rfl⟩ | exact Or.inr ⟨_, rfl⟩) sh_64 rfl (fun q h => Or.inr (by cases h; exact ⟨rfl, rfl, rfl⟩)) rfl rfl ?_
  refine a_vret eX0_init_64 rfl rfl ⟨by decide, by decide⟩ ?_
  exact hk

set_option maxHeartbeats 4000000 in
set_option maxRecDepth 100000 in
theorem k_X7_init_85 {l : Launch} {Post : Option Value → aw_S → Prop} (hk : Post none (sN 85 4)) : AE l yX7_init cX7_init 1 (none : Option Jvm.ClassFile.FieldType) 1 21 2 12 (SH.take 87) (SH.take 85) (sN 83 4) [.ref 84] Post := by
  show AW l yX7_init cX7_init 1 (none : Option Jvm.ClassFile.FieldType) 1 21 2 12 (SH.take 87) Post (SH.take 85) 0 0 (sN 83 4) 0 [some (.ref 84)] []
  refine a_ald0 eX7_init_0 ?_
  refine a_oi eX7_init_1 lk_X7_3 rfl rfl ?_
  refine a_ald0 eX7_init_4 ?_
  refine a_bipush eX7_init_5 (by decide) ?_
  refine n_newa (N := 6) eX7_init_7 rfl rfl ka_0 rfl rfl sh_85 (by decide +kernel) rfl ?_
  refine n_putR 0 eX7_init_9 fl_X7_9 rfl (by first | exact Or.inl ⟨_, rfl⟩ | exact Or.inr ⟨_, rfl⟩) sh_84 rfl (fun q h => Or.inr (by cases h; exact ⟨rfl, rfl, rfl⟩)) rfl rfl ?_
  refine a_ald0 eX7_init_12 ?_
  refine a_bipush eX7_init_13 (by decide) ?_
  refine n_newa (N := 6) eX7_init_15 rfl rfl ka_0 rfl rfl sh_86 (by decide +kernel) rfl ?_
  refine n_putR 1 eX7_init_17 fl_X7_15 rfl (by first | exact Or.inl ⟨_, rfl⟩ | exact Or.inr ⟨_, rfl⟩) sh_84 rfl (fun q h => Or.inr (by cases h; exact ⟨rfl, rfl, rfl⟩)) rfl rfl ?_
  refine a_vret eX7_init_20 rfl rfl ⟨by decide, by decide⟩ ?_
  exact hk

set_option maxHeartbeats 4000000 in
set_option maxRecDepth 100000 in
theorem k_X5_init_88 {l : Launch} {Post : Option Value → aw_S → Prop} (hk : Post none (sN 113 4)) : AE l yX5_init cX5_init 2 (none : Option Jvm.ClassFile.FieldType) 2 41 27 506 (SH.take 115) (SH.take 88) (sN 86 4) [.ref 87] Post := by
  show AW l yX5_init cX5_init 2 (none : Option Jvm.ClassFile.FieldType) 2 41 27 506 (SH.take 115) Post (SH.take 88) 0 0 (sN 86 4) 0 [some (.ref 87), none] []
  refine a_ald0 eX5_init_0 ?_
  refine a_oi eX5_init_1 lk_X5_3 rfl rfl ?_
  refine a_ald0 eX5_init_4 ?_
  refine a_bipush eX5_init_5 (by decide) ?_
  refine n_anew (N := 16) eX5_init_7 (by first | exact Or.inl ⟨rfl, rfl⟩ | exact Or.inr ⟨rfl, rfl⟩) kl_X5_9 rfl rfl sh_88 (by decide +kernel) rfl ?_
  refine n_putR 2 eX5_init_10 fl_X5_11 rfl (by first | exact Or.inl ⟨_, rfl⟩ | exact Or.inr ⟨_, rfl⟩) sh_87 rfl (fun q h => Or.inr (by cases h; exact ⟨rfl, rfl, rfl⟩)) rfl rfl ?_
  refine a_ald0 eX5_init_13 ?_
  refine a_bipush eX5_init_14 (by decide) ?_
  refine a_bipush eX5_init_16 (by decide) ?_
  refine n_mna (N := 6) (M := 16) eX5_init_18 kl_X5_17 rfl rfl rfl rfl rfl (by decide +kernel) (by decide +kernel) rfl ?_
  refine n_putR 3 eX5_init_22 fl_X5_19 rfl (by first | exact Or.inl ⟨_, rfl⟩ | exact Or.inr ⟨_, rfl⟩) sh_87 rfl (fun q h => Or.inr (by cases h; exact ⟨rfl, rfl, rfl⟩)) rfl rfl ?_
  refine a_ald0 eX5_init_25 ?_
  refine a_bipush eX5_init_26 (by decide) ?_
  refine n_newa (N := 6) eX5_init_28 rfl rfl ka_0 rfl rfl sh_96 (by decide +kernel) rfl ?_
  refine n_putR 4 eX5_init_30 fl_X5_22 rfl (by first | exact Or.inl ⟨_, rfl⟩ | exact Or.inr ⟨_, rfl⟩) sh_87 rfl (fun q h => Or.inr (by cases h; exact ⟨rfl, rfl, rfl⟩)) rfl rfl ?_
  refine a_ald0 eX5_init_33 ?_
  refine a_bipush eX5_init_34 (by decide) ?_
  refine n_newa (N := 6) eX5_init_36 rfl rfl ka_0 rfl rfl sh_97 (by decide +kernel) rfl ?_
  refine n_putR 5 eX5_init_38 fl_X5_26 rfl (by first | exact Or.inl ⟨_, rfl⟩ | exact Or.inr ⟨_, rfl⟩) sh_87 rfl (fun q h => Or.inr (by cases h; exact ⟨rfl, rfl, rfl⟩)) rfl rfl ?_
  refine a_ald0 eX5_init_41 ?_
  refine a_sipush eX5_init_42 (by decide) ?_
  refine n_newa (N := 200) eX5_init_45 rfl rfl ka_0 rfl rfl sh_98 (by decide +kernel) rfl ?_
  refine n_putR 7 eX5_init_47 fl_X5_29 rfl (by first | exact Or.inl ⟨_, rfl⟩ | exact Or.inr ⟨_, rfl⟩) sh_87 rfl (fun q h => Or.inr (by cases h; exact ⟨rfl, rfl, rfl⟩)) rfl rfl ?_
  refine a_iconst eX5_init_50 ?_
  refine a_ist1 eX5_init_51 (by decide) aw_n2r ?_
  refine a_ild1 eX5_init_52 ?_
  refine a_bipush eX5_init_53 (by decide) ?_
  refine a_icmp_ge 77 eX5_init_55 (by decide) (by omega) (fun h => absurd h (by decide)) (fun _ => ?_)
  refine a_ald0 eX5_init_58 ?_
  refine n_getR 2 88 eX5_init_59 fl_X5_11 rfl rfl sh_87 rfl (by decide +kernel) ?_
  refine a_ild1 eX5_init_62 ?_
  refine n_new (ci := 2) eX5_init_63 rfl kl_X5_9 ki_X2 kn_X2 nt_2 sh_99 (by decide +kernel) rfl ?_
  refine a_dup eX5_init_66 rfl ?_
  refine a_callIN eX5_init_67 ln_X5_32 mI_X2_init mt_X2_init rfl rfl rfl rfl (c_X2_init ?_)
  dsimp only [Option.toList, List.cons_append, List.nil_append]
  refine n_aast (j := 0) eX5_init_70 sh_88 rfl (by first | exact Or.inl ⟨rfl, rfl⟩ | exact Or.inr ⟨rfl, rfl⟩) sh_99 rfl rfl (by decide) rfl rfl rfl ?_
  refine a_iinc1 eX5_init_71 (by decide) aw_n2r ?_
  refine a_goto 52 eX5_init_74 (by decide) ?_
  refine a_ild1 eX5_init_52 ?_
  refine a_bipush eX5_init_53 (by decide) ?_
  refine a_icmp_ge 77 eX5_init_55 (by decide) (by omega) (fun h => absurd h (by decide)) (fun _ => ?_)
  refine a_ald0 eX5_init_58 ?_
  refine n_getR 2 88 eX5_init_59 fl_X5_11 rfl rfl sh_87 rfl (by decide +kernel) ?_
  refine a_ild1 eX5_init_62 ?_
  refine n_new (ci := 2) eX5_init_63 rfl kl_X5_9 ki_X2 kn_X2 nt_2 sh_100 (by decide +kernel) rfl ?_
  refine a_dup eX5_init_66 rfl ?_
  refine a_callIN eX5_init_67 ln_X5_32 mI_X2_init mt_X2_init rfl rfl rfl rfl (c_X2_init ?_)
  dsimp only [Option.toList, List.cons_append, List.nil_append]
  refine n_aast (j := 1) eX5_init_70 sh_88 rfl (by first | exact Or.inl ⟨rfl, rfl⟩ | exact Or.inr ⟨rfl, rfl⟩) sh_100 rfl rfl (by decide) rfl rfl rfl ?_
  refine a_iinc1 eX5_init_71 (by decide) aw_n2r ?_
  refine a_goto 52 eX5_init_74 (by decide) ?_
  refine a_ild1 eX5_init_52 ?_
  refine a_bipush eX5_init_53 (by decide) ?_
  refine a_icmp_ge 77 eX5_init_55 (by decide) (by omega) (fun h => absurd h (by decide)) (fun _ => ?_)
  refine a_ald0 eX5_init_58 ?_
  refine n_getR 2 88 eX5_init_59 fl_X5_11 rfl rfl sh_87 rfl (by decide +kernel) ?_
  refine a_ild1 eX5_init_62 ?_
  refine n_new (ci := 2) eX5_init_63 rfl kl_X5_9 ki_X2 kn_X2 nt_2 sh_101 (by decide +kernel) rfl ?_
  refine a_dup eX5_init_66 rfl ?_
  refine a_callIN eX5_init_67 ln_X5_32 mI_X2_init mt_X2_init rfl rfl rfl rfl (c_X2_init ?_)
  dsimp only [Option.toList, List.cons_append, List.nil_append]
  refine n_aast (j := 2) eX5_init_70 sh_88 rfl (by first | exact Or.inl ⟨rfl, rfl⟩ | exact Or.inr ⟨rfl, rfl⟩) sh_101 rfl rfl (by decide) rfl rfl rfl ?_
  refine a_iinc1 eX5_init_71 (by decide) aw_n2r ?_
  refine a_goto 52 eX5_init_74 (by decide) ?_
  refine a_ild1 eX5_init_52 ?_
  refine a_bipush eX5_init_53 (by decide) ?_
  refine a_icmp_ge 77 eX5_init_55 (by decide) (by omega) (fun h => absurd h (by decide)) (fun _ => ?_)
  refine a_ald0 eX5_init_58 ?_
  refine n_getR 2 88 eX5_init_59 fl_X5_11 rfl rfl sh_87 rfl (by decide +kernel) ?_
  refine a_ild1 eX5_init_62 ?_
  refine n_new (ci := 2) eX5_init_63 rfl kl_X5_9 ki_X2 kn_X2 nt_2 sh_102 (by decide +kernel) rfl ?_
  refine a_dup eX5_init_66 rfl ?_
  refine a_callIN eX5_init_67 ln_X5_32 mI_X2_init mt_X2_init rfl rfl rfl rfl (c_X2_init ?_)
  dsimp only [Option.toList, List.cons_append, List.nil_append]
  refine n_aast (j := 3) eX5_init_70 sh_88 rfl (by first | exact Or.inl ⟨rfl, rfl⟩ | exact Or.inr ⟨rfl, rfl⟩) sh_102 rfl rfl (by decide) rfl rfl rfl ?_
  refine a_iinc1 eX5_init_71 (by decide) aw_n2r ?_
  refine a_goto 52 eX5_init_74 (by decide) ?_
  refine a_ild1 eX5_init_52 ?_
  refine a_bipush eX5_init_53 (by decide) ?_
  refine a_icmp_ge 77 eX5_init_55 (by decide) (by omega) (fun h => absurd h (by decide)) (fun _ => ?_)
  refine a_ald0 eX5_init_58 ?_
  refine n_getR 2 88 eX5_init_59 fl_X5_11 rfl rfl sh_87 rfl (by decide +kernel) ?_
  refine a_ild1 eX5_init_62 ?_
  refine n_new (ci := 2) eX5_init_63 rfl kl_X5_9 ki_X2 kn_X2 nt_2 sh_103 (by decide +kernel) rfl ?_
  refine a_dup eX5_init_66 rfl ?_
  refine a_callIN eX5_init_67 ln_X5_32 mI_X2_init mt_X2_init rfl rfl rfl rfl (c_X2_init ?_)
  dsimp only [Option.toList, List.cons_append, List.nil_append]
  refine n_aast (j := 4) eX5_init_70 sh_88 rfl (by first | exact Or.inl ⟨rfl, rfl⟩ | exact Or.inr ⟨rfl, rfl⟩) sh_103 rfl rfl (by decide) rfl rfl rfl ?_
  refine a_iinc1 eX5_init_71 (by decide) aw_n2r ?_
  refine a_goto 52 eX5_init_74 (by decide) ?_
  refine a_ild1 eX5_init_52 ?_
  refine a_bipush eX5_init_53 (by decide) ?_
  refine a_icmp_ge 77 eX5_init_55 (by decide) (by omega) (fun h => absurd h (by decide)) (fun _ => ?_)
  refine a_ald0 eX5_init_58 ?_
  refine n_getR 2 88 eX5_init_59 fl_X5_11 rfl rfl sh_87 rfl (by decide +kernel) ?_
  refine a_ild1 eX5_init_62 ?_
  refine n_new (ci := 2) eX5_init_63 rfl kl_X5_9 ki_X2 kn_X2 nt_2 sh_104 (by decide +kernel) rfl ?_
  refine a_dup eX5_init_66 rfl ?_
  refine a_callIN eX5_init_67 ln_X5_32 mI_X2_init mt_X2_init rfl rfl rfl rfl (c_X2_init ?_)
  dsimp only [Option.toList, List.cons_append, List.nil_append]
  refine n_aast (j := 5) eX5_init_70 sh_88 rfl (by first | exact Or.inl ⟨rfl, rfl⟩ | exact Or.inr ⟨rfl, rfl⟩) sh_104 rfl rfl (by decide) rfl rfl rfl ?_
  refine a_iinc1 eX5_init_71 (by decide) aw_n2r ?_
  refine a_goto 52 eX5_init_74 (by decide) ?_
  refine a_ild1 eX5_init_52 ?_
  refine a_bipush eX5_init_53 (by decide) ?_
  refine a_icmp_ge 77 eX5_init_55 (by decide) (by omega) (fun h => absurd h (by decide)) (fun _ => ?_)
  refine a_ald0 eX5_init_58 ?_
  refine n_getR 2 88 eX5_init_59 fl_X5_11 rfl rfl sh_87 rfl (by decide +kernel) ?_
  refine a_ild1 eX5_init_62 ?_
  refine n_new (ci := 2) eX5_init_63 rfl kl_X5_9 ki_X2 kn_X2 nt_2 sh_105 (by decide +kernel) rfl ?_
  refine a_dup eX5_init_66 rfl ?_
  refine a_callIN eX5_init_67 ln_X5_32 mI_X2_init mt_X2_init rfl rfl rfl rfl (c_X2_init ?_)
  dsimp only [Option.toList, List.cons_append, List.nil_append]
  refine n_aast (j := 6) eX5_init_70 sh_88 rfl (by first | exact Or.inl ⟨rfl, rfl⟩ | exact Or.inr ⟨rfl, rfl⟩) sh_105 rfl rfl (by decide) rfl rfl rfl ?_
  refine a_iinc1 eX5_init_71 (by decide) aw_n2r ?_
  refine a_goto 52 eX5_init_74 (by decide) ?_
  refine a_ild1 eX5_init_52 ?_
  refine a_bipush eX5_init_53 (by decide) ?_
  refine a_icmp_ge 77 eX5_init_55 (by decide) (by omega) (fun h => absurd h (by decide)) (fun _ => ?_)
  refine a_ald0 eX5_init_58 ?_
  refine n_getR 2 88 eX5_init_59 fl_X5_11 rfl rfl sh_87 rfl (by decide +kernel) ?_
  refine a_ild1 eX5_init_62 ?_
  refine n_new (ci := 2) eX5_init_63 rfl kl_X5_9 ki_X2 kn_X2 nt_2 sh_106 (by decide +kernel) rfl ?_
  refine a_dup eX5_init_66 rfl ?_
  refine a_callIN eX5_init_67 ln_X5_32 mI_X2_init mt_X2_init rfl rfl rfl rfl (c_X2_init ?_)
  dsimp only [Option.toList, List.cons_append, List.nil_append]
  refine n_aast (j := 7) eX5_init_70 sh_88 rfl (by first | exact Or.inl ⟨rfl, rfl⟩ | exact Or.inr ⟨rfl, rfl⟩) sh_106 rfl rfl (by decide) rfl rfl rfl ?_
  refine a_iinc1 eX5_init_71 (by decide) aw_n2r ?_
  refine a_goto 52 eX5_init_74 (by decide) ?_
  refine a_ild1 eX5_init_52 ?_
  refine a_bipush eX5_init_53 (by decide) ?_
  refine a_icmp_ge 77 eX5_init_55 (by decide) (by omega) (fun h => absurd h (by decide)) (fun _ => ?_)
  refine a_ald0 eX5_init_58 ?_
  refine n_getR 2 88 eX5_init_59 fl_X5_11 rfl rfl sh_87 rfl (by decide +kernel) ?_
  refine a_ild1 eX5_init_62 ?_
  refine n_new (ci := 2) eX5_init_63 rfl kl_X5_9 ki_X2 kn_X2 nt_2 sh_107 (by decide +kernel) rfl ?_
  refine a_dup eX5_init_66 rfl ?_
  refine a_callIN eX5_init_67 ln_X5_32 mI_X2_init mt_X2_init rfl rfl rfl rfl (c_X2_init ?_)
  dsimp only [Option.toList, List.cons_append, List.nil_append]
  refine n_aast (j := 8) eX5_init_70 sh_88 rfl (by first | exact Or.inl ⟨rfl, rfl⟩ | exact Or.inr ⟨rfl, rfl⟩) sh_107 rfl rfl (by decide) rfl rfl rfl ?_
  refine a_iinc1 eX5_init_71 (by decide) aw_n2r ?_
  refine a_goto 52 eX5_init_74 (by decide) ?_
  refine a_ild1 eX5_init_52 ?_
  refine a_bipush eX5_init_53 (by decide) ?_
  refine a_icmp_ge 77 eX5_init_55 (by decide) (by omega) (fun h => absurd h (by decide)) (fun _ => ?_)
  refine a_ald0 eX5_init_58 ?_
  refine n_getR 2 88 eX5_init_59 fl_X5_11 rfl rfl sh_87 rfl (by decide +kernel) ?_
  refine a_ild1 eX5_init_62 ?_
  refine n_new (ci := 2) eX5_init_63 rfl kl_X5_9 ki_X2 kn_X2 nt_2 sh_108 (by decide +kernel) rfl ?_
  refine a_dup eX5_init_66 rfl ?_
  refine a_callIN eX5_init_67 ln_X5_32 mI_X2_init mt_X2_init rfl rfl rfl rfl (c_X2_init ?_)
  dsimp only [Option.toList, List.cons_append, List.nil_append]
  refine n_aast (j := 9) eX5_init_70 sh_88 rfl (by first | exact Or.inl ⟨rfl, rfl⟩ | exact Or.inr ⟨rfl, rfl⟩) sh_108 rfl rfl (by decide) rfl rfl rfl ?_
  refine a_iinc1 eX5_init_71 (by decide) aw_n2r ?_
  refine a_goto 52 eX5_init_74 (by decide) ?_
  refine a_ild1 eX5_init_52 ?_
  refine a_bipush eX5_init_53 (by decide) ?_
  refine a_icmp_ge 77 eX5_init_55 (by decide) (by omega) (fun h => absurd h (by decide)) (fun _ => ?_)
  refine a_ald0 eX5_init_58 ?_
  refine n_getR 2 88 eX5_init_59 fl_X5_11 rfl rfl sh_87 rfl (by decide +kernel) ?_
  refine a_ild1 eX5_init_62 ?_
  refine n_new (ci := 2) eX5_init_63 rfl kl_X5_9 ki_X2 kn_X2 nt_2 sh_109 (by decide +kernel) rfl ?_
  refine a_dup eX5_init_66 rfl ?_
  refine a_callIN eX5_init_67 ln_X5_32 mI_X2_init mt_X2_init rfl rfl rfl rfl (c_X2_init ?_)
  dsimp only [Option.toList, List.cons_append, List.nil_append]
  refine n_aast (j := 10) eX5_init_70 sh_88 rfl (by first | exact Or.inl ⟨rfl, rfl⟩ | exact Or.inr ⟨rfl, rfl⟩) sh_109 rfl rfl (by decide) rfl rfl rfl ?_
  refine a_iinc1 eX5_init_71 (by decide) aw_n2r ?_
  refine a_goto 52 eX5_init_74 (by decide) ?_
  refine a_ild1 eX5_init_52 ?_
  refine a_bipush eX5_init_53 (by decide) ?_
  refine a_icmp_ge 77 eX5_init_55 (by decide) (by omega) (fun h => absurd h (by decide)) (fun _ => ?_)
  refine a_ald0 eX5_init_58 ?_
  refine n_getR 2 88 eX5_init_59 fl_X5_11 rfl rfl sh_87 rfl (by decide +kernel) ?_
  refine a_ild1 eX5_init_62 ?_
  refine n_new (ci := 2) eX5_init_63 rfl kl_X5_9 ki_X2 kn_X2 nt_2 sh_110 (by decide +kernel) rfl ?_
  refine a_dup eX5_init_66 rfl ?_
  refine a_callIN eX5_init_67 ln_X5_32 mI_X2_init mt_X2_init rfl rfl rfl rfl (c_X2_init ?_)
  dsimp only [Option.toList, List.cons_append, List.nil_append]
  refine n_aast (j := 11) eX5_init_70 sh_88 rfl (by first | exact Or.inl ⟨rfl, rfl⟩ | exact Or.inr ⟨rfl, rfl⟩) sh_110 rfl rfl (by decide) rfl rfl rfl ?_
  refine a_iinc1 eX5_init_71 (by decide) aw_n2r ?_
  refine a_goto 52 eX5_init_74 (by decide) ?_
  refine a_ild1 eX5_init_52 ?_
  refine a_bipush eX5_init_53 (by decide) ?_
  refine a_icmp_ge 77 eX5_init_55 (by decide) (by omega) (fun h => absurd h (by decide)) (fun _ => ?_)
  refine a_ald0 eX5_init_58 ?_
  refine n_getR 2 88 eX5_init_59 fl_X5_11 rfl rfl sh_87 rfl (by decide +kernel) ?_
  refine a_ild1 eX5_init_62 ?_
  refine n_new (ci := 2) eX5_init_63 rfl kl_X5_9 ki_X2 kn_X2 nt_2 sh_111 (by decide +kernel) rfl ?_
  refine a_dup eX5_init_66 rfl ?_
  refine a_callIN eX5_init_67 ln_X5_32 mI_X2_init mt_X2_init rfl rfl rfl rfl (c_X2_init ?_)
  dsimp only [Option.toList, List.cons_append, List.nil_append]
  refine n_aast (j := 12) eX5_init_70 sh_88 rfl (by first | exact Or.inl ⟨rfl, rfl⟩ | exact Or.inr ⟨rfl, rfl⟩) sh_111 rfl rfl (by decide) rfl rfl rfl ?_
  refine a_iinc1 eX5_init_71 (by decide) aw_n2r ?_
  refine a_goto 52 eX5_init_74 (by decide) ?_
  refine a_ild1 eX5_init_52 ?_
  refine a_bipush eX5_init_53 (by decide) ?_
  refine a_icmp_ge 77 eX5_init_55 (by decide) (by omega) (fun h => absurd h (by decide)) (fun _ => ?_)
  refine a_ald0 eX5_init_58 ?_
  refine n_getR 2 88 eX5_init_59 fl_X5_11 rfl rfl sh_87 rfl (by decide +kernel) ?_
  refine a_ild1 eX5_init_62 ?_
  refine n_new (ci := 2) eX5_init_63 rfl kl_X5_9 ki_X2 kn_X2 nt_2 sh_112 (by decide +kernel) rfl ?_
  refine a_dup eX5_init_66 rfl ?_
  refine a_callIN eX5_init_67 ln_X5_32 mI_X2_init mt_X2_init rfl rfl rfl rfl (c_X2_init ?_)
  dsimp only [Option.toList, List.cons_append, List.nil_append]
  refine n_aast (j := 13) eX5_init_70 sh_88 rfl (by first | exact Or.inl ⟨rfl, rfl⟩ | exact Or.inr ⟨rfl, rfl⟩) sh_112 rfl rfl (by decide) rfl rfl rfl ?_
  refine a_iinc1 eX5_init_71 (by decide) aw_n2r ?_
  refine a_goto 52 eX5_init_74 (by decide) ?_
  refine a_ild1 eX5_init_52 ?_
  refine a_bipush eX5_init_53 (by decide) ?_
  refine a_icmp_ge 77 eX5_init_55 (by decide) (by omega) (fun h => absurd h (by decide)) (fun _ => ?_)
  refine a_ald0 eX5_init_58 ?_
  refine n_getR 2 88 eX5_init_59 fl_X5_11 rfl rfl sh_87 rfl (by decide +kernel) ?_
  refine a_ild1 eX5_init_62 ?_
  refine n_new (ci := 2) eX5_init_63 rfl kl_X5_9 ki_X2 kn_X2 nt_2 sh_113 (by decide +kernel) rfl ?_
  refine a_dup eX5_init_66 rfl ?_
  refine a_callIN eX5_init_67 ln_X5_32 mI_X2_init mt_X2_init rfl rfl rfl rfl (c_X2_init ?_)
  dsimp only [Option.toList, List.cons_append, List.nil_append]
  refine n_aast (j := 14) eX5_init_70 sh_88 rfl (by first | exact Or.inl ⟨rfl, rfl⟩ | exact Or.inr ⟨rfl, rfl⟩) sh_113 rfl rfl (by decide) rfl rfl rfl ?_
  refine a_iinc1 eX5_init_71 (by decide) aw_n2r ?_
  refine a_goto 52 eX5_init_74 (by decide) ?_
  refine a_ild1 eX5_init_52 ?_
  refine a_bipush eX5_init_53 (by decide) ?_
  refine a_icmp_ge 77 eX5_init_55 (by decide) (by omega) (fun h => absurd h (by decide)) (fun _ => ?_)
  refine a_ald0 eX5_init_58 ?_
  refine n_getR 2 88 eX5_init_59 fl_X5_11 rfl rfl sh_87 rfl (by decide +kernel) ?_
  refine a_ild1 eX5_init_62 ?_
  refine n_new (ci := 2) eX5_init_63 rfl kl_X5_9 ki_X2 kn_X2 nt_2 sh_114 (by decide +kernel) rfl ?_
  refine a_dup eX5_init_66 rfl ?_
  refine a_callIN eX5_init_67 ln_X5_32 mI_X2_init mt_X2_init rfl rfl rfl rfl (c_X2_init ?_)
  dsimp only [Option.toList, List.cons_append, List.nil_append]
  refine n_aast (j := 15) eX5_init_70 sh_88 rfl (by first | exact Or.inl ⟨rfl, rfl⟩ | exact Or.inr ⟨rfl, rfl⟩) sh_114 rfl rfl (by decide) rfl rfl rfl ?_
  refine a_iinc1 eX5_init_71 (by decide) aw_n2r ?_
  refine a_goto 52 eX5_init_74 (by decide) ?_
  refine a_ild1 eX5_init_52 ?_
  refine a_bipush eX5_init_53 (by decide) ?_
  refine a_icmp_ge 77 eX5_init_55 (by decide) (by omega) (fun _ => ?_) (fun h => absurd h (by decide))
  refine a_vret eX5_init_77 rfl rfl ⟨by decide, by decide⟩ ?_
  exact hk

set_option maxHeartbeats 4000000 in
set_option maxRecDepth 100000 in
theorem k_X5_init_116 {l : Launch} {Post : Option Value → aw_S → Prop} (hk : Post none (sN 141 4)) : AE l yX5_init cX5_init 2 (none : Option Jvm.ClassFile.FieldType) 2 41 27 506 (SH.take 143) (SH.take 116) (sN 114 4) [.ref 115] Post := by
  show AW l yX5_init cX5_init 2 (none : Option Jvm.ClassFile.FieldType) 2 41 27 506 (SH.take 143) Post (SH.take 116) 0 0 (sN 114 4) 0 [some (.ref 115), none] []
  refine a_ald0 eX5_init_0 ?_
  refine a_oi eX5_init_1 lk_X5_3 rfl rfl ?_
  refine a_ald0 eX5_init_4 ?_
  refine a_bipush eX5_init_5 (by decide) ?_
  refine n_anew (N := 16) eX5_init_7 (by first | exact Or.inl ⟨rfl, rfl⟩ | exact Or.inr ⟨rfl, rfl⟩) kl_X5_9 rfl rfl sh_116 (by decide +kernel) rfl ?_
  refine n_putR 2 eX5_init_10 fl_X5_11 rfl (by first | exact Or.inl ⟨_, rfl⟩ | exact Or.inr ⟨_, rfl⟩) sh_115 rfl (fun q h => Or.inr (by cases h; exact ⟨rfl, rfl, rfl⟩)) rfl rfl ?_
  refine a_ald0 eX5_init_13 ?_
  refine a_bipush eX5_init_14 (by decide) ?_
  refine a_bipush eX5_init_16 (by decide) ?_
  refine n_mna (N := 6) (M := 16) eX5_init_18 kl_X5_17 rfl rfl rfl rfl rfl (by decide +kernel) (by decide +kernel) rfl ?_
  refine n_putR 3 eX5_init_22 fl_X5_19 rfl (by first | exact Or.inl ⟨_, rfl⟩ | exact Or.inr ⟨_, rfl⟩) sh_115 rfl (fun q h => Or.inr (by cases h; exact ⟨rfl, rfl, rfl⟩)) rfl rfl ?_
  refine a_ald0 eX5_init_25 ?_
  refine a_bipush eX5_init_26 (by decide) ?_
  refine n_newa (N := 6) eX5_init_28 rfl rfl ka_0 rfl rfl sh_124 (by decide +kernel) rfl ?_
  refine n_putR 4 eX5_init_30 fl_X5_22 rfl (by first | exact Or.inl ⟨_, rfl⟩ | exact Or.inr ⟨_, rfl⟩) sh_115 rfl (fun q h => Or.inr (by cases h; exact ⟨rfl, rfl, rfl⟩)) rfl rfl ?_
  refine a_ald0 eX5_init_33 ?_
  refine a_bipush eX5_init_34 (by decide) ?_
  refine n_newa (N := 6) eX5_init_36 rfl rfl ka_0 rfl rfl sh_125 (by decide +kernel) rfl ?_
  refine n_putR 5 eX5_init_38 fl_X5_26 rfl (by first | exact Or.inl ⟨_, rfl⟩ | exact Or.inr ⟨_, rfl⟩) sh_115 rfl (fun q h => Or.inr (by cases h; exact ⟨rfl, rfl, rfl⟩)) rfl rfl ?_
  refine a_ald0 eX5_init_41 ?_
  refine a_sipush eX5_init_42 (by decide) ?_
  refine n_newa (N := 200) eX5_init_45 rfl rfl ka_0 rfl rfl sh_126 (by decide +kernel) rfl ?_
  refine n_putR 7 eX5_init_47 fl_X5_29 rfl (by first | exact Or.inl ⟨_, rfl⟩ | exact Or.inr ⟨_, rfl⟩) sh_115 rfl (fun q h => Or.inr (by cases h; exact ⟨rfl, rfl, rfl⟩)) rfl rfl ?_
  refine a_iconst eX5_init_50 ?_
  refine a_ist1 eX5_init_51 (by decide) aw_n2r ?_
  refine a_ild1 eX5_init_52 ?_
  refine a_bipush eX5_init_53 (by decide) ?_
  refine a_icmp_ge 77 eX5_init_55 (by decide) (by omega) (fun h => absurd h (by decide)) (fun _ => ?_)
  refine a_ald0 eX5_init_58 ?_
  refine n_getR 2 116 eX5_init_59 fl_X5_11 rfl rfl sh_115 rfl (by decide +kernel) ?_
  refine a_ild1 eX5_init_62 ?_
  refine n_new (ci := 2) eX5_init_63 rfl kl_X5_9 ki_X2 kn_X2 nt_2 sh_127 (by decide +kernel) rfl ?_
  refine a_dup eX5_init_66 rfl ?_
  refine a_callIN eX5_init_67 ln_X5_32 mI_X2_init mt_X2_init rfl rfl rfl rfl (c_X2_init ?_)
  dsimp only [Option.toList, List.cons_append, List.nil_append]
  refine n_aast (j := 0) eX5_init_70 sh_116 rfl (by first | exact Or.inl ⟨rfl, rfl⟩ | exact Or.inr ⟨rfl, rfl⟩) sh_127 rfl rfl (by decide) rfl rfl rfl ?_
  refine a_iinc1 eX5_init_71 (by decide) aw_n2r ?_
  refine a_goto 52 eX5_init_74 (by decide) ?_
  refine a_ild1 eX5_init_52 ?_
  refine a_bipush eX5_init_53 (by decide) ?_
  refine a_icmp_ge 77 eX5_init_55 (by decide) (by omega) (fun h => absurd h (by decide)) (fun _ => ?_)
  refine a_ald0 eX5_init_58 ?_
  refine n_getR 2 116 eX5_init_59 fl_X5_11 rfl rfl sh_115 rfl (by decide +kernel) ?_
  refine a_ild1 eX5_init_62 ?_
  refine n_new (ci := 2) eX5_init_63 rfl kl_X5_9 ki_X2 kn_X2 nt_2 sh_128 (by decide +kernel) rfl ?_
  refine a_dup eX5_init_66 rfl ?_
  refine a_callIN eX5_init_67 ln_X5_32 mI_X2_init mt_X2_init rfl rfl rfl rfl (c_X2_init ?_)
  dsimp only [Option.toList, List.cons_append, List.nil_append]
  refine n_aast (j := 1) eX5_init_70 sh_116 rfl (by first | exact Or.inl ⟨rfl, rfl⟩ | exact Or.inr ⟨rfl, rfl⟩) sh_128 rfl rfl (by decide) rfl rfl rfl ?_
  refine a_iinc1 eX5_init_71 (by decide) aw_n2r ?_
  refine a_goto 52 eX5_init_74 (by decide) ?_
  refine a_ild1 eX5_init_52 ?_
  refine a_bipush eX5_init_53 (by decide) ?_
  refine a_icmp_ge 77 eX5_init_55 (by decide) (by omega) (fun h => absurd h (by decide)) (fun _ => ?_)
  refine a_ald0 eX5_init_58 ?_
  refine n_getR 2 116 eX5_init_59 fl_X5_11 rfl rfl sh_115 rfl (by decide +kernel) ?_
  refine a_ild1 eX5_init_62 ?_
  refine n_new (ci := 2) eX5_init_63 rfl kl_X5_9 ki_X2 kn_X2 nt_2 sh_129 (by decide +kernel) rfl ?_
  refine a_dup eX5_init_66 rfl ?_
  refine a_callIN eX5_init_67 ln_X5_32 mI_X2_init mt_X2_init rfl rfl rfl rfl (c_X2_init ?_)
  dsimp only [Option.toList, List.cons_append, List.nil_append]
  refine n_aast (j := 2) eX5_init_70 sh_116 rfl (by first | exact Or.inl ⟨rfl, rfl⟩ | exact Or.inr ⟨rfl, rfl⟩) sh_129 rfl rfl (by decide) rfl rfl rfl ?_
  refine a_iinc1 eX5_init_71 (by decide) aw_n2r ?_
  refine a_goto 52 eX5_init_74 (by decide) ?_
  refine a_ild1 eX5_init_52 ?_
  refine a_bipush eX5_init_53 (by decide) ?_
  refine a_icmp_ge 77 eX5_init_55 (by decide) (by omega) (fun h => absurd h (by decide)) (fun _ => ?_)
  refine a_ald0 eX5_init_58 ?_
  refine n_getR 2 116 eX5_init_59 fl_X5_11 rfl rfl sh_115 rfl (by decide +kernel) ?_
  refine a_ild1 eX5_init_62 ?_
  refine n_new (ci := 2) eX5_init_63 rfl kl_X5_9 ki_X2 kn_X2 nt_2 sh_130 (by decide +kernel) rfl ?_
  refine a_dup eX5_init_66 rfl ?_
  refine a_callIN eX5_init_67 ln_X5_32 mI_X2_init mt_X2_init rfl rfl rfl rfl (c_X2_init ?_)
  dsimp only [Option.toList, List.cons_append, List.nil_append]
  refine n_aast (j := 3) eX5_init_70 sh_116 rfl (by first | exact Or.inl ⟨rfl, rfl⟩ | exact Or.inr ⟨rfl, rfl⟩) sh_130 rfl rfl (by decide) rfl rfl rfl ?_
  refine a_iinc1 eX5_init_71 (by decide) aw_n2r ?_
  refine a_goto 52 eX5_init_74 (by decide) ?_
  refine a_ild1 eX5_init_52 ?_
  refine a_bipush eX5_init_53 (by decide) ?_
  refine a_icmp_ge 77 eX5_init_55 (by decide) (by omega) (fun h => absurd h (by decide)) (fun _ => ?_)
  refine a_ald0 eX5_init_58 ?_
  refine n_getR 2 116 eX5_init_59 fl_X5_11 rfl rfl sh_115 rfl (by decide +kernel) ?_
  refine a_ild1 eX5_init_62 ?_
  refine n_new (ci := 2) eX5_init_63 rfl kl_X5_9 ki_X2 kn_X2 nt_2 sh_131 (by decide +kernel) rfl ?_
  refine a_dup eX5_init_66 rfl ?_
  refine a_callIN eX5_init_67 ln_X5_32 mI_X2_init mt_X2_init rfl rfl rfl rfl (c_X2_init ?_)
  dsimp only [Option.toList, List.cons_append, List.nil_append]
  refine n_aast (j := 4) eX5_init_70 sh_116 rfl (by first | exact Or.inl ⟨rfl, rfl⟩ | exact Or.inr ⟨rfl, rfl⟩) sh_131 rfl rfl (by decide) rfl rfl rfl ?_
  refine a_iinc1 eX5_init_71 (by decide) aw_n2r ?_
  refine a_goto 52 eX5_init_74 (by decide) ?_
  refine a_ild1 eX5_init_52 ?_
  refine a_bipush eX5_init_53 (by decide) ?_
  refine a_icmp_ge 77 eX5_init_55 (by decide) (by omega) (fun h => absurd h (by decide)) (fun _ => ?_)
  refine a_ald0 eX5_init_58 ?_
  refine n_getR 2 116 eX5_init_59 fl_X5_11 rfl rfl sh_115 rfl (by decide +kernel) ?_
  refine a_ild1 eX5_init_62 ?_
  refine n_new (ci := 2) eX5_init_63 rfl kl_X5_9 ki_X2 kn_X2 nt_2 sh_132 (by decide +kernel) rfl ?_
  refine a_dup eX5_init_66 rfl ?_
  refine a_callIN eX5_init_67 ln_X5_32 mI_X2_init mt_X2_init rfl rfl rfl rfl (c_X2_init ?_)
  dsimp only [Option.toList, List.cons_append, List.nil_append]
  refine n_aast (j := 5) eX5_init_70 sh_116 rfl (by first | exact Or.inl ⟨rfl, rfl⟩ | exact Or.inr ⟨rfl, rfl⟩) sh_132 rfl rfl (by decide) rfl rfl rfl ?_
  refine a_iinc1 eX5_init_71 (by decide) aw_n2r ?_
  refine a_goto 52 eX5_init_74 (by decide) ?_
  refine a_ild1 eX5_init_52 ?_
  refine a_bipush eX5_init_53 (by decide) ?_
  refine a_icmp_ge 77 eX5_init_55 (by decide) (by omega) (fun h => absurd h (by decide)) (fun _ => ?_)
  refine a_ald0 eX5_init_58 ?_
  refine n_getR 2 116 eX5_init_59 fl_X5_11 rfl rfl sh_115 rfl (by decide +kernel) ?_
  refine a_ild1 eX5_init_62 ?_
  refine n_new (ci := 2) eX5_init_63 rfl kl_X5_9 ki_X2 kn_X2 nt_2 sh_133 (by decide +kernel) rfl ?_
  refine a_dup eX5_init_66 rfl ?_
  refine a_callIN eX5_init_67 ln_X5_32 mI_X2_init mt_X2_init rfl rfl rfl rfl (c_X2_init ?_)
  dsimp only [Option.toList, List.cons_append, List.nil_append]
  refine n_aast (j := 6) eX5_init_70 sh_116 rfl (by first | exact Or.inl ⟨rfl, rfl⟩ | exact Or.inr ⟨rfl, rfl⟩) sh_133 rfl rfl (by decide) rfl rfl rfl ?_
  refine a_iinc1 eX5_init_71 (by decide) aw_n2r ?_
  refine a_goto 52 eX5_init_74 (by decide) ?_
  refine a_ild1 eX5_init_52 ?_
  refine a_bipush eX5_init_53 (by decide) ?_
  refine a_icmp_ge 77 eX5_init_55 (by decide) (by omega) (fun h => absurd h (by decide)) (fun _ => ?_)
  refine a_ald0 eX5_init_58 ?_
  refine n_getR 2 116 eX5_init_59 fl_X5_11 rfl rfl sh_115 rfl (by decide +kernel) ?_
  refine a_ild1 eX5_init_62 ?_
  refine n_new (ci := 2) eX5_init_63 rfl kl_X5_9 ki_X2 kn_X2 nt_2 sh_134 (by decide +kernel) rfl ?_
  refine a_dup eX5_init_66 rfl ?_
  refine a_callIN eX5_init_67 ln_X5_32 mI_X2_init mt_X2_init rfl rfl rfl rfl (c_X2_init ?_)
  dsimp only [Option.toList, List.cons_append, List.nil_append]
  refine n_aast (j := 7) eX5_init_70 sh_116 rfl (by first | exact Or.inl ⟨rfl, rfl⟩ | exact Or.inr ⟨rfl, rfl⟩) sh_134 rfl rfl (by decide) rfl rfl rfl ?_
  refine a_iinc1 eX5_init_71 (by decide) aw_n2r ?_
  refine a_goto 52 eX5_init_74 (by decide) ?_
  refine a_ild1 eX5_init_52 ?_
  refine a_bipush eX5_init_53 (by decide) ?_
  refine a_icmp_ge 77 eX5_init_55 (by decide) (by omega) (fun h => absurd h (by decide)) (fun _ => ?_)
  refine a_ald0 eX5_init_58 ?_
  refine n_getR 2 116 eX5_init_59 fl_X5_11 rfl rfl sh_115 rfl (by decide +kernel) ?_
  refine a_ild1 eX5_init_62 ?_
  refine n_new (ci := 2) eX5_init_63 rfl kl_X5_9 ki_X2 kn_X2 nt_2 sh_135 (by decide +kernel) rfl ?_
  refine a_dup eX5_init_66 rfl ?_
  refine a_callIN eX5_init_67 ln_X5_32 mI_X2_init mt_X2_init rfl rfl rfl rfl (c_X2_init ?_)
  dsimp only [Option.toList, List.cons_append, List.nil_append]
  refine n_aast (j := 8) eX5_init_70 sh_116 rfl (by first | exact Or.inl ⟨rfl, rfl⟩ | exact Or.inr ⟨rfl, rfl⟩) sh_135 rfl rfl (by decide) rfl rfl rfl ?_
  refine a_iinc1 eX5_init_71 (by decide) aw_n2r ?_
  refine a_goto 52 eX5_init_74 (by decide) ?_
  refine a_ild1 eX5_init_52 ?_
  refine a_bipush eX5_init_53 (by decide) ?_
  refine a_icmp_ge 77 eX5_init_55 (by decide) (by omega) (fun h => absurd h (by decide)) (fun _ => ?_)
  refine a_ald0 eX5_init_58 ?_
  refine n_getR 2 116 eX5_init_59 fl_X5_11 rfl rfl sh_115 rfl (by decide +kernel) ?_
  refine a_ild1 eX5_init_62 ?_
  refine n_new (ci := 2) eX5_init_63 rfl kl_X5_9 ki_X2 kn_X2 nt_2 sh_136 (by decide +kernel) rfl ?_
  refine a_dup eX5_init_66 rfl ?_
  refine a_callIN eX5_init_67 ln_X5_32 mI_X2_init mt_X2_init rfl rfl rfl rfl (c_X2_init ?_)
  dsimp only [Option.toList, List.cons_append, List.nil_append]
  refine n_aast (j := 9) eX5_init_70 sh_116 rfl (by first | exact Or.inl ⟨rfl, rfl⟩ | exact Or.inr ⟨rfl, rfl⟩) sh_136 rfl rfl (by decide) rfl rfl rfl ?_
  refine a_iinc1 eX5_init_71 (by decide) aw_n2r ?_
  refine a_goto 52 eX5_init_74 (by decide) ?_
  refine a_ild1 eX5_init_52 ?_
  refine a_bipush eX5_init_53 (by decide) ?_
  refine a_icmp_ge 77 eX5_init_55 (by decide) (by omega) (fun h => absurd h (by decide)) (fun _ => ?_)
  refine a_ald0 eX5_init_58 ?_
  refine n_getR 2 116 eX5_init_59 fl_X5_11 rfl rfl sh_115 rfl (by decide +kernel) ?_
  refine a_ild1 eX5_init_62 ?_
  refine n_new (ci := 2) eX5_init_63 rfl kl_X5_9 ki_X2 kn_X2 nt_2 sh_137 (by decide +kernel) rfl ?_
  refine a_dup eX5_init_66 rfl ?_
  refine a_callIN eX5_init_67 ln_X5_32 mI_X2_init mt_X2_init rfl rfl rfl rfl (c_X2_init ?_)
  dsimp only [Option.toList, List.cons_append, List.nil_append]
  refine n_aast (j := 10) eX5_init_70 sh_116 rfl (by first | exact Or.inl ⟨rfl, rfl⟩ | exact Or.inr ⟨rfl, rfl⟩) sh_137 rfl rfl (by decide) rfl rfl rfl ?_
  refine a_iinc1 eX5_init_71 (by decide) aw_n2r ?_
  refine a_goto 52 eX5_init_74 (by decide) ?_
  refine a_ild1 eX5_init_52 ?_
  refine a_bipush eX5_init_53 (by decide) ?_
  refine a_icmp_ge 77 eX5_init_55 (by decide) (by omega) (fun h => absurd h (by decide)) (fun _ => ?_)
  refine a_ald0 eX5_init_58 ?_
  refine n_getR 2 116 eX5_init_59 fl_X5_11 rfl rfl sh_115 rfl (by decide +kernel) ?_
  refine a_ild1 eX5_init_62 ?_
  refine n_new (ci := 2) eX5_init_63 rfl kl_X5_9 ki_X2 kn_X2 nt_2 sh_138 (by decide +kernel) rfl ?_
  refine a_dup eX5_init_66 rfl ?_
  refine a_callIN eX5_init_67 ln_X5_32 mI_X2_init mt_X2_init rfl rfl rfl rfl (c_X2_init ?_)
  dsimp only [Option.toList, List.cons_append, List.nil_append]
  refine n_aast (j := 11) eX5_init_70 sh_116 rfl (by first | exact Or.inl ⟨rfl, rfl⟩ | exact Or.inr ⟨rfl, rfl⟩) sh_138 rfl rfl (by decide) rfl rfl rfl ?_
  refine a_iinc1 eX5_init_71 (by decide) aw_n2r ?_
  refine a_goto 52 eX5_init_74 (by decide) ?_
  refine a_ild1 eX5_init_52 ?_
  refine a_bipush eX5_init_53 (by decide) ?_
  refine a_icmp_ge 77 eX5_init_55 (by decide) (by omega) (fun h => absurd h (by decide)) (fun _ => ?_)
  refine a_ald0 eX5_init_58 ?_
  refine n_getR 2 116 eX5_init_59 fl_X5_11 rfl rfl sh_115 rfl (by decide +kernel) ?_
  refine a_ild1 eX5_init_62 ?_
  refine n_new (ci := 2) eX5_init_63 rfl kl_X5_9 ki_X2 kn_X2 nt_2 sh_139 (by decide +kernel) rfl ?_
  refine a_dup eX5_init_66 rfl ?_
  refine a_callIN eX5_init_67 ln_X5_32 mI_X2_init mt_X2_init rfl rfl rfl rfl (c_X2_init ?_)
  dsimp only [Option.toList, List.cons_append, List.nil_append]
  refine n_aast (j := 12) eX5_init_70 sh_116 rfl (by first | exact Or.inl ⟨rfl, rfl⟩ | exact Or.inr ⟨rfl, rfl⟩) sh_139 rfl rfl (by decide) rfl rfl rfl ?_
  refine a_iinc1 eX5_init_71 (by decide) aw_n2r ?_
  refine a_goto 52 eX5_init_74 (by decide) ?_
  refine a_ild1 eX5_init_52 ?_
  refine a_bipush eX5_init_53 (by decide) ?_
  refine a_icmp_ge 77 eX5_init_55 (by decide) (by omega) (fun h => absurd h (by decide)) (fun _ => ?_)
  refine a_ald0 eX5_init_58 ?_
  refine n_getR 2 116 eX5_init_59 fl_X5_11 rfl rfl sh_115 rfl (by decide +kernel) ?_
  refine a_ild1 eX5_init_62 ?_
  refine n_new (ci := 2) eX5_init_63 rfl kl_X5_9 ki_X2 kn_X2 nt_2 sh_140 (by decide +kernel) rfl ?_
  refine a_dup eX5_init_66 rfl ?_
  refine a_callIN eX5_init_67 ln_X5_32 mI_X2_init mt_X2_init rfl rfl rfl rfl (c_X2_init ?_)
  dsimp only [Option.toList, List.cons_append, List.nil_append]
  refine n_aast (j := 13) eX5_init_70 sh_116 rfl (by first | exact Or.inl ⟨rfl, rfl⟩ | exact Or.inr ⟨rfl, rfl⟩) sh_140 rfl rfl (by decide) rfl rfl rfl ?_
  refine a_iinc1 eX5_init_71 (by decide) aw_n2r ?_
  refine a_goto 52 eX5_init_74 (by decide) ?_
  refine a_ild1 eX5_init_52 ?_
  refine a_bipush eX5_init_53 (by decide) ?_
  refine a_icmp_ge 77 eX5_init_55 (by decide) (by omega) (fun h => absurd h (by decide)) (fun _ => ?_)
  refine a_ald0 eX5_init_58 ?_
  refine n_getR 2 116 eX5_init_59 fl_X5_11 rfl rfl sh_115 rfl (by decide +kernel) ?_
  refine a_ild1 eX5_init_62 ?_
  refine n_new (ci := 2) eX5_init_63 rfl kl_X5_9 ki_X2 kn_X2 nt_2 sh_141 (by decide +kernel) rfl ?_
  refine a_dup eX5_init_66 rfl ?_
  refine a_callIN eX5_init_67 ln_X5_32 mI_X2_init mt_X2_init rfl rfl rfl rfl (c_X2_init ?_)
  dsimp only [Option.toList, List.cons_append, List.nil_append]
  refine n_aast (j := 14) eX5_init_70 sh_116 rfl (by first | exact Or.inl ⟨rfl, rfl⟩ | exact Or.inr ⟨rfl, rfl⟩) sh_141 rfl rfl (by decide) rfl rfl rfl ?_
  refine a_iinc1 eX5_init_71 (by decide) aw_n2r ?_
  refine a_goto 52 eX5_init_74 (by decide) ?_
  refine a_ild1 eX5_init_52 ?_
  refine a_bipush eX5_init_53 (by decide) ?_
  refine a_icmp_ge 77 eX5_init_55 (by decide) (by omega) (fun h => absurd h (by decide)) (fun _ => ?_)
  refine a_ald0 eX5_init_58 ?_
  refine n_getR 2 116 eX5_init_59 fl_X5_11 rfl rfl sh_115 rfl (by decide +kernel) ?_
  refine a_ild1 eX5_init_62 ?_
  refine n_new (ci := 2) eX5_init_63 rfl kl_X5_9 ki_X2 kn_X2 nt_2 sh_142 (by decide +kernel) rfl ?_
  refine a_dup eX5_init_66 rfl ?_
  refine a_callIN eX5_init_67 ln_X5_32 mI_X2_init mt_X2_init rfl rfl rfl rfl (c_X2_init ?_)
  dsimp only [Option.toList, List.cons_append, List.nil_append]
  refine n_aast (j := 15) eX5_init_70 sh_116 rfl (by first | exact Or.inl ⟨rfl, rfl⟩ | exact Or.inr ⟨rfl, rfl⟩) sh_142 rfl rfl (by decide) rfl rfl rfl ?_
  refine a_iinc1 eX5_init_71 (by decide) aw_n2r ?_
  refine a_goto 52 eX5_init_74 (by decide) ?_
  refine a_ild1 eX5_init_52 ?_
  refine a_bipush eX5_init_53 (by decide) ?_
  refine a_icmp_ge 77 eX5_init_55 (by decide) (by omega) (fun _ => ?_) (fun h => absurd h (by decide))
  refine a_vret eX5_init_77 rfl rfl ⟨by decide, by decide⟩ ?_
  exact hk

set_option maxHeartbeats 4000000 in
set_option maxRecDepth 100000 in
theorem k_X5_init_144 {l : Launch} {Post : Option Value → aw_S → Prop} (hk : Post none (sN 169 4)) : AE l yX5_init cX5_init 2 (none : Option Jvm.ClassFile.FieldType) 2 41 27 506 (SH.take 171) (SH.take 144) (sN 142 4) [.ref 143] Post := by
  show AW l yX5_init cX5_init 2 (none : Option Jvm.ClassFile.FieldType) 2 41 27 506 (SH.take 171) Post (SH.take 144) 0 0 (sN 142 4) 0 [some (.ref 143), none] []
  refine a_ald0 eX5_init_0 ?_
  refine a_oi eX5_init_1 lk_X5_3 rfl rfl ?_
  refine a_ald0 eX5_init_4 ?_
  refine a_bipush eX5_init_5 (by decide) ?_
  refine n_anew (N := 16) eX5_init_7 (by first | exact Or.inl ⟨rfl, rfl⟩ | exact Or.inr ⟨rfl, rfl⟩) kl_X5_9 rfl rfl sh_144 (by decide +kernel) rfl ?_
  refine n_putR 2 eX5_init_10 fl_X5_11 rfl (by first | exact Or.inl ⟨_, rfl⟩ | exact Or.inr ⟨_, rfl⟩) sh_143 rfl (fun q h => Or.inr (by cases h; exact ⟨rfl, rfl, rfl⟩)) rfl rfl ?_
  refine a_ald0 eX5_init_13 ?_
  refine a_bipush eX5_init_14 (by decide) ?_
  refine a_bipush eX5_init_16 (by decide) ?_
  refine n_mna (N := 6) (M := 16) eX5_init_18 kl_X5_17 rfl rfl rfl rfl rfl (by decide +kernel) (by decide +kernel) rfl ?_
  refine n_putR 3 eX5_init_22 fl_X5_19 rfl (by first | exact Or.inl ⟨_, rfl⟩ | exact Or.inr ⟨_, rfl⟩) sh_143 rfl (fun q h => Or.inr (by cases h; exact ⟨rfl, rfl, rfl⟩)) rfl rfl ?_
  refine a_ald0 eX5_init_25 ?_
  refine a_bipush eX5_init_26 (by decide) ?_
  refine n_newa (N := 6) eX5_init_28 rfl rfl ka_0 rfl rfl sh_152 (by decide +kernel) rfl ?_
  refine n_putR 4 eX5_init_30 fl_X5_22 rfl (by first | exact Or.inl ⟨_, rfl⟩ | exact Or.inr ⟨_, rfl⟩) sh_143 rfl (fun q h => Or.inr (by cases h; exact ⟨rfl, rfl, rfl⟩)) rfl rfl ?_
  refine a_ald0 eX5_init_33 ?_
  refine a_bipush eX5_init_34 (by decide) ?_
  refine n_newa (N := 6) eX5_init_36 rfl rfl ka_0 rfl rfl sh_153 (by decide +kernel) rfl ?_
  refine n_putR 5 eX5_init_38 fl_X5_26 rfl (by first | exact Or.inl ⟨_, rfl⟩ | exact Or.inr ⟨_, rfl⟩) sh_143 rfl (fun q h => Or.inr (by cases h; exact ⟨rfl, rfl, rfl⟩)) rfl rfl ?_
  refine a_ald0 eX5_init_41 ?_
  refine a_sipush eX5_init_42 (by decide) ?_
  refine n_newa (N := 200) eX5_init_45 rfl rfl ka_0 rfl rfl sh_154 (by decide +kernel) rfl ?_
  refine n_putR 7 eX5_init_47 fl_X5_29 rfl (by first | exact Or.inl ⟨_, rfl⟩ | exact Or.inr ⟨_, rfl⟩) sh_143 rfl (fun q h => Or.inr (by cases h; exact ⟨rfl, rfl, rfl⟩)) rfl rfl ?_
  refine a_iconst eX5_init_50 ?_
  refine a_ist1 eX5_init_51 (by decide) aw_n2r ?_
  refine a_ild1 eX5_init_52 ?_
  refine a_bipush eX5_init_53 (by decide) ?_
  refine a_icmp_ge 77 eX5_init_55 (by decide) (by omega) (fun h => absurd h (by decide)) (fun _ => ?_)
  refine a_ald0 eX5_init_58 ?_
  refine n_getR 2 144 eX5_init_59 fl_X5_11 rfl rfl sh_143 rfl (by decide +kernel) ?_
  refine a_ild1 eX5_init_62 ?_
  refine n_new (ci := 2) eX5_init_63 rfl kl_X5_9 ki_X2 kn_X2 nt_2 sh_155 (by decide +kernel) rfl ?_
  refine a_dup eX5_init_66 rfl ?_
  refine a_callIN eX5_init_67 ln_X5_32 mI_X2_init mt_X2_init rfl rfl rfl rfl (c_X2_init ?_)
  dsimp only [Option.toList, List.cons_append, List.nil_append]
  refine n_aast (j := 0) eX5_init_70 sh_144 rfl (by first | exact Or.inl ⟨rfl, rfl⟩ | exact Or.inr ⟨rfl, rfl⟩) sh_155 rfl rfl (by decide) rfl rfl rfl ?_
  refine a_iinc1 eX5_init_71 (by decide) aw_n2r ?_
  refine a_goto 52 eX5_init_74 (by decide) ?_
  refine a_ild1 eX5_init_52 ?_
  refine a_bipush eX5_init_53 (by decide) ?_
  refine a_icmp_ge 77 eX5_init_55 (by decide) (by omega) (fun h => absurd h (by decide)) (fun _ => ?_)
  refine a_ald0 eX5_init_58 ?_
  refine n_getR 2 144 eX5_init_59 fl_X5_11 rfl rfl sh_143 rfl (by decide +kernel) ?_
  refine a_ild1 eX5_init_62 ?_
  refine n_new (ci := 2) eX5_init_63 rfl kl_X5_9 ki_X2 kn_X2 nt_2 sh_156 (by decide +kernel) rfl ?_
  refine a_dup eX5_init_66 rfl ?_
  refine a_callIN eX5_init_67 ln_X5_32 mI_X2_init mt_X2_init rfl rfl rfl rfl (c_X2_init ?_)
  dsimp only [Option.toList, List.cons_append, List.nil_append]
  refine n_aast (j := 1) eX5_init_70 sh_144 rfl (by first | exact Or.inl ⟨rfl, rfl⟩ | exact Or.inr ⟨rfl, rfl⟩) sh_156 rfl rfl (by decide) rfl rfl rfl ?_
  refine a_iinc1 eX5_init_71 (by decide) aw_n2r ?_
  refine a_goto 52 eX5_init_74 (by decide) ?_
  refine a_ild1 eX5_init_52 ?_
  refine a_bipush eX5_init_53 (by decide) ?_
  refine a_icmp_ge 77 eX5_init_55 (by decide) (by omega) (fun h => absurd h (by decide)) (fun _ => ?_)
  refine a_ald0 eX5_init_58 ?_
  refine n_getR 2 144 eX5_init_59 fl_X5_11 rfl rfl sh_143 rfl (by decide +kernel) ?_
  refine a_ild1 eX5_init_62 ?_
  refine n_new (ci := 2) eX5_init_63 rfl kl_X5_9 ki_X2 kn_X2 nt_2 sh_157 (by decide +kernel) rfl ?_
  refine a_dup eX5_init_66 rfl ?_
  refine a_callIN eX5_init_67 ln_X5_32 mI_X2_init mt_X2_init rfl rfl rfl rfl (c_X2_init ?_)
  dsimp only [Option.toList, List.cons_append, List.nil_append]
  refine n_aast (j := 2) eX5_init_70 sh_144 rfl (by first | exact Or.inl ⟨rfl, rfl⟩ | exact Or.inr ⟨rfl, rfl⟩) sh_157 rfl rfl (by decide) rfl rfl rfl ?_
  refine a_iinc1 eX5_init_71 (by decide) aw_n2r ?_
  refine a_goto 52 eX5_init_74 (by decide) ?_
  refine a_ild1 eX5_init_52 ?_
  refine a_bipush eX5_init_53 (by decide) ?_
  refine a_icmp_ge 77 eX5_init_55 (by decide) (by omega) (fun h => absurd h (by decide)) (fun _ => ?_)
  refine a_ald0 eX5_init_58 ?_
  refine n_getR 2 144 eX5_init_59 fl_X5_11 rfl rfl sh_143 rfl (by decide +kernel) ?_
  refine a_ild1 eX5_init_62 ?_
  refine n_new (ci := 2) eX5_init_63 rfl kl_X5_9 ki_X2 kn_X2 nt_2 sh_158 (by decide +kernel) rfl ?_
  refine a_dup eX5_init_66 rfl ?_
  refine a_callIN eX5_init_67 ln_X5_32 mI_X2_init mt_X2_init rfl rfl rfl rfl (c_X2_init ?_)
  dsimp only [Option.toList, List.cons_append, List.nil_append]
  refine n_aast (j := 3) eX5_init_70 sh_144 rfl (by first | exact Or.inl ⟨rfl, rfl⟩ | exact Or.inr ⟨rfl, rfl⟩) sh_158 rfl rfl (by decide) rfl rfl rfl ?_
  refine a_iinc1 eX5_init_71 (by decide) aw_n2r ?_
  refine a_goto 52 eX5_init_74 (by decide) ?_
  refine a_ild1 eX5_init_52 ?_
  refine a_bipush eX5_init_53 (by decide) ?_
  refine a_icmp_ge 77 eX5_init_55 (by decide) (by omega) (fun h => absurd h (by decide)) (fun _ => ?_)
  refine a_ald0 eX5_init_58 ?_
  refine n_getR 2 144 eX5_init_59 fl_X5_11 rfl rfl sh_143 rfl (by decide +kernel) ?_
  refine a_ild1 eX5_init_62 ?_
  refine n_new (ci := 2) eX5_init_63 rfl kl_X5_9 ki_X2 kn_X2 nt_2 sh_159 (by decide +kernel) rfl ?_
  refine a_dup eX5_init_66 rfl ?_
  refine a_callIN eX5_init_67 ln_X5_32 mI_X2_init mt_X2_init rfl rfl rfl rfl (c_X2_init ?_)
  dsimp only [Option.toList, List.cons_append, List.nil_append]
  refine n_aast (j := 4) eX5_init_70 sh_144 rfl (by first | exact Or.inl ⟨rfl, rfl⟩ | exact Or.inr ⟨rfl, rfl⟩) sh_159 rfl rfl (by decide) rfl rfl rfl ?_
  refine a_iinc1 eX5_init_71 (by decide) aw_n2r ?_
  refine a_goto 52 eX5_init_74 (by decide) ?_
  refine a_ild1 eX5_init_52 ?_
  refine a_bipush eX5_init_53 (by decide) ?_
  refine a_icmp_ge 77 eX5_init_55 (by decide) (by omega) (fun h => absurd h (by decide)) (fun _ => ?_)
  refine a_ald0 eX5_init_58 ?_
  refine n_getR 2 144 eX5_init_59 fl_X5_11 rfl rfl sh_143 rfl (by decide +kernel) ?_
  refine a_ild1 eX5_init_62 ?_
  refine n_new (ci := 2) eX5_init_63 rfl kl_X5_9 ki_X2 kn_X2 nt_2 sh_160 (by decide +kernel) rfl ?_
  refine a_dup eX5_init_66 rfl ?_
  refine a_callIN eX5_init_67 ln_X5_32 mI_X2_init mt_X2_init rfl rfl rfl rfl (c_X2_init ?_)
  dsimp only [Option.toList, List.cons_append, List.nil_append]
  refine n_aast (j := 5) eX5_init_70 sh_144 rfl (by first | exact Or.inl ⟨rfl, rfl⟩ | exact Or.inr ⟨rfl, rfl⟩) sh_160 rfl rfl (by decide) rfl rfl rfl ?_
  refine a_iinc1 eX5_init_71 (by decide) aw_n2r ?_
  refine a_goto 52 eX5_init_74 (by decide) ?_
  refine a_ild1 eX5_init_52 ?_
  refine a_bipush eX5_init_53 (by decide) ?_
  refine a_icmp_ge 77 eX5_init_55 (by decide) (by omega) (fun h => absurd h (by decide)) (fun _ => ?_)
  refine a_ald0 eX5_init_58 ?_
  refine n_getR 2 144 eX5_init_59 fl_X5_11 rfl rfl sh_143 rfl (by decide +kernel) ?_
  refine a_ild1 eX5_init_62 ?_
  refine n_new (ci := 2) eX5_init_63 rfl kl_X5_9 ki_X2 kn_X2 nt_2 sh_161 (by decide +kernel) rfl ?_
  refine a_dup eX5_init_66 rfl ?_
  refine a_callIN eX5_init_67 ln_X5_32 mI_X2_init mt_X2_init rfl rfl rfl rfl (c_X2_init ?_)
  dsimp only [Option.toList, List.cons_append, List.nil_append]
  refine n_aast (j := 6) eX5_init_70 sh_144 rfl (by first | exact Or.inl ⟨rfl, rfl⟩ | exact Or.inr ⟨rfl, rfl⟩) sh_161 rfl rfl (by decide) rfl rfl rfl ?_
  refine a_iinc1 eX5_init_71 (by decide) aw_n2r ?_
  refine a_goto 52 eX5_init_74 (by decide) ?_
  refine a_ild1 eX5_init_52 ?_
  refine a_bipush eX5_init_53 (by decide) ?_
  refine a_icmp_ge 77 eX5_init_55 (by decide) (by omega) (fun h => absurd h (by decide)) (fun _ => ?_)
  refine a_ald0 eX5_init_58 ?_
  refine n_getR 2 144 eX5_init_59 fl_X5_11 rfl rfl sh_143 rfl (by decide +kernel) ?_
  refine a_ild1 eX5_init_62 ?_
  refine n_new (ci := 2) eX5_init_63 rfl kl_X5_9 ki_X2 kn_X2 nt_2 sh_162 (by decide +kernel) rfl ?_
  refine a_dup eX5_init_66 rfl ?_
  refine a_callIN eX5_init_67 ln_X5_32 mI_X2_init mt_X2_init rfl rfl rfl rfl (c_X2_init ?_)
  dsimp only [Option.toList, List.cons_append, List.nil_append]
  refine n_aast (j := 7) eX5_init_70 sh_144 rfl (by first | exact Or.inl ⟨rfl, rfl⟩ | exact Or.inr ⟨rfl, rfl⟩) sh_162 rfl rfl (by decide) rfl rfl rfl ?_
  refine a_iinc1 eX5_init_71 (by decide) aw_n2r ?_
  refine a_goto 52 eX5_init_74 (by decide) ?_
  refine a_ild1 eX5_init_52 ?_
  refine a_bipush eX5_init_53 (by decide) ?_
  refine a_icmp_ge 77 eX5_init_55 (by decide) (by omega) (fun h => absurd h (by decide)) (fun _ => ?_)
  refine a_ald0 eX5_init_58 ?_
  refine n_getR 2 144 eX5_init_59 fl_X5_11 rfl rfl sh_143 rfl (by decide +kernel) ?_
  refine a_ild1 eX5_init_62 ?_
  refine n_new (ci := 2) eX5_init_63 rfl kl_X5_9 ki_X2 kn_X2 nt_2 sh_163 (by decide +kernel) rfl ?_
  refine a_dup eX5_init_66 rfl ?_
  refine a_callIN eX5_init_67 ln_X5_32 mI_X2_init mt_X2_init rfl rfl rfl rfl (c_X2_init ?_)
  dsimp only [Option.toList, List.cons_append, List.nil_append]
  refine n_aast (j := 8) eX5_init_70 sh_144 rfl (by first | exact Or.inl ⟨rfl, rfl⟩ | exact Or.inr ⟨rfl, rfl⟩) sh_163 rfl rfl (by decide) rfl rfl rfl ?_
  refine a_iinc1 eX5_init_71 (by decide) aw_n2r ?_
  refine a_goto 52 eX5_init_74 (by decide) ?_
  refine a_ild1 eX5_init_52 ?_
  refine a_bipush eX5_init_53 (by decide) ?_
  refine a_icmp_ge 77 eX5_init_55 (by decide) (by omega) (fun h => absurd h (by decide)) (fun _ => ?_)
  refine a_ald0 eX5_init_58 ?_
  refine n_getR 2 144 eX5_init_59 fl_X5_11 rfl rfl sh_143 rfl (by decide +kernel) ?_
  refine a_ild1 eX5_init_62 ?_
  refine n_new (ci := 2) eX5_init_63 rfl kl_X5_9 ki_X2 kn_X2 nt_2 sh_164 (by decide +kernel) rfl ?_
  refine a_dup eX5_init_66 rfl ?_
  refine a_callIN eX5_init_67 ln_X5_32 mI_X2_init mt_X2_init rfl rfl rfl rfl (c_X2_init ?_)
  dsimp only [Option.toList, List.cons_append, List.nil_append]
  refine n_aast (j := 9) eX5_init_70 sh_144 rfl (by first | exact Or.inl ⟨rfl, rfl⟩ | exact Or.inr ⟨rfl, rfl⟩) sh_164 rfl rfl (by decide) rfl rfl rfl ?_
  refine a_iinc1 eX5_init_71 (by decide) aw_n2r ?_
  refine a_goto 52 eX5_init_74 (by decide) ?_
  refine a_ild1 eX5_init_52 ?_
  refine a_bipush eX5_init_53 (by decide) ?_
  refine a_icmp_ge 77 eX5_init_55 (by decide) (by omega) (fun h => absurd h (by decide)) (fun _ => ?_)
  refine a_ald0 eX5_init_58 ?_
  refine n_getR 2 144 eX5_init_59 fl_X5_11 rfl rfl sh_143 rfl (by decide +kernel) ?_
  refine a_ild1 eX5_init_62 ?_
  refine n_new (ci := 2) eX5_init_63 rfl kl_X5_9 ki_X2 kn_X2 nt_2 sh_165 (by decide +kernel) rfl ?_
  refine a_dup eX5_init_66 rfl ?_
  refine a_callIN eX5_init_67 ln_X5_32 mI_X2_init mt_X2_init rfl rfl rfl rfl (c_X2_init ?_)
  dsimp only [Option.toList, List.cons_append, List.nil_append]
  refine n_aast (j := 10) eX5_init_70 sh_144 rfl (by first | exact Or.inl ⟨rfl, rfl⟩ | exact Or.inr ⟨rfl, rfl⟩) sh_165 rfl rfl (by decide) rfl rfl rfl ?_
  refine a_iinc1 eX5_init_71 (by decide) aw_n2r ?_
  refine a_goto 52 eX5_init_74 (by decide) ?_
  refine a_ild1 eX5_init_52 ?_
  refine a_bipush eX5_init_53 (by decide) ?_
  refine a_icmp_ge 77 eX5_init_55 (by decide) (by omega) (fun h => absurd h (by decide)) (fun _ => ?_)
  refine a_ald0 eX5_init_58 ?_
  refine n_getR 2 144 eX5_init_59 fl_X5_11 rfl rfl sh_143 rfl (by decide +kernel) ?_
  refine a_ild1 eX5_init_62 ?_
  refine n_new (ci := 2) eX5_init_63 rfl kl_X5_9 ki_X2 kn_X2 nt_2 sh_166 (by decide +kernel) rfl ?_
  refine a_dup eX5_init_66 rfl ?_
  refine a_callIN eX5_init_67 ln_X5_32 mI_X2_init mt_X2_init rfl rfl rfl rfl (c_X2_init ?_)
  dsimp only [Option.toList, List.cons_append, List.nil_append]
  refine n_aast (j := 11) eX5_init_70 sh_144 rfl (by first | exact Or.inl ⟨rfl, rfl⟩ | exact Or.inr ⟨rfl, rfl⟩) sh_166 rfl rfl (by decide) rfl rfl rfl ?_
  refine a_iinc1 eX5_init_71 (by decide) aw_n2r ?_
  refine a_goto 52 eX5_init_74 (by decide) ?_
  refine a_ild1 eX5_init_52 ?_
  refine a_bipush eX5_init_53 (by decide) ?_
  refine a_icmp_ge 77 eX5_init_55 (by decide) (by omega) (fun h => absurd h (by decide)) (fun _ => ?_)
  refine a_ald0 eX5_init_58 ?_
  refine n_getR 2 144 eX5_init_59 fl_X5_11 rfl rfl sh_143 rfl (by decide +kernel) ?_
  refine a_ild1 eX5_init_62 ?_
  refine n_new (ci := 2) eX5_init_63 rfl kl_X5_9 ki_X2 kn_X2 nt_2 sh_167 (by decide +kernel) rfl ?_
  refine a_dup eX5_init_66 rfl ?_
  refine a_callIN eX5_init_67 ln_X5_32 mI_X2_init mt_X2_init rfl rfl rfl rfl (c_X2_init ?_)
  dsimp only [Option.toList, List.cons_append, List.nil_append]
  refine n_aast (j := 12) eX5_init_70 sh_144 rfl (by first | exact Or.inl ⟨rfl, rfl⟩ | exact Or.inr ⟨rfl, rfl⟩) sh_167 rfl rfl (by decide) rfl rfl rfl ?_
  refine a_iinc1 eX5_init_71 (by decide) aw_n2r ?_
  refine a_goto 52 eX5_init_74 (by decide) ?_
  refine a_ild1 eX5_init_52 ?_
  refine a_bipush eX5_init_53 (by decide) ?_
  refine a_icmp_ge 77 eX5_init_55 (by decide) (by omega) (fun h => absurd h (by decide)) (fun _ => ?_)
  refine a_ald0 eX5_init_58 ?_
  refine n_getR 2 144 eX5_init_59 fl_X5_11 rfl rfl sh_143 rfl (by decide +kernel) ?_
  refine a_ild1 eX5_init_62 ?_
  refine n_new (ci := 2) eX5_init_63 rfl kl_X5_9 ki_X2 kn_X2 nt_2 sh_168 (by decide +kernel) rfl ?_
  refine a_dup eX5_init_66 rfl ?_
  refine a_callIN eX5_init_67 ln_X5_32 mI_X2_init mt_X2_init rfl rfl rfl rfl (c_X2_init ?_)
  dsimp only [Option.toList, List.cons_append, List.nil_append]
  refine n_aast (j := 13) eX5_init_70 sh_144 rfl (by first | exact Or.inl ⟨rfl, rfl⟩ | exact Or.inr ⟨rfl, rfl⟩) sh_168 rfl rfl (by decide) rfl rfl rfl ?_
  refine a_iinc1 eX5_init_71 (by decide) aw_n2r ?_
  refine a_goto 52 eX5_init_74 (by decide) ?_
  refine a_ild1 eX5_init_52 ?_
  refine a_bipush eX5_init_53 (by decide) ?_
  refine a_icmp_ge 77 eX5_init_55 (by decide) (by omega) (fun h => absurd h (by decide)) (fun _ => ?_)
  refine a_ald0 eX5_init_58 ?_
  refine n_getR 2 144 eX5_init_59 fl_X5_11 rfl rfl sh_143 rfl (by decide +kernel) ?_
  refine a_ild1 eX5_init_62 ?_
  refine n_new (ci := 2) eX5_init_63 rfl kl_X5_9 ki_X2 kn_X2 nt_2 sh_169 (by decide +kernel) rfl ?_
  refine a_dup eX5_init_66 rfl ?_
  refine a_callIN eX5_init_67 ln_X5_32 mI_X2_init mt_X2_init rfl rfl rfl rfl (c_X2_init ?_)
  dsimp only [Option.toList, List.cons_append, List.nil_append]
  refine n_aast (j := 14) eX5_init_70 sh_144 rfl (by first | exact Or.inl ⟨rfl, rfl⟩ | exact Or.inr ⟨rfl, rfl⟩) sh_169 rfl rfl (by decide) rfl rfl rfl ?_
  refine a_iinc1 eX5_init_71 (by decide) aw_n2r ?_
  refine a_goto 52 eX5_init_74 (by decide) ?_
  refine a_ild1 eX5_init_52 ?_
  refine a_bipush eX5_init_53 (by decide) ?_
  refine a_icmp_ge 77 eX5_init_55 (by decide) (by omega) (fun h => absurd h (by decide)) (fun _ => ?_)
  refine a_ald0 eX5_init_58 ?_
  refine n_getR 2 144 eX5_init_59 fl_X5_11 rfl rfl sh_143 rfl (by decide +kernel) ?_
  refine a_ild1 eX5_init_62 ?_
  refine n_new (ci := 2) eX5_init_63 rfl kl_X5_9 ki_X2 kn_X2 nt_2 sh_170 (by decide +kernel) rfl ?_
  refine a_dup eX5_init_66 rfl ?_
  refine a_callIN eX5_init_67 ln_X5_32 mI_X2_init mt_X2_init rfl rfl rfl rfl (c_X2_init ?_)
  dsimp only [Option.toList, List.cons_append, List.nil_append]
  refine n_aast (j := 15) eX5_init_70 sh_144 rfl (by first | exact Or.inl ⟨rfl, rfl⟩ | exact Or.inr ⟨rfl, rfl⟩) sh_170 rfl rfl (by decide) rfl rfl rfl ?_
  refine a_iinc1 eX5_init_71 (by decide) aw_n2r ?_
  refine a_goto 52 eX5_init_74 (by decide) ?_
  refine a_ild1 eX5_init_52 ?_
  refine a_bipush eX5_init_53 (by decide) ?_
  refine a_icmp_ge 77 eX5_init_55 (by decide) (by omega) (fun _ => ?_) (fun h => absurd h (by decide))
  refine a_vret eX5_init_77 rfl rfl ⟨by decide, by decide⟩ ?_
  exact hk

set_option maxHeartbeats 4000000 in
set_option maxRecDepth 100000 in
theorem k_X9_init_1 {l : Launch} {Post : Option Value → aw_S → Prop} (hk : Post none (sN 170 4)) : AE l yX9_init cX9_init 2 (none : Option Jvm.ClassFile.FieldType) 3 62 170 10263 (SH.take 171) (SH.take 1) (sN 0 0) [.ref 0] Post := by
  show AW l yX9_init cX9_init 2 (none : Option Jvm.ClassFile.FieldType) 3 62 170 10263 (SH.take 171) Post (SH.take 1) 0 0 (sN 0 0) 0 [some (.ref 0), none] []
  refine a_ald0 eX9_init_0 ?_
  refine a_oi eX9_init_1 lk_X9_1 rfl rfl ?_
  refine a_ald0 eX9_init_4 ?_
  refine n_new (ci := 4) eX9_init_5 rfl kl_X9_7 ki_X4 kn_X4 nt_4 sh_1 (by decide +kernel) rfl ?_
  refine a_dup eX9_init_8 rfl ?_
  refine a_callIN eX9_init_9 ln_X9_9 mI_X4_init mt_X4_init rfl rfl rfl rfl (k_X4_init_2 ?_)
  dsimp only [Option.toList, List.cons_append, List.nil_append]
  refine n_putR 0 eX9_init_12 fl_X9_10 rfl (by first | exact Or.inl ⟨_, rfl⟩ | exact Or.inr ⟨_, rfl⟩) sh_0 rfl (fun q h => Or.inr (by cases h; exact ⟨rfl, rfl, rfl⟩)) rfl rfl ?_
  refine a_ald0 eX9_init_15 ?_
  refine n_new (ci := 3) eX9_init_16 rfl kl_X9_16 ki_X3 kn_X3 nt_3 sh_13 (by decide +kernel) rfl ?_
  refine a_dup eX9_init_19 rfl ?_
  refine a_callIN eX9_init_20 ln_X9_18 mI_X3_init mt_X3_init rfl rfl rfl rfl (k_X3_init_14 ?_)
  dsimp only [Option.toList, List.cons_append, List.nil_append]
  refine n_putR 1 eX9_init_23 fl_X9_19 rfl (by first | exact Or.inl ⟨_, rfl⟩ | exact Or.inr ⟨_, rfl⟩) sh_0 rfl (fun q h => Or.inl (by cases h; rfl)) rfl rfl ?_
  refine a_ald0 eX9_init_26 ?_
  refine n_new (ci := 5) eX9_init_27 rfl kl_X9_23 ki_X5 kn_X5 nt_5 sh_21 (by decide +kernel) rfl ?_
  refine a_dup eX9_init_30 rfl ?_
  refine a_callI eX9_init_31 lk_X9_25 mI_X5_init ⟨_, (shT sh_21 rfl)⟩ mt_X5_init rfl rfl rfl rfl (k_X5_init_22 ?_)
  dsimp only [Option.toList, List.cons_append, List.nil_append]
  refine n_putR 2 eX9_init_34 fl_X9_26 rfl (by first | exact Or.inl ⟨_, rfl⟩ | exact Or.inr ⟨_, rfl⟩) sh_0 rfl (fun q h => Or.inr (by cases h; exact ⟨rfl, rfl, rfl⟩)) rfl rfl ?_
  refine a_ald0 eX9_init_37 ?_
  refine a_iconst eX9_init_38 ?_
  refine n_anew (N := 3) eX9_init_39 (by first | exact Or.inl ⟨rfl, rfl⟩ | exact Or.inr ⟨rfl, rfl⟩) kl_X9_23 rfl rfl sh_49 (by decide +kernel) rfl ?_
  refine n_putR 3 eX9_init_42 fl_X9_30 rfl (by first | exact Or.inl ⟨_, rfl⟩ | exact Or.inr ⟨_, rfl⟩) sh_0 rfl (fun q h => Or.inr (by cases h; exact ⟨rfl, rfl, rfl⟩)) rfl rfl ?_
  refine a_ald0 eX9_init_45 ?_
  refine a_iconst eX9_init_46 ?_
  refine n_newa (N := 3) eX9_init_47 rfl rfl ka_2 rfl rfl sh_50 (by decide +kernel) rfl ?_
  refine n_putR 4 eX9_init_49 fl_X9_34 rfl (by first | exact Or.inl ⟨_, rfl⟩ | exact Or.inr ⟨_, rfl⟩) sh_0 rfl (fun q h => Or.inr (by cases h; exact ⟨rfl, rfl, rfl⟩)) rfl rfl ?_
  refine a_ald0 eX9_init_52 ?_
  refine n_new (ci := 8) eX9_init_53 rfl kl_X9_38 ki_X8 kn_X8 nt_8 sh_51 (by decide +kernel) rfl ?_
  refine a_dup eX9_init_56 rfl ?_
  refine a_callIN eX9_init_57 ln_X9_40 mI_X8_init mt_X8_init rfl rfl rfl rfl (k_X8_init_52 ?_)
  dsimp only [Option.toList, List.cons_append, List.nil_append]
  refine n_putR 5 eX9_init_60 fl_X9_41 rfl (by first | exact Or.inl ⟨_, rfl⟩ | exact Or.inr ⟨_, rfl⟩) sh_0 rfl (fun q h => Or.inr (by cases h; exact ⟨rfl, rfl, rfl⟩)) rfl rfl ?_
  refine a_ald0 eX9_init_63 ?_
  refine n_new (ci := 1) eX9_init_64 rfl kl_X9_45 ki_X1 kn_X1 nt_1 sh_57 (by decide +kernel) rfl ?_
  refine a_dup eX9_init_67 rfl ?_
  refine a_callIN eX9_init_68 ln_X9_47 mI_X1_init mt_X1_init rfl rfl rfl rfl (k_X1_init_58 ?_)
  dsimp only [Option.toList, List.cons_append, List.nil_append]
  refine n_putR 6 eX9_init_71 fl_X9_48 rfl (by first | exact Or.inl ⟨_, rfl⟩ | exact Or.inr ⟨_, rfl⟩) sh_0 rfl (fun q h => Or.inr (by cases h; exact ⟨rfl, rfl, rfl⟩)) rfl rfl ?_
  refine a_ald0 eX9_init_74 ?_
  refine n_new (ci := 6) eX9_init_75 rfl kl_X9_52 ki_X6 kn_X6 nt_6 sh_62 (by decide +kernel) rfl ?_
  refine a_dup eX9_init_78 rfl ?_
  refine a_callIN eX9_init_79 ln_X9_54 mI_X6_init mt_X6_init rfl rfl rfl rfl (k_X6_init_63 ?_)
  dsimp only [Option.toList, List.cons_append, List.nil_append]
  refine n_putR 7 eX9_init_82 fl_X9_55 rfl (by first | exact Or.inl ⟨_, rfl⟩ | exact Or.inr ⟨_, rfl⟩) sh_0 rfl (fun q h => Or.inr (by cases h; exact ⟨rfl, rfl, rfl⟩)) rfl rfl ?_
  refine a_ald0 eX9_init_85 ?_
  refine n_new (ci := 0) eX9_init_86 rfl kl_X9_59 ki_X0 kn_X0 nt_0 sh_64 (by decide +kernel) rfl ?_
  refine a_dup eX9_init_89 rfl ?_
  refine a_callIN eX9_init_90 ln_X9_61 mI_X0_init mt_X0_init rfl rfl rfl rfl (k_X0_init_65 ?_)
  dsimp only [Option.toList, List.cons_append, List.nil_append]
  refine n_putR 8 eX9_init_93 fl_X9_62 rfl (by first | exact Or.inl ⟨_, rfl⟩ | exact Or.inr ⟨_, rfl⟩) sh_0 rfl (fun q h => Or.inr (by cases h; exact ⟨rfl, rfl, rfl⟩)) rfl rfl ?_
  refine a_ald0 eX9_init_96 ?_
  refine n_new (ci := 7) eX9_init_97 rfl kl_X9_66 ki_X7 kn_X7 nt_7 sh_84 (by decide +kernel) rfl ?_
  refine a_dup eX9_init_100 rfl ?_
  refine a_callIN eX9_init_101 ln_X9_68 mI_X7_init mt_X7_init rfl rfl rfl rfl (k_X7_init_85 ?_)
  dsimp only [Option.toList, List.cons_append, List.nil_append]
  refine n_putR 9 eX9_init_104 fl_X9_69 rfl (by first | exact Or.inl ⟨_, rfl⟩ | exact Or.inr ⟨_, rfl⟩) sh_0 rfl (fun q h => Or.inr (by cases h; exact ⟨rfl, rfl, rfl⟩)) rfl rfl ?_
  refine a_iconst eX9_init_107 ?_
  refine a_ist1 eX9_init_108 (by decide) aw_n2r ?_
  refine a_ild1 eX9_init_109 ?_
  refine a_iconst eX9_init_110 ?_
  refine a_icmp_ge 133 eX9_init_111 (by decide) (by omega) (fun h => absurd h (by decide)) (fun _ => ?_)
  refine a_ald0 eX9_init_114 ?_
  refine n_getR 3 49 eX9_init_115 fl_X9_30 rfl rfl sh_0 rfl (by decide +kernel) ?_
  refine a_ild1 eX9_init_118 ?_
  refine n_new (ci := 5) eX9_init_119 rfl kl_X9_23 ki_X5 kn_X5 nt_5 sh_87 (by decide +kernel) rfl ?_
  refine a_dup eX9_init_122 rfl ?_
  refine a_callI eX9_init_123 lk_X9_25 mI_X5_init ⟨_, (shT sh_87 rfl)⟩ mt_X5_init rfl rfl rfl rfl (k_X5_init_88 ?_)
  dsimp only [Option.toList, List.cons_append, List.nil_append]
  refine n_aast (j := 0) eX9_init_126 sh_49 rfl (by first | exact Or.inl ⟨rfl, rfl⟩ | exact Or.inr ⟨rfl, rfl⟩) sh_87 rfl rfl (by decide) rfl rfl rfl ?_
  refine a_iinc1 eX9_init_127 (by decide) aw_n2r ?_
  refine a_goto 109 eX9_init_130 (by decide) ?_
  refine a_ild1 eX9_init_109 ?_
  refine a_iconst eX9_init_110 ?_
  refine a_icmp_ge 133 eX9_init_111 (by decide) (by omega) (fun h => absurd h (by decide)) (fun _ => ?_)
  refine a_ald0 eX9_init_114 ?_
  refine n_getR 3 49 eX9_init_115 fl_X9_30 rfl rfl sh_0 rfl (by decide +kernel) ?_
  refine a_ild1 eX9_init_118 ?_
  refine n_new (ci := 5) eX9_init_119 rfl kl_X9_23 ki_X5 kn_X5 nt_5 sh_115 (by decide +kernel) rfl ?_
  refine a_dup eX9_init_122 rfl ?_
  refine a_callI eX9_init_123 lk_X9_25 mI_X5_init ⟨_, (shT sh_115 rfl)⟩ mt_X5_init rfl rfl rfl rfl (k_X5_init_116 ?_)
  dsimp only [Option.toList, List.cons_append, List.nil_append]
  refine n_aast (j := 1) eX9_init_126 sh_49 rfl (by first | exact Or.inl ⟨rfl, rfl⟩ | exact Or.inr ⟨rfl, rfl⟩) sh_115 rfl rfl (by decide) rfl rfl rfl ?_
  refine a_iinc1 eX9_init_127 (by decide) aw_n2r ?_
  refine a_goto 109 eX9_init_130 (by decide) ?_
  refine a_ild1 eX9_init_109 ?_
  refine a_iconst eX9_init_110 ?_
  refine a_icmp_ge 133 eX9_init_111 (by decide) (by omega) (fun h => absurd h (by decide)) (fun _ => ?_)
  refine a_ald0 eX9_init_114 ?_
  refine n_getR 3 49 eX9_init_115 fl_X9_30 rfl rfl sh_0 rfl (by decide +kernel) ?_
  refine a_ild1 eX9_init_118 ?_
  refine n_new (ci := 5) eX9_init_119 rfl kl_X9_23 ki_X5 kn_X5 nt_5 sh_143 (by decide +kernel) rfl ?_
  refine a_dup eX9_init_122 rfl ?_
  refine a_callI eX9_init_123 lk_X9_25 mI_X5_init ⟨_, (shT sh_143 rfl)⟩ mt_X5_init rfl rfl rfl rfl (k_X5_init_144 ?_)
  dsimp only [Option.toList, List.cons_append, List.nil_append]
  refine n_aast (j := 2) eX9_init_126 sh_49 rfl (by first | exact Or.inl ⟨rfl, rfl⟩ | exact Or.inr ⟨rfl, rfl⟩) sh_143 rfl rfl (by decide) rfl rfl rfl ?_
  refine a_iinc1 eX9_init_127 (by decide) aw_n2r ?_
  refine a_goto 109 eX9_init_130 (by decide) ?_
  refine a_ild1 eX9_init_109 ?_
  refine a_iconst eX9_init_110 ?_
  refine a_icmp_ge 133 eX9_init_111 (by decide) (by omega) (fun _ => ?_) (fun h => absurd h (by decide))
  refine a_vret eX9_init_133 rfl rfl ⟨by decide, by decide⟩ ?_
  exact hk

set_option maxHeartbeats 4000000 in
set_option maxRecDepth 100000 in
theorem k_X10_init_172 {l : Launch} {Post : Option Value → aw_S → Prop} (hk : Post none (sN 207 4)) : AE l yX10_init cX10_init 1 (none : Option Jvm.ClassFile.FieldType) 1 21 37 10804 (SH.take 209) (SH.take 172) (sN 170 4) [.ref 171] Post := by
  show AW l yX10_init cX10_init 1 (none : Option Jvm.ClassFile.FieldType) 1 21 37 10804 (SH.take 209) Post (SH.take 172) 0 0 (sN 170 4) 0 [some (.ref 171)] []
  refine a_ald0 eX10_init_0 ?_
  refine a_oi eX10_init_1 lk_X10_1 rfl rfl ?_
  refine a_ald0 eX10_init_4 ?_
  refine a_sipush eX10_init_5 (by decide) ?_
  refine n_newa (N := 500) eX10_init_8 rfl rfl ka_1 rfl rfl sh_172 (by decide +kernel) rfl ?_
  refine n_putR 0 eX10_init_10 fl_X10_9 rfl (by first | exact Or.inl ⟨_, rfl⟩ | exact Or.inr ⟨_, rfl⟩) sh_171 rfl (fun q h => Or.inr (by cases h; exact ⟨rfl, rfl, rfl⟩)) rfl rfl ?_
  refine a_ald0 eX10_init_13 ?_
  refine a_bipush eX10_init_14 (by decide) ?_
  refine n_newa (N := 6) eX10_init_16 rfl rfl ka_3 rfl rfl sh_173 (by decide +kernel) rfl ?_
  refine n_putR 7 eX10_init_18 fl_X10_13 rfl (by first | exact Or.inl ⟨_, rfl⟩ | exact Or.inr ⟨_, rfl⟩) sh_171 rfl (fun q h => Or.inr (by cases h; exact ⟨rfl, rfl, rfl⟩)) rfl rfl ?_
  refine a_ald0 eX10_init_21 ?_
  refine a_bipush eX10_init_22 (by decide) ?_
  refine n_newa (N := 18) eX10_init_24 rfl rfl ka_0 rfl rfl sh_174 (by decide +kernel) rfl ?_
  refine n_putR 8 eX10_init_26 fl_X10_17 rfl (by first | exact Or.inl ⟨_, rfl⟩ | exact Or.inr ⟨_, rfl⟩) sh_171 rfl (fun q h => Or.inr (by cases h; exact ⟨rfl, rfl, rfl⟩)) rfl rfl ?_
  refine a_ald0 eX10_init_29 ?_
  refine a_bipush eX10_init_30 (by decide) ?_
  refine n_newa (N := 32) eX10_init_32 rfl rfl ka_0 rfl rfl sh_175 (by decide +kernel) rfl ?_
  refine n_putR 10 eX10_init_34 fl_X10_21 rfl (by first | exact Or.inl ⟨_, rfl⟩ | exact Or.inr ⟨_, rfl⟩) sh_171 rfl (fun q h => Or.inr (by cases h; exact ⟨rfl, rfl, rfl⟩)) rfl rfl ?_
  refine a_ald0 eX10_init_37 ?_
  refine a_iconst eX10_init_38 ?_
  refine n_newa (N := 4) eX10_init_39 rfl rfl ka_0 rfl rfl sh_176 (by decide +kernel) rfl ?_
  refine n_putR 11 eX10_init_41 fl_X10_24 rfl (by first | exact Or.inl ⟨_, rfl⟩ | exact Or.inr ⟨_, rfl⟩) sh_171 rfl (fun q h => Or.inr (by cases h; exact ⟨rfl, rfl, rfl⟩)) rfl rfl ?_
  refine a_ald0 eX10_init_44 ?_
  refine a_iconst eX10_init_45 ?_
  refine n_newa (N := 2) eX10_init_46 rfl rfl ka_0 rfl rfl sh_177 (by decide +kernel) rfl ?_
  refine n_putR 12 eX10_init_48 fl_X10_27 rfl (by first | exact Or.inl ⟨_, rfl⟩ | exact Or.inr ⟨_, rfl⟩) sh_171 rfl (fun q h => Or.inr (by cases h; exact ⟨rfl, rfl, rfl⟩)) rfl rfl ?_
  refine a_ald0 eX10_init_51 ?_
  refine a_bipush eX10_init_52 (by decide) ?_
  refine n_newa (N := 18) eX10_init_54 rfl rfl ka_0 rfl rfl sh_178 (by decide +kernel) rfl ?_
  refine n_putR 15 eX10_init_56 fl_X10_30 rfl (by first | exact Or.inl ⟨_, rfl⟩ | exact Or.inr ⟨_, rfl⟩) sh_171 rfl (fun q h => Or.inr (by cases h; exact ⟨rfl, rfl, rfl⟩)) rfl rfl ?_
  refine a_ald0 eX10_init_59 ?_
  refine a_bipush eX10_init_60 (by decide) ?_
  refine n_newa (N := 32) eX10_init_62 rfl rfl ka_0 rfl rfl sh_179 (by decide +kernel) rfl ?_
  refine n_putR 17 eX10_init_64 fl_X10_33 rfl (by first | exact Or.inl ⟨_, rfl⟩ | exact Or.inr ⟨_, rfl⟩) sh_171 rfl (fun q h => Or.inr (by cases h; exact ⟨rfl, rfl, rfl⟩)) rfl rfl ?_
  refine a_ald0 eX10_init_67 ?_
  refine a_iconst eX10_init_68 ?_
  refine n_newa (N := 4) eX10_init_69 rfl rfl ka_0 rfl rfl sh_180 (by decide +kernel) rfl ?_
  refine n_putR 18 eX10_init_71 fl_X10_36 rfl (by first | exact Or.inl ⟨_, rfl⟩ | exact Or.inr ⟨_, rfl⟩) sh_171 rfl (fun q h => Or.inr (by cases h; exact ⟨rfl, rfl, rfl⟩)) rfl rfl ?_
  refine a_ald0 eX10_init_74 ?_
  refine a_iconst eX10_init_75 ?_
  refine n_newa (N := 2) eX10_init_76 rfl rfl ka_0 rfl rfl sh_181 (by decide +kernel) rfl ?_
  refine n_putR 19 eX10_init_78 fl_X10_39 rfl (by first | exact Or.inl ⟨_, rfl⟩ | exact Or.inr ⟨_, rfl⟩) sh_171 rfl (fun q h => Or.inr (by cases h; exact ⟨rfl, rfl, rfl⟩)) rfl rfl ?_
  refine a_ald0 eX10_init_81 ?_
  refine a_sipush eX10_init_82 (by decide) ?_
  refine n_newa (N := 176) eX10_init_85 rfl rfl ka_0 rfl rfl sh_182 (by decide +kernel) rfl ?_
  refine n_putR 23 eX10_init_87 fl_X10_42 rfl (by first | exact Or.inl ⟨_, rfl⟩ | exact Or.inr ⟨_, rfl⟩) sh_171 rfl (fun q h => Or.inr (by cases h; exact ⟨rfl, rfl, rfl⟩)) rfl rfl ?_
  refine a_ald0 eX10_init_90 ?_
  refine a_bipush eX10_init_91 (by decide) ?_
  refine n_newa (N := 108) eX10_init_93 rfl rfl ka_0 rfl rfl sh_183 (by decide +kernel) rfl ?_
  refine n_putR 24 eX10_init_95 fl_X10_45 rfl (by first | exact Or.inl ⟨_, rfl⟩ | exact Or.inr ⟨_, rfl⟩) sh_171 rfl (fun q h => Or.inr (by cases h; exact ⟨rfl, rfl, rfl⟩)) rfl rfl ?_
  refine a_ald0 eX10_init_98 ?_
  refine a_bipush eX10_init_99 (by decide) ?_
  refine n_newa (N := 6) eX10_init_101 rfl rfl ka_0 rfl rfl sh_184 (by decide +kernel) rfl ?_
  refine n_putR 25 eX10_init_103 fl_X10_48 rfl (by first | exact Or.inl ⟨_, rfl⟩ | exact Or.inr ⟨_, rfl⟩) sh_171 rfl (fun q h => Or.inr (by cases h; exact ⟨rfl, rfl, rfl⟩)) rfl rfl ?_
  refine a_ald0 eX10_init_106 ?_
  refine a_sipush eX10_init_107 (by decide) ?_
  refine n_newa (N := 200) eX10_init_110 rfl rfl ka_0 rfl rfl sh_185 (by decide +kernel) rfl ?_
  refine n_putR 27 eX10_init_112 fl_X10_51 rfl (by first | exact Or.inl ⟨_, rfl⟩ | exact Or.inr ⟨_, rfl⟩) sh_171 rfl (fun q h => Or.inr (by cases h; exact ⟨rfl, rfl, rfl⟩)) rfl rfl ?_
  refine a_ald0 eX10_init_115 ?_
  refine a_bipush eX10_init_116 (by decide) ?_
  refine n_newa (N := 6) eX10_init_118 rfl rfl ka_0 rfl rfl sh_186 (by decide +kernel) rfl ?_
  refine n_putR 28 eX10_init_120 fl_X10_54 rfl (by first | exact Or.inl ⟨_, rfl⟩ | exact Or.inr ⟨_, rfl⟩) sh_171 rfl (fun q h => Or.inr (by cases h; exact ⟨rfl, rfl, rfl⟩)) rfl rfl ?_
  refine a_ald0 eX10_init_123 ?_
  refine a_bipush eX10_init_124 (by decide) ?_
  refine n_newa (N := 18) eX10_init_126 rfl rfl ka_0 rfl rfl sh_187 (by decide +kernel) rfl ?_
  refine n_putR 29 eX10_init_128 fl_X10_57 rfl (by first | exact Or.inl ⟨_, rfl⟩ | exact Or.inr ⟨_, rfl⟩) sh_171 rfl (fun q h => Or.inr (by cases h; exact ⟨rfl, rfl, rfl⟩)) rfl rfl ?_
  refine a_ald0 eX10_init_131 ?_
  refine a_bipush eX10_init_132 (by decide) ?_
  refine n_newa (N := 12) eX10_init_134 rfl rfl ka_0 rfl rfl sh_188 (by decide +kernel) rfl ?_
  refine n_putR 31 eX10_init_136 fl_X10_60 rfl (by first | exact Or.inl ⟨_, rfl⟩ | exact Or.inr ⟨_, rfl⟩) sh_171 rfl (fun q h => Or.inr (by cases h; exact ⟨rfl, rfl, rfl⟩)) rfl rfl ?_
  refine a_ald0 eX10_init_139 ?_
  refine a_bipush eX10_init_140 (by decide) ?_
  refine n_newa (N := 12) eX10_init_142 rfl rfl ka_0 rfl rfl sh_189 (by decide +kernel) rfl ?_
  refine n_putR 32 eX10_init_144 fl_X10_63 rfl (by first | exact Or.inl ⟨_, rfl⟩ | exact Or.inr ⟨_, rfl⟩) sh_171 rfl (fun q h => Or.inr (by cases h; exact ⟨rfl, rfl, rfl⟩)) rfl rfl ?_
  refine a_ald0 eX10_init_147 ?_
  refine a_bipush eX10_init_148 (by decide) ?_
  refine n_newa (N := 12) eX10_init_150 rfl rfl ka_0 rfl rfl sh_190 (by decide +kernel) rfl ?_
  refine n_putR 33 eX10_init_152 fl_X10_66 rfl (by first | exact Or.inl ⟨_, rfl⟩ | exact Or.inr ⟨_, rfl⟩) sh_171 rfl (fun q h => Or.inr (by cases h; exact ⟨rfl, rfl, rfl⟩)) rfl rfl ?_
  refine a_ald0 eX10_init_155 ?_
  refine a_bipush eX10_init_156 (by decide) ?_
  refine n_newa (N := 72) eX10_init_158 rfl rfl ka_0 rfl rfl sh_191 (by decide +kernel) rfl ?_
  refine n_putR 34 eX10_init_160 fl_X10_69 rfl (by first | exact Or.inl ⟨_, rfl⟩ | exact Or.inr ⟨_, rfl⟩) sh_171 rfl (fun q h => Or.inr (by cases h; exact ⟨rfl, rfl, rfl⟩)) rfl rfl ?_
  refine a_ald0 eX10_init_163 ?_
  refine a_iconst eX10_init_164 ?_
  refine n_newa (N := 3) eX10_init_165 rfl rfl ka_2 rfl rfl sh_192 (by decide +kernel) rfl ?_
  refine n_putR 35 eX10_init_167 fl_X10_72 rfl (by first | exact Or.inl ⟨_, rfl⟩ | exact Or.inr ⟨_, rfl⟩) sh_171 rfl (fun q h => Or.inr (by cases h; exact ⟨rfl, rfl, rfl⟩)) rfl rfl ?_
  refine a_ald0 eX10_init_170 ?_
  refine a_iconst eX10_init_171 ?_
  refine n_newa (N := 3) eX10_init_172 rfl rfl ka_0 rfl rfl sh_193 (by decide +kernel) rfl ?_
  refine n_putR 36 eX10_init_174 fl_X10_76 rfl (by first | exact Or.inl ⟨_, rfl⟩ | exact Or.inr ⟨_, rfl⟩) sh_171 rfl (fun q h => Or.inr (by cases h; exact ⟨rfl, rfl, rfl⟩)) rfl rfl ?_
  refine a_ald0 eX10_init_177 ?_
  refine a_iconst eX10_init_178 ?_
  refine n_newa (N := 3) eX10_init_179 rfl rfl ka_0 rfl rfl sh_194 (by decide +kernel) rfl ?_
  refine n_putR 37 eX10_init_181 fl_X10_79 rfl (by first | exact Or.inl ⟨_, rfl⟩ | exact Or.inr ⟨_, rfl⟩) sh_171 rfl (fun q h => Or.inr (by cases h; exact ⟨rfl, rfl, rfl⟩)) rfl rfl ?_
  refine a_ald0 eX10_init_184 ?_
  refine a_sipush eX10_init_185 (by decide) ?_
  refine n_newa (N := 528) eX10_init_188 rfl rfl ka_0 rfl rfl sh_195 (by decide +kernel) rfl ?_
  refine n_putR 38 eX10_init_190 fl_X10_82 rfl (by first | exact Or.inl ⟨_, rfl⟩ | exact Or.inr ⟨_, rfl⟩) sh_171 rfl (fun q h => Or.inr (by cases h; exact ⟨rfl, rfl, rfl⟩)) rfl rfl ?_
  refine a_ald0 eX10_init_193 ?_
  refine a_sipush eX10_init_194 (by decide) ?_
  refine n_newa (N := 324) eX10_init_197 rfl rfl ka_0 rfl rfl sh_196 (by decide +kernel) rfl ?_
  refine n_putR 39 eX10_init_199 fl_X10_85 rfl (by first | exact Or.inl ⟨_, rfl⟩ | exact Or.inr ⟨_, rfl⟩) sh_171 rfl (fun q h => Or.inr (by cases h; exact ⟨rfl, rfl, rfl⟩)) rfl rfl ?_
  refine a_ald0 eX10_init_202 ?_
  refine a_bipush eX10_init_203 (by decide) ?_
  refine n_newa (N := 18) eX10_init_205 rfl rfl ka_0 rfl rfl sh_197 (by decide +kernel) rfl ?_
  refine n_putR 40 eX10_init_207 fl_X10_88 rfl (by first | exact Or.inl ⟨_, rfl⟩ | exact Or.inr ⟨_, rfl⟩) sh_171 rfl (fun q h => Or.inr (by cases h; exact ⟨rfl, rfl, rfl⟩)) rfl rfl ?_
  refine a_ald0 eX10_init_210 ?_
  refine a_iconst eX10_init_211 ?_
  refine n_newa (N := 3) eX10_init_212 rfl rfl ka_0 rfl rfl sh_198 (by decide +kernel) rfl ?_
  refine n_putR 41 eX10_init_214 fl_X10_91 rfl (by first | exact Or.inl ⟨_, rfl⟩ | exact Or.inr ⟨_, rfl⟩) sh_171 rfl (fun q h => Or.inr (by cases h; exact ⟨rfl, rfl, rfl⟩)) rfl rfl ?_
  refine a_ald0 eX10_init_217 ?_
  refine a_sipush eX10_init_218 (by decide) ?_
  refine n_newa (N := 600) eX10_init_221 rfl rfl ka_0 rfl rfl sh_199 (by decide +kernel) rfl ?_
  refine n_putR 42 eX10_init_223 fl_X10_94 rfl (by first | exact Or.inl ⟨_, rfl⟩ | exact Or.inr ⟨_, rfl⟩) sh_171 rfl (fun q h => Or.inr (by cases h; exact ⟨rfl, rfl, rfl⟩)) rfl rfl ?_
  refine a_ald0 eX10_init_226 ?_
  refine a_bipush eX10_init_227 (by decide) ?_
  refine n_newa (N := 18) eX10_init_229 rfl rfl ka_0 rfl rfl sh_200 (by decide +kernel) rfl ?_
  refine n_putR 43 eX10_init_231 fl_X10_97 rfl (by first | exact Or.inl ⟨_, rfl⟩ | exact Or.inr ⟨_, rfl⟩) sh_171 rfl (fun q h => Or.inr (by cases h; exact ⟨rfl, rfl, rfl⟩)) rfl rfl ?_
  refine a_ald0 eX10_init_234 ?_
  refine a_sipush eX10_init_235 (by decide) ?_
  refine n_newa (N := 7260) eX10_init_238 rfl rfl ka_3 rfl rfl sh_201 (by decide +kernel) rfl ?_
  refine n_putR 45 eX10_init_240 fl_X10_100 rfl (by first | exact Or.inl ⟨_, rfl⟩ | exact Or.inr ⟨_, rfl⟩) sh_171 rfl (fun q h => Or.inr (by cases h; exact ⟨rfl, rfl, rfl⟩)) rfl rfl ?_
  refine a_ald0 eX10_init_243 ?_
  refine a_sipush eX10_init_244 (by decide) ?_
  refine n_newa (N := 726) eX10_init_247 rfl rfl ka_3 rfl rfl sh_202 (by decide +kernel) rfl ?_
  refine n_putR 46 eX10_init_249 fl_X10_103 rfl (by first | exact Or.inl ⟨_, rfl⟩ | exact Or.inr ⟨_, rfl⟩) sh_171 rfl (fun q h => Or.inr (by cases h; exact ⟨rfl, rfl, rfl⟩)) rfl rfl ?_
  refine a_ald0 eX10_init_252 ?_
  refine a_bipush eX10_init_253 (by decide) ?_
  refine n_newa (N := 6) eX10_init_255 rfl rfl ka_0 rfl rfl sh_203 (by decide +kernel) rfl ?_
  refine n_putR 48 eX10_init_257 fl_X10_106 rfl (by first | exact Or.inl ⟨_, rfl⟩ | exact Or.inr ⟨_, rfl⟩) sh_171 rfl (fun q h => Or.inr (by cases h; exact ⟨rfl, rfl, rfl⟩)) rfl rfl ?_
  refine a_ald0 eX10_init_260 ?_
  refine a_bipush eX10_init_261 (by decide) ?_
  refine n_newa (N := 6) eX10_init_263 rfl rfl ka_0 rfl rfl sh_204 (by decide +kernel) rfl ?_
  refine n_putR 49 eX10_init_265 fl_X10_109 rfl (by first | exact Or.inl ⟨_, rfl⟩ | exact Or.inr ⟨_, rfl⟩) sh_171 rfl (fun q h => Or.inr (by cases h; exact ⟨rfl, rfl, rfl⟩)) rfl rfl ?_
  refine a_ald0 eX10_init_268 ?_
  refine a_bipush eX10_init_269 (by decide) ?_
  refine n_newa (N := 36) eX10_init_271 rfl rfl ka_0 rfl rfl sh_205 (by decide +kernel) rfl ?_
  refine n_putR 50 eX10_init_273 fl_X10_112 rfl (by first | exact Or.inl ⟨_, rfl⟩ | exact Or.inr ⟨_, rfl⟩) sh_171 rfl (fun q h => Or.inr (by cases h; exact ⟨rfl, rfl, rfl⟩)) rfl rfl ?_
  refine a_ald0 eX10_init_276 ?_
  refine a_bipush eX10_init_277 (by decide) ?_
  refine n_newa (N := 12) eX10_init_279 rfl rfl ka_0 rfl rfl sh_206 (by decide +kernel) rfl ?_
  refine n_putR 51 eX10_init_281 fl_X10_115 rfl (by first | exact Or.inl ⟨_, rfl⟩ | exact Or.inr ⟨_, rfl⟩) sh_171 rfl (fun q h => Or.inr (by cases h; exact ⟨rfl, rfl, rfl⟩)) rfl rfl ?_
  refine a_ald0 eX10_init_284 ?_
  refine a_bipush eX10_init_285 (by decide) ?_
  refine n_newa (N := 12) eX10_init_287 rfl rfl ka_0 rfl rfl sh_207 (by decide +kernel) rfl ?_
  refine n_putR 52 eX10_init_289 fl_X10_118 rfl (by first | exact Or.inl ⟨_, rfl⟩ | exact Or.inr ⟨_, rfl⟩) sh_171 rfl (fun q h => Or.inr (by cases h; exact ⟨rfl, rfl, rfl⟩)) rfl rfl ?_
  refine a_ald0 eX10_init_292 ?_
  refine a_bipush eX10_init_293 (by decide) ?_
  refine n_newa (N := 6) eX10_init_295 rfl rfl ka_0 rfl rfl sh_208 (by decide +kernel) rfl ?_
  refine n_putR 53 eX10_init_297 fl_X10_121 rfl (by first | exact Or.inl ⟨_, rfl⟩ | exact Or.inr ⟨_, rfl⟩) sh_171 rfl (fun q h => Or.inr (by cases h; exact ⟨rfl, rfl, rfl⟩)) rfl rfl ?_
  refine a_vret eX10_init_300 rfl rfl ⟨by decide, by decide⟩ ?_
  exact hk
/-- at the end all references are laid -/
theorem rf0_big {a : Nat} (h : 209 ≤ a) : RF0 a = [] := by
  unfold RF0
  split <;> first | omega | rfl
theorem pr_all : PR 207 = RF false false := by
  have hc : ∀ a, a < 209 → ∀ k, k < (RF0 a).length → (RF0 a).getD k none ≠ none → ASG.contains (a, k) = true := by decide +kernel
  have h4 : ASG.contains (0, 1) = true ∧ ASG.contains (1, 2) = true ∧ ASG.contains (57, 4) = true ∧ ASG.contains (57, 5) = true := by decide +kernel
  have ht : ASG.take 207 = ASG := by decide +kernel
  funext a k
  unfold PR
  rw [ht]
  by_cases q : 0 ≤ k ∧ ASG.contains (a, k.toNat) = true
  · rw [if_pos q]
  · rw [if_neg q]
    unfold RF
    by_cases q0 : a = 0 ∧ k = 1
    · obtain ⟨rfl, rfl⟩ := q0
      exact absurd ⟨by omega, h4.1⟩ q
    rw [if_neg q0]
    by_cases q1 : a = 1 ∧ k = 2
    · obtain ⟨rfl, rfl⟩ := q1
      exact absurd ⟨by omega, h4.2.1⟩ q
    rw [if_neg q1]
    by_cases q2 : a = 57 ∧ k = 4
    · obtain ⟨rfl, rfl⟩ := q2
      exact absurd ⟨by omega, h4.2.2.1⟩ q
    rw [if_neg q2]
    by_cases q3 : a = 57 ∧ k = 5
    · obtain ⟨rfl, rfl⟩ := q3
      exact absurd ⟨by omega, h4.2.2.2⟩ q
    rw [if_neg q3]
    by_cases q4 : k < 0
    · rw [if_pos q4]
    rw [if_neg q4]
    by_cases q5 : 209 ≤ a
    · rw [rf0_big q5]
      rfl
    by_cases q6 : k.toNat < (RF0 a).length
    · by_cases q7 : (RF0 a).getD k.toNat none = none
      · exact q7.symm
      · exact absurd ⟨by omega, hc a (by omega) k.toNat q6 q7⟩ q
    · rw [List.getD_eq_getElem?_getD, List.getElem?_eq_none (by omega)]
      rfl
theorem sh_all : SH.take 209 = SH := by decide +kernel
theorem ni_v (a : Nat) (k : Int) : NI 4 a k = if (a = 3 ∧ (k = 11 ∨ k = 15)) ∨ (a = 13 ∧ (k = 11 ∨ k = 15)) then 1 else 0 := by
  unfold NI
  have e : IASG.take 4 = [(3, 11), (3, 15), (13, 11), (13, 15)] := rfl
  rw [e]
  by_cases q : (a = 3 ∧ (k = 11 ∨ k = 15)) ∨ (a = 13 ∧ (k = 11 ∨ k = 15))
  · rw [if_pos q, if_pos]
    rcases q with ⟨rfl, rfl | rfl⟩ | ⟨rfl, rfl | rfl⟩ <;> exact ⟨by omega, rfl⟩
  · rw [if_neg q, if_neg]
    rintro ⟨q1, q2⟩
    have q3 := List.contains_iff_mem.mp q2
    simp only [List.mem_cons, Prod.mk.injEq, List.mem_nil_iff, or_false] at q3
    omega
