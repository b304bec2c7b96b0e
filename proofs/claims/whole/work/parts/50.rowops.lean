set_option maxHeartbeats 4000000 in
set_option maxRecDepth 100000 in
theorem c_X2_becomeEmpty {l : Launch} {σ : aw_S} {Post : Option Value → aw_S → Prop} {d : Nat} (hd : isDay d) {i : Int} (hi : 0 ≤ i ∧ i < ((16 : Nat) : Int)) {p : Int} (hk : Post none (aw_si (aw_si (aw_si (aw_si σ (d + 12 + i.toNat) 1 0) (d + 12 + i.toNat) 2 p) (d + 12 + i.toNat) 3 (-1)) (d + 12 + i.toNat) 4 (-1))) : AE l yX2_becomeEmpty cX2_becomeEmpty 2 (none : Option Jvm.ClassFile.FieldType) 0 0 0 0 SH SH σ [.ref (d + 12 + i.toNat), .int (jI p)] Post := by
  show AW l yX2_becomeEmpty cX2_becomeEmpty 2 (none : Option Jvm.ClassFile.FieldType) 0 0 0 0 SH Post SH 0 0 σ 0 [some (.ref (d + 12 + i.toNat)), some (.int (jI p))] []
  refine a_ald0 eX2_becomeEmpty_0 ?_
  refine a_iconst eX2_becomeEmpty_1 ?_
  refine a_putI 1 eX2_becomeEmpty_2 fl_X2_38 rfl rfl (sh_cab hd hi) (fun q h => Or.inl (by cases h; rfl)) ?_
  refine a_ald0 eX2_becomeEmpty_5 ?_
  refine a_ild1 eX2_becomeEmpty_6 ?_
  refine a_putI 2 eX2_becomeEmpty_7 fl_X2_41 rfl rfl (sh_cab hd hi) (fun q h => Or.inl (by cases h; rfl)) ?_
  refine a_ald0 eX2_becomeEmpty_10 ?_
  refine a_iconst eX2_becomeEmpty_11 ?_
  refine a_putI 3 eX2_becomeEmpty_12 fl_X2_44 rfl rfl (sh_cab hd hi) (fun q h => Or.inl (by cases h; rfl)) ?_
  refine a_ald0 eX2_becomeEmpty_15 ?_
  refine a_iconst eX2_becomeEmpty_16 ?_
  refine a_putI 4 eX2_becomeEmpty_17 fl_X2_47 rfl rfl (sh_cab hd hi) (fun q h => Or.inl (by cases h; rfl)) ?_
  refine a_vret eX2_becomeEmpty_20 rfl rfl ⟨Nat.zero_le _, Nat.zero_le _⟩ ?_
  exact hk

set_option maxHeartbeats 4000000 in
set_option maxRecDepth 100000 in
theorem c_X2_begin {l : Launch} {σ : aw_S} {Post : Option Value → aw_S → Prop} {d : Nat} (hd : isDay d) {i : Int} (hi : 0 ≤ i ∧ i < ((16 : Nat) : Int)) {z p : Int} (hk : Post none (aw_si (aw_si (aw_si (aw_si (aw_si (aw_si (aw_si (aw_si (aw_si (aw_si (aw_si σ (d + 12 + i.toNat) 0 z) (d + 12 + i.toNat) 5 (-1)) (d + 12 + i.toNat) 6 (-1)) (d + 12 + i.toNat) 7 0) (d + 12 + i.toNat) 8 0) (d + 12 + i.toNat) 9 (-1)) (d + 12 + i.toNat) 10 0) (d + 12 + i.toNat) 1 0) (d + 12 + i.toNat) 2 p) (d + 12 + i.toNat) 3 (-1)) (d + 12 + i.toNat) 4 (-1))) : AE l yX2_begin cX2_begin 3 (none : Option Jvm.ClassFile.FieldType) 1 21 0 0 SH SH σ [.ref (d + 12 + i.toNat), .int (jI z), .int (jI p)] Post := by
  show AW l yX2_begin cX2_begin 3 (none : Option Jvm.ClassFile.FieldType) 1 21 0 0 SH Post SH 0 0 σ 0 [some (.ref (d + 12 + i.toNat)), some (.int (jI z)), some (.int (jI p))] []
  refine a_ald0 eX2_begin_0 ?_
  refine a_ild1 eX2_begin_1 ?_
  refine a_putI 0 eX2_begin_2 fl_X2_9 rfl rfl (sh_cab hd hi) (fun q h => Or.inl (by cases h; rfl)) ?_
  refine a_ald0 eX2_begin_5 ?_
  refine a_iconst eX2_begin_6 ?_
  refine a_putI 5 eX2_begin_7 fl_X2_15 rfl rfl (sh_cab hd hi) (fun q h => Or.inl (by cases h; rfl)) ?_
  refine a_ald0 eX2_begin_10 ?_
  refine a_iconst eX2_begin_11 ?_
  refine a_putI 6 eX2_begin_12 fl_X2_18 rfl rfl (sh_cab hd hi) (fun q h => Or.inl (by cases h; rfl)) ?_
  refine a_ald0 eX2_begin_15 ?_
  refine a_iconst eX2_begin_16 ?_
  refine a_putI 7 eX2_begin_17 fl_X2_21 rfl rfl (sh_cab hd hi) (fun q h => Or.inl (by cases h; rfl)) ?_
  refine a_ald0 eX2_begin_20 ?_
  refine a_iconst eX2_begin_21 ?_
  refine a_putI 8 eX2_begin_22 fl_X2_24 rfl rfl (sh_cab hd hi) (fun q h => Or.inl (by cases h; rfl)) ?_
  refine a_ald0 eX2_begin_25 ?_
  refine a_iconst eX2_begin_26 ?_
  refine a_putI 9 eX2_begin_27 fl_X2_27 rfl rfl (sh_cab hd hi) (fun q h => Or.inl (by cases h; rfl)) ?_
  refine a_ald0 eX2_begin_30 ?_
  refine a_iconst eX2_begin_31 ?_
  refine a_putZ 10 eX2_begin_32 fl_X2_30 rfl rfl (by first | exact Or.inl rfl | exact Or.inr rfl | omega) (sh_cab hd hi) (fun q h => Or.inl (by cases h; rfl)) ?_
  refine a_ald0 eX2_begin_35 ?_
  refine a_ild2 eX2_begin_36 ?_
  refine a_cV1 eX2_begin_37 lk_X2_34 mV_X2_becomeEmpty (sh_cab hd hi) ⟨_, rfl, rfl⟩ mt_X2_becomeEmpty rfl rfl rfl rfl rfl (c_X2_becomeEmpty hd hi ?_)
  dsimp only [Option.toList, List.cons_append, List.nil_append]
  refine a_vret eX2_begin_40 rfl rfl ⟨Nat.zero_le _, Nat.zero_le _⟩ ?_
  exact hk

set_option maxHeartbeats 4000000 in
set_option maxRecDepth 100000 in
theorem lp_putInRow {l : Launch} {σ : aw_S} {Post : Option Value → aw_S → Prop} {tw cs : Bool} (hR : σ.2.2 = RF tw cs) {c r q s : Int} (hc : 0 ≤ c ∧ c < 16) (hr : 0 ≤ r ∧ r < 6) (hs : σ.1 (21 + 9) r = s) (hs2 : 0 ≤ s ∧ s < 16) (hq : 0 ≤ q ∧ q ≤ s) (hk : Post none (aw_si (aw_si (aw_si (aw_sa σ (21 + 3 + r.toNat) (fun j => if j < q then σ.1 (21 + 3 + r.toNat) j else if j = q then c else if j ≤ s then σ.1 (21 + 3 + r.toNat) (j - 1) else σ.1 (21 + 3 + r.toNat) j)) (21 + 9) r (s + 1)) (21 + 12 + c.toNat) 1 2) (21 + 12 + c.toNat) 3 r))  : ∀ (n : Nat) (k : Int), ((k - q).toNat ≤ n) → (q ≤ k ∧ k ≤ s) → AW l yX5_putInRow cX5_putInRow 5 (none : Option Jvm.ClassFile.FieldType) 1 22 0 0 SH Post SH 0 0 (aw_sa σ (21 + 3 + r.toNat) (fun j => if k < j ∧ j ≤ s then σ.1 (21 + 3 + r.toNat) (j - 1) else σ.1 (21 + 3 + r.toNat) j)) 34 [some (.ref 21), some (.int (jI c)), some (.int (jI r)), some (.int (jI q)), some (.int (jI k))] [] := by
  intro n
  induction n with
  | zero =>
    intro k hm hkk
    refine a_ild4 eX5_putInRow_34 ?_
    refine a_ild3 eX5_putInRow_36 ?_
    refine a_icmp_le 66 eX5_putInRow_37 (by decide) (by omega) (fun hT37 => ?_) (fun hF37 => ?_)
    · skip
      refine a_ald0 eX5_putInRow_66 ?_
      refine a_getR 3 (21 + 2) eX5_putInRow_67 fl_X5_19 rfl rfl (sh_day (Or.inl rfl)) ((congrFun (congrFun hR _) _).trans (rf_day_3 (Or.inl rfl))) ?_
      refine a_ild2 eX5_putInRow_70 ?_
      refine a_aald _ eX5_putInRow_71 (sh_day_2 (Or.inl rfl)) rfl rfl rfl (by omega) ((congrFun (congrFun hR _) _).trans (rf_row (Or.inl rfl) (by omega))) ?_
      refine a_ild3 eX5_putInRow_72 ?_
      refine a_ild1 eX5_putInRow_73 ?_
      refine a_iast eX5_putInRow_74 (sh_row (Or.inl rfl) (by omega)) rfl (by omega) ?_
      refine a_ald0 eX5_putInRow_75 ?_
      refine a_getR 4 (21 + 9) eX5_putInRow_76 fl_X5_22 rfl rfl (sh_day (Or.inl rfl)) ((congrFun (congrFun hR _) _).trans (rf_day_4 (Or.inl rfl))) ?_
      refine a_ild2 eX5_putInRow_79 ?_
      refine a_dup2 eX5_putInRow_80 rfl rfl ?_
      refine a_iald eX5_putInRow_81 (sh_day_9 (Or.inl rfl)) rfl (by omega) ?_
      refine a_eqtop (y0 := s) (by (simp only [rd_si, rd_sa, and_self, true_and, and_true, ↓reduceIte]; (repeat (first | rw [if_pos (by omega)] | rw [if_neg (by omega)])); (try omega))) ?_
      refine a_iconst eX5_putInRow_82 ?_
      refine a_iadd eX5_putInRow_83 ?_
      refine a_iast eX5_putInRow_84 (sh_day_9 (Or.inl rfl)) rfl (by omega) ?_
      refine a_ald0 eX5_putInRow_85 ?_
      refine a_getR 2 (21 + 1) eX5_putInRow_86 fl_X5_11 rfl rfl (sh_day (Or.inl rfl)) ((congrFun (congrFun hR _) _).trans (rf_day_2 (Or.inl rfl))) ?_
      refine a_ild1 eX5_putInRow_89 ?_
      refine a_aald _ eX5_putInRow_90 (sh_day_1 (Or.inl rfl)) rfl rfl rfl (by omega) ((congrFun (congrFun hR _) _).trans (rf_cab (Or.inl rfl) (by omega))) ?_
      refine a_iconst eX5_putInRow_91 ?_
      refine a_putI 1 eX5_putInRow_92 fl_X5_67 rfl rfl (sh_cab (Or.inl rfl) (by omega)) (fun q h => Or.inl (by cases h; rfl)) ?_
      refine a_ald0 eX5_putInRow_95 ?_
      refine a_getR 2 (21 + 1) eX5_putInRow_96 fl_X5_11 rfl rfl (sh_day (Or.inl rfl)) ((congrFun (congrFun hR _) _).trans (rf_day_2 (Or.inl rfl))) ?_
      refine a_ild1 eX5_putInRow_99 ?_
      refine a_aald _ eX5_putInRow_100 (sh_day_1 (Or.inl rfl)) rfl rfl rfl (by omega) ((congrFun (congrFun hR _) _).trans (rf_cab (Or.inl rfl) (by omega))) ?_
      refine a_ild2 eX5_putInRow_101 ?_
      refine a_putI 3 eX5_putInRow_102 fl_X5_77 rfl rfl (sh_cab (Or.inl rfl) (by omega)) (fun q h => Or.inl (by cases h; rfl)) ?_
      refine a_vret eX5_putInRow_105 rfl rfl ⟨Nat.zero_le _, Nat.zero_le _⟩ ?_
      refine aw_rets hk ?_
      rw [aw_si_sa]
      congr 3
      refine aw_sa_congr (fun j => ?_)
      have e : k = q := by omega
      subst e
      by_cases q1 : j = k
      · subst q1
        rw [if_pos rfl, if_neg (by omega), if_pos rfl]
      · rw [if_neg q1]
        by_cases q2 : j < k
        · rw [if_neg (by omega), if_pos q2]
        · rw [if_neg q2, if_neg q1]
          by_cases q3 : j ≤ s
          · rw [if_pos (by omega), if_pos q3]
          · rw [if_neg (by omega), if_neg q3]
    · skip
      exfalso; omega
  | succ n ih =>
    intro k hm hkk
    refine a_ild4 eX5_putInRow_34 ?_
    refine a_ild3 eX5_putInRow_36 ?_
    refine a_icmp_le 66 eX5_putInRow_37 (by decide) (by omega) (fun hT37 => ?_) (fun hF37 => ?_)
    · skip
      refine a_ald0 eX5_putInRow_66 ?_
      refine a_getR 3 (21 + 2) eX5_putInRow_67 fl_X5_19 rfl rfl (sh_day (Or.inl rfl)) ((congrFun (congrFun hR _) _).trans (rf_day_3 (Or.inl rfl))) ?_
      refine a_ild2 eX5_putInRow_70 ?_
      refine a_aald _ eX5_putInRow_71 (sh_day_2 (Or.inl rfl)) rfl rfl rfl (by omega) ((congrFun (congrFun hR _) _).trans (rf_row (Or.inl rfl) (by omega))) ?_
      refine a_ild3 eX5_putInRow_72 ?_
      refine a_ild1 eX5_putInRow_73 ?_
      refine a_iast eX5_putInRow_74 (sh_row (Or.inl rfl) (by omega)) rfl (by omega) ?_
      refine a_ald0 eX5_putInRow_75 ?_
      refine a_getR 4 (21 + 9) eX5_putInRow_76 fl_X5_22 rfl rfl (sh_day (Or.inl rfl)) ((congrFun (congrFun hR _) _).trans (rf_day_4 (Or.inl rfl))) ?_
      refine a_ild2 eX5_putInRow_79 ?_
      refine a_dup2 eX5_putInRow_80 rfl rfl ?_
      refine a_iald eX5_putInRow_81 (sh_day_9 (Or.inl rfl)) rfl (by omega) ?_
      refine a_eqtop (y0 := s) (by (simp only [rd_si, rd_sa, and_self, true_and, and_true, ↓reduceIte]; (repeat (first | rw [if_pos (by omega)] | rw [if_neg (by omega)])); (try omega))) ?_
      refine a_iconst eX5_putInRow_82 ?_
      refine a_iadd eX5_putInRow_83 ?_
      refine a_iast eX5_putInRow_84 (sh_day_9 (Or.inl rfl)) rfl (by omega) ?_
      refine a_ald0 eX5_putInRow_85 ?_
      refine a_getR 2 (21 + 1) eX5_putInRow_86 fl_X5_11 rfl rfl (sh_day (Or.inl rfl)) ((congrFun (congrFun hR _) _).trans (rf_day_2 (Or.inl rfl))) ?_
      refine a_ild1 eX5_putInRow_89 ?_
      refine a_aald _ eX5_putInRow_90 (sh_day_1 (Or.inl rfl)) rfl rfl rfl (by omega) ((congrFun (congrFun hR _) _).trans (rf_cab (Or.inl rfl) (by omega))) ?_
      refine a_iconst eX5_putInRow_91 ?_
      refine a_putI 1 eX5_putInRow_92 fl_X5_67 rfl rfl (sh_cab (Or.inl rfl) (by omega)) (fun q h => Or.inl (by cases h; rfl)) ?_
      refine a_ald0 eX5_putInRow_95 ?_
      refine a_getR 2 (21 + 1) eX5_putInRow_96 fl_X5_11 rfl rfl (sh_day (Or.inl rfl)) ((congrFun (congrFun hR _) _).trans (rf_day_2 (Or.inl rfl))) ?_
      refine a_ild1 eX5_putInRow_99 ?_
      refine a_aald _ eX5_putInRow_100 (sh_day_1 (Or.inl rfl)) rfl rfl rfl (by omega) ((congrFun (congrFun hR _) _).trans (rf_cab (Or.inl rfl) (by omega))) ?_
      refine a_ild2 eX5_putInRow_101 ?_
      refine a_putI 3 eX5_putInRow_102 fl_X5_77 rfl rfl (sh_cab (Or.inl rfl) (by omega)) (fun q h => Or.inl (by cases h; rfl)) ?_
      refine a_vret eX5_putInRow_105 rfl rfl ⟨Nat.zero_le _, Nat.zero_le _⟩ ?_
      refine aw_rets hk ?_
      rw [aw_si_sa]
      congr 3
      refine aw_sa_congr (fun j => ?_)
      have e : k = q := by omega
      subst e
      by_cases q1 : j = k
      · subst q1
        rw [if_pos rfl, if_neg (by omega), if_pos rfl]
      · rw [if_neg q1]
        by_cases q2 : j < k
        · rw [if_neg (by omega), if_pos q2]
        · rw [if_neg q2, if_neg q1]
          by_cases q3 : j ≤ s
          · rw [if_pos (by omega), if_pos q3]
          · rw [if_neg (by omega), if_neg q3]
    · skip
      refine a_ald0 eX5_putInRow_40 ?_
      refine a_getR 3 (21 + 2) eX5_putInRow_41 fl_X5_19 rfl rfl (sh_day (Or.inl rfl)) ((congrFun (congrFun hR _) _).trans (rf_day_3 (Or.inl rfl))) ?_
      refine a_ild2 eX5_putInRow_44 ?_
      refine a_aald _ eX5_putInRow_45 (sh_day_2 (Or.inl rfl)) rfl rfl rfl (by omega) ((congrFun (congrFun hR _) _).trans (rf_row (Or.inl rfl) (by omega))) ?_
      refine a_ild4 eX5_putInRow_46 ?_
      refine a_ald0 eX5_putInRow_48 ?_
      refine a_getR 3 (21 + 2) eX5_putInRow_49 fl_X5_19 rfl rfl (sh_day (Or.inl rfl)) ((congrFun (congrFun hR _) _).trans (rf_day_3 (Or.inl rfl))) ?_
      refine a_ild2 eX5_putInRow_52 ?_
      refine a_aald _ eX5_putInRow_53 (sh_day_2 (Or.inl rfl)) rfl rfl rfl (by omega) ((congrFun (congrFun hR _) _).trans (rf_row (Or.inl rfl) (by omega))) ?_
      refine a_ild4 eX5_putInRow_54 ?_
      refine a_iconst eX5_putInRow_56 ?_
      refine a_isub eX5_putInRow_57 ?_
      refine a_iald eX5_putInRow_58 (sh_row (Or.inl rfl) (by omega)) rfl (by omega) ?_
      refine a_eqtop (y0 := σ.1 (21 + 3 + r.toNat) (k - 1)) (by (simp only [rd_si, rd_sa, and_self, true_and, and_true, ↓reduceIte]; (repeat (first | rw [if_pos (by omega)] | rw [if_neg (by omega)])); (try omega))) ?_
      refine a_iast eX5_putInRow_59 (sh_row (Or.inl rfl) (by omega)) rfl (by omega) ?_
      refine a_iinc4 eX5_putInRow_60 (by decide) aw_n2i ?_
      refine a_goto 34 eX5_putInRow_63 (by decide) ?_
      refine AW.st (aw_si_sa σ (21 + 3 + r.toNat) _ k _) ?_
      refine AW.st (aw_sa_congr (g' := fun j => if k + -1 < j ∧ j ≤ s then σ.1 (21 + 3 + r.toNat) (j - 1) else σ.1 (21 + 3 + r.toNat) j) (fun j => ?_)) (ih (k + -1) (by omega) (by omega))
      by_cases q1 : j = k
      · subst q1
        rw [if_pos rfl, if_pos (by omega)]
      · rw [if_neg q1]
        by_cases q2 : k < j ∧ j ≤ s
        · rw [if_pos q2, if_pos (by omega)]
        · rw [if_neg q2, if_neg (by omega)]

set_option maxHeartbeats 4000000 in
set_option maxRecDepth 100000 in
theorem c_X5_putInRow {l : Launch} {σ : aw_S} {Post : Option Value → aw_S → Prop} {tw cs : Bool} (hR : σ.2.2 = RF tw cs) {c r q s : Int} (hc : 0 ≤ c ∧ c < 16) (hr : 0 ≤ r ∧ r < 6) (hs : σ.1 (21 + 9) r = s) (hs2 : 0 ≤ s ∧ s < 16) (hq : 0 ≤ q ∧ q ≤ s) (hk : Post none (aw_si (aw_si (aw_si (aw_sa σ (21 + 3 + r.toNat) (fun j => if j < q then σ.1 (21 + 3 + r.toNat) j else if j = q then c else if j ≤ s then σ.1 (21 + 3 + r.toNat) (j - 1) else σ.1 (21 + 3 + r.toNat) j)) (21 + 9) r (s + 1)) (21 + 12 + c.toNat) 1 2) (21 + 12 + c.toNat) 3 r))  : AE l yX5_putInRow cX5_putInRow 5 (none : Option Jvm.ClassFile.FieldType) 1 22 0 0 SH SH σ [.ref 21, .int (jI c), .int (jI r), .int (jI q)] Post := by
  show AW l yX5_putInRow cX5_putInRow 5 (none : Option Jvm.ClassFile.FieldType) 1 22 0 0 SH Post SH 0 0 σ 0 [some (.ref 21), some (.int (jI c)), some (.int (jI r)), some (.int (jI q)), none] []
  refine a_ald0 eX5_putInRow_0 ?_
  refine a_getR 4 (21 + 9) eX5_putInRow_1 fl_X5_22 rfl rfl (sh_day (Or.inl rfl)) ((congrFun (congrFun hR _) _).trans (rf_day_4 (Or.inl rfl))) ?_
  refine a_ild2 eX5_putInRow_4 ?_
  refine a_iald eX5_putInRow_5 (sh_day_9 (Or.inl rfl)) rfl (by omega) ?_
  refine a_bipush eX5_putInRow_6 (by decide) ?_
  refine a_icmp_ge 25 eX5_putInRow_8 (by decide) (by omega) (fun hT8 => ?_) (fun hF8 => ?_)
  · skip
    refine a_vret eX5_putInRow_25 rfl rfl ⟨Nat.zero_le _, Nat.zero_le _⟩ ?_
    exfalso; omega
  · skip
    refine a_ild3 eX5_putInRow_11 ?_
    refine a_iconst eX5_putInRow_12 ?_
    refine a_ald0 eX5_putInRow_13 ?_
    refine a_getR 4 (21 + 9) eX5_putInRow_14 fl_X5_22 rfl rfl (sh_day (Or.inl rfl)) ((congrFun (congrFun hR _) _).trans (rf_day_4 (Or.inl rfl))) ?_
    refine a_ild2 eX5_putInRow_17 ?_
    refine a_iald eX5_putInRow_18 (sh_day_9 (Or.inl rfl)) rfl (by omega) ?_
    refine a_cN3 eX5_putInRow_19 ln_X5_59 mS_X9_within mt_X9_within rfl rfl rfl rfl rfl rfl rfl (c_X9_within (by omega) (fun hT19 => ?_) (fun hF19 => ?_))
    · skip
      dsimp only [Option.toList, List.cons_append, List.nil_append]
      refine a_if_ne 26 eX5_putInRow_22 (by decide) (by omega) (fun _ => ?_) (fun h => absurd h (by decide))
      refine a_ald0 eX5_putInRow_26 ?_
      refine a_getR 4 (21 + 9) eX5_putInRow_27 fl_X5_22 rfl rfl (sh_day (Or.inl rfl)) ((congrFun (congrFun hR _) _).trans (rf_day_4 (Or.inl rfl))) ?_
      refine a_ild2 eX5_putInRow_30 ?_
      refine a_iald eX5_putInRow_31 (sh_day_9 (Or.inl rfl)) rfl (by omega) ?_
      refine a_eqtop (y0 := s) (by exact hs) ?_
      refine a_ist4 eX5_putInRow_32 (by decide) aw_n2i ?_
      exact AW.st (aw_sa_self σ (21 + 3 + r.toNat) (g := fun j => if s < j ∧ j ≤ s then σ.1 (21 + 3 + r.toNat) (j - 1) else σ.1 (21 + 3 + r.toNat) j) (fun j => if_neg (by omega))).symm (lp_putInRow hR hc hr hs hs2 hq hk _ s (Nat.le_refl _) (by omega))
    · skip
      dsimp only [Option.toList, List.cons_append, List.nil_append]
      refine a_if_ne 26 eX5_putInRow_22 (by decide) (by omega) (fun h => absurd h (by decide)) (fun _ => ?_)
      refine a_vret eX5_putInRow_25 rfl rfl ⟨Nat.zero_le _, Nat.zero_le _⟩ ?_
      exfalso; omega
