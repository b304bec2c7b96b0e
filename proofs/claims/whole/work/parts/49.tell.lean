/-- what a pass tells -/
def tlw (m : mS) (c rk law many : Int) (w : Int) : Int := if w = 0 then m 0 3 else if w = 1 then c else if w = 2 then rk else if w = 3 then law else many
def mtell (m : mS) (c rk law many : Int) : mS := if many ≤ 0 then m else if m 0 5 = 40 then mps m 40 (fun i w => if i = 39 then tlw m c rk law many w else m (300 + i + 1) w) else mps m (m 0 5 + 1) (fun i w => if i = m 0 5 then tlw m c rk law many w else m (300 + i) w)
theorem frm_tell {m : mS} {c rk law many : Int} : frm m (mtell m c rk law many) := by
  unfold mtell
  split
  · exact frm_rf m
  · split <;> exact frm_mps
set_option maxHeartbeats 4000000 in
set_option maxRecDepth 100000 in
theorem c_X5_tell {l : Launch} {σ : aw_S} {Post : Option Value → aw_S → Prop} {tw cs : Bool} (hR : σ.2.2 = RF tw cs) {N : Int} {m : mS} (hD : dayC σ 21 0 m) (wC : wfCity m) (wD : wfDay m 0 N) (hN : 0 ≤ N ∧ N ≤ 1000) {c rk law many : Int} (hc : 0 ≤ c ∧ c < m 0 4) (hrk : m (100 + c) 3 = rk) (hr : (-2147483648 ≤ law ∧ law ≤ 2147483647) ∧ (-2147483648 ≤ many ∧ many ≤ 2147483647)) (hk : ∀ σ', dayC σ' 21 0 (mtell m c rk law many) → frC σ σ' → Post none σ') : AE l yX5_tell cX5_tell 5 (none : Option Jvm.ClassFile.FieldType) 1 26 0 0 SH SH σ [.ref 21, .int (jI c), .int (jI law), .int (jI many)] Post := by
  show AW l yX5_tell cX5_tell 5 (none : Option Jvm.ClassFile.FieldType) 1 26 0 0 SH Post SH 0 0 σ 0 [some (.ref 21), some (.int (jI c)), some (.int (jI law)), some (.int (jI many)), none] []
  obtain ⟨d1, d2, d3, d4, d5, d6, d7⟩ := id hD
  obtain ⟨w1, w2, w3, w4, w5, w6, w7, w8⟩ := id wC
  obtain ⟨v1, v2, v3, v4, v5, v6, v7, v8⟩ := id wD
  simp only [Int.zero_add] at d4 d5 d6 d7 v4 v5 v6 v7 v8
  refine a_ild3 eX5_tell_0 ?_
  refine a_if_gt 5 eX5_tell_1 (by decide) (by omega) (fun hT1 => ?_) (fun hF1 => ?_)
  · skip
    refine a_ald0 eX5_tell_5 ?_
    refine a_getI 6 eX5_tell_6 fl_X5_40 rfl rfl (sh_day (Or.inl rfl)) ?_
    refine a_bipush eX5_tell_9 (by decide) ?_
    refine a_icmp_lt 39 eX5_tell_11 (by decide) (by omega) (fun hT11 => ?_) (fun hF11 => ?_)
    · skip
      refine a_ald0 eX5_tell_39 ?_
      refine a_getI 6 eX5_tell_40 fl_X5_40 rfl rfl (sh_day (Or.inl rfl)) ?_
      refine a_eqtop (y0 := m 0 5) (by omega) ?_
      refine a_iconst eX5_tell_43 ?_
      refine a_imul eX5_tell_44 ?_
      refine a_ist4 eX5_tell_45 (by decide) aw_n2i ?_
      refine a_ald0 eX5_tell_47 ?_
      refine a_getR 7 (21 + 11) eX5_tell_48 fl_X5_29 rfl rfl (sh_day (Or.inl rfl)) ((congrFun (congrFun hR _) _).trans (rf_day_7 (Or.inl rfl))) ?_
      refine a_ild4 eX5_tell_51 ?_
      refine a_ald0 eX5_tell_53 ?_
      refine a_getI 0 eX5_tell_54 fl_X5_33 rfl rfl (sh_day (Or.inl rfl)) ?_
      refine a_iast eX5_tell_57 (sh_day_11 (Or.inl rfl)) rfl (by omega) ?_
      refine a_ald0 eX5_tell_58 ?_
      refine a_getR 7 (21 + 11) eX5_tell_59 fl_X5_29 rfl rfl (sh_day (Or.inl rfl)) ((congrFun (congrFun hR _) _).trans (rf_day_7 (Or.inl rfl))) ?_
      refine a_ild4 eX5_tell_62 ?_
      refine a_iconst eX5_tell_64 ?_
      refine a_iadd eX5_tell_65 ?_
      refine a_ild1 eX5_tell_66 ?_
      refine a_iast eX5_tell_67 (sh_day_11 (Or.inl rfl)) rfl (by omega) ?_
      refine a_ald0 eX5_tell_68 ?_
      refine a_getR 7 (21 + 11) eX5_tell_69 fl_X5_29 rfl rfl (sh_day (Or.inl rfl)) ((congrFun (congrFun hR _) _).trans (rf_day_7 (Or.inl rfl))) ?_
      refine a_ild4 eX5_tell_72 ?_
      refine a_iconst eX5_tell_74 ?_
      refine a_iadd eX5_tell_75 ?_
      refine a_ald0 eX5_tell_76 ?_
      refine a_getR 2 (21 + 1) eX5_tell_77 fl_X5_11 rfl rfl (sh_day (Or.inl rfl)) ((congrFun (congrFun hR _) _).trans (rf_day_2 (Or.inl rfl))) ?_
      refine a_ild1 eX5_tell_80 ?_
      refine a_aald _ eX5_tell_81 (sh_day_1 (Or.inl rfl)) rfl rfl rfl (by omega) ((congrFun (congrFun hR _) _).trans (rf_cab (Or.inl rfl) (by omega))) ?_
      refine a_getI 3 eX5_tell_82 fl_X5_77 rfl rfl (sh_cab (Or.inl rfl) (by omega)) ?_
      refine a_eqtop (y0 := rk) (by (try simp only [rd_si, rd_sa, and_self, true_and, and_true, ↓reduceIte]); (repeat (first | rw [if_pos (by omega)] | rw [if_neg (by omega)])); exact (d5 c 3 (by omega) (by omega) (by omega) (by omega)).trans hrk) ?_
      refine a_iast eX5_tell_85 (sh_day_11 (Or.inl rfl)) rfl (by omega) ?_
      refine a_ald0 eX5_tell_86 ?_
      refine a_getR 7 (21 + 11) eX5_tell_87 fl_X5_29 rfl rfl (sh_day (Or.inl rfl)) ((congrFun (congrFun hR _) _).trans (rf_day_7 (Or.inl rfl))) ?_
      refine a_ild4 eX5_tell_90 ?_
      refine a_iconst eX5_tell_92 ?_
      refine a_iadd eX5_tell_93 ?_
      refine a_ild2 eX5_tell_94 ?_
      refine a_iast eX5_tell_95 (sh_day_11 (Or.inl rfl)) rfl (by omega) ?_
      refine a_ald0 eX5_tell_96 ?_
      refine a_getR 7 (21 + 11) eX5_tell_97 fl_X5_29 rfl rfl (sh_day (Or.inl rfl)) ((congrFun (congrFun hR _) _).trans (rf_day_7 (Or.inl rfl))) ?_
      refine a_ild4 eX5_tell_100 ?_
      refine a_iconst eX5_tell_102 ?_
      refine a_iadd eX5_tell_103 ?_
      refine a_ild3 eX5_tell_104 ?_
      refine a_iast eX5_tell_105 (sh_day_11 (Or.inl rfl)) rfl (by omega) ?_
      refine a_ald0 eX5_tell_106 ?_
      refine a_dup eX5_tell_107 rfl ?_
      refine a_getI 6 eX5_tell_108 fl_X5_40 rfl rfl (sh_day (Or.inl rfl)) ?_
      refine a_eqtop (y0 := m 0 5) (by (simp only [rd_si, rd_sa, and_self, true_and, and_true, ↓reduceIte]; (repeat (first | rw [if_pos (by omega)] | rw [if_neg (by omega)])); (try omega))) ?_
      refine a_iconst eX5_tell_111 ?_
      refine a_iadd eX5_tell_112 ?_
      refine a_putI 6 eX5_tell_113 fl_X5_40 rfl rfl (sh_day (Or.inl rfl)) (fun q h => Or.inl (by cases h; rfl)) ?_
      refine a_vret eX5_tell_116 rfl rfl ⟨Nat.zero_le _, Nat.zero_le _⟩ ?_
      refine hk _ ?_ ⟨fun a j h => by simp only [rd_si, rd_sa, and_self, true_and, and_true, ↓reduceIte]; (repeat rw [if_neg (by omega)]), rfl⟩
      rw [show mtell m c rk law many = mps m (m 0 5 + 1) (fun i w => if i = m 0 5 then tlw m c rk law many w else m (300 + i) w) by unfold mtell; rw [if_neg (by omega), if_neg (by omega)]]
      refine dayC_pass (by omega) hD (fun a j h1 h2 => by simp only [rd_si, rd_sa, and_self, true_and, and_true, ↓reduceIte]; (repeat rw [if_neg (by omega)])) (by (simp only [rd_si, rd_sa, and_self, true_and, and_true, ↓reduceIte]; (repeat (first | rw [if_pos (by omega)] | rw [if_neg (by omega)])); (try omega))) (fun i w i1 i2 u1 u2 => ?_) (by omega)
      simp only [rd_si, rd_sa, and_self, true_and, and_true, ↓reduceIte]
      by_cases q : i = m 0 5
      · subst q
        unfold tlw
        rcases (show w = 0 ∨ w = 1 ∨ w = 2 ∨ w = 3 ∨ w = 4 by omega) with rfl | rfl | rfl | rfl | rfl
        · (repeat (first | rw [if_pos (by omega)] | rw [if_neg (by omega)])); (try omega)
        · (repeat (first | rw [if_pos (by omega)] | rw [if_neg (by omega)])); (try rfl)
        · (repeat (first | rw [if_pos (by omega)] | rw [if_neg (by omega)])); (try rfl)
        · (repeat (first | rw [if_pos (by omega)] | rw [if_neg (by omega)])); (try rfl)
        · (repeat (first | rw [if_pos (by omega)] | rw [if_neg (by omega)])); (try rfl)
      · have e7 := d7 i w (by omega) (by omega) (by omega) (by omega)
        (repeat (first | rw [if_pos (by omega)] | rw [if_neg (by omega)]))
        exact e7
    · skip
      refine a_ald0 eX5_tell_14 ?_
      refine a_bipush eX5_tell_15 (by decide) ?_
      refine a_putI 6 eX5_tell_17 fl_X5_40 rfl rfl (sh_day (Or.inl rfl)) (fun q h => Or.inl (by cases h; rfl)) ?_
      refine a_ald0 eX5_tell_20 ?_
      refine a_getR 7 (21 + 11) eX5_tell_21 fl_X5_29 rfl rfl (sh_day (Or.inl rfl)) ((congrFun (congrFun hR _) _).trans (rf_day_7 (Or.inl rfl))) ?_
      refine a_iconst eX5_tell_24 ?_
      refine a_ald0 eX5_tell_25 ?_
      refine a_getR 7 (21 + 11) eX5_tell_26 fl_X5_29 rfl rfl (sh_day (Or.inl rfl)) ((congrFun (congrFun hR _) _).trans (rf_day_7 (Or.inl rfl))) ?_
      refine a_iconst eX5_tell_29 ?_
      refine a_ald0 eX5_tell_30 ?_
      refine a_getI 6 eX5_tell_31 fl_X5_40 rfl rfl (sh_day (Or.inl rfl)) ?_
      refine a_eqtop (y0 := 39) (by (simp only [rd_si, rd_sa, and_self, true_and, and_true, ↓reduceIte]; (repeat (first | rw [if_pos (by omega)] | rw [if_neg (by omega)])); (try omega))) ?_
      refine a_iconst eX5_tell_34 ?_
      refine a_imul eX5_tell_35 ?_
      refine a_copy eX5_tell_36 lk_X5_53 (sh_day_11 (Or.inl rfl)) (sh_day_11 (Or.inl rfl)) rfl (by omega) rfl rfl ?_
      refine a_ald0 eX5_tell_39 ?_
      refine a_getI 6 eX5_tell_40 fl_X5_40 rfl rfl (sh_day (Or.inl rfl)) ?_
      refine a_eqtop (y0 := 39) (by (simp only [rd_si, rd_sa, and_self, true_and, and_true, ↓reduceIte]; (repeat (first | rw [if_pos (by omega)] | rw [if_neg (by omega)])); (try omega))) ?_
      refine a_iconst eX5_tell_43 ?_
      refine a_imul eX5_tell_44 ?_
      refine a_ist4 eX5_tell_45 (by decide) aw_n2i ?_
      refine a_ald0 eX5_tell_47 ?_
      refine a_getR 7 (21 + 11) eX5_tell_48 fl_X5_29 rfl rfl (sh_day (Or.inl rfl)) ((congrFun (congrFun hR _) _).trans (rf_day_7 (Or.inl rfl))) ?_
      refine a_ild4 eX5_tell_51 ?_
      refine a_ald0 eX5_tell_53 ?_
      refine a_getI 0 eX5_tell_54 fl_X5_33 rfl rfl (sh_day (Or.inl rfl)) ?_
      refine a_iast eX5_tell_57 (sh_day_11 (Or.inl rfl)) rfl (by omega) ?_
      refine a_ald0 eX5_tell_58 ?_
      refine a_getR 7 (21 + 11) eX5_tell_59 fl_X5_29 rfl rfl (sh_day (Or.inl rfl)) ((congrFun (congrFun hR _) _).trans (rf_day_7 (Or.inl rfl))) ?_
      refine a_ild4 eX5_tell_62 ?_
      refine a_iconst eX5_tell_64 ?_
      refine a_iadd eX5_tell_65 ?_
      refine a_ild1 eX5_tell_66 ?_
      refine a_iast eX5_tell_67 (sh_day_11 (Or.inl rfl)) rfl (by omega) ?_
      refine a_ald0 eX5_tell_68 ?_
      refine a_getR 7 (21 + 11) eX5_tell_69 fl_X5_29 rfl rfl (sh_day (Or.inl rfl)) ((congrFun (congrFun hR _) _).trans (rf_day_7 (Or.inl rfl))) ?_
      refine a_ild4 eX5_tell_72 ?_
      refine a_iconst eX5_tell_74 ?_
      refine a_iadd eX5_tell_75 ?_
      refine a_ald0 eX5_tell_76 ?_
      refine a_getR 2 (21 + 1) eX5_tell_77 fl_X5_11 rfl rfl (sh_day (Or.inl rfl)) ((congrFun (congrFun hR _) _).trans (rf_day_2 (Or.inl rfl))) ?_
      refine a_ild1 eX5_tell_80 ?_
      refine a_aald _ eX5_tell_81 (sh_day_1 (Or.inl rfl)) rfl rfl rfl (by omega) ((congrFun (congrFun hR _) _).trans (rf_cab (Or.inl rfl) (by omega))) ?_
      refine a_getI 3 eX5_tell_82 fl_X5_77 rfl rfl (sh_cab (Or.inl rfl) (by omega)) ?_
      refine a_eqtop (y0 := rk) (by (try simp only [rd_si, rd_sa, and_self, true_and, and_true, ↓reduceIte]); (repeat (first | rw [if_pos (by omega)] | rw [if_neg (by omega)])); exact (d5 c 3 (by omega) (by omega) (by omega) (by omega)).trans hrk) ?_
      refine a_iast eX5_tell_85 (sh_day_11 (Or.inl rfl)) rfl (by omega) ?_
      refine a_ald0 eX5_tell_86 ?_
      refine a_getR 7 (21 + 11) eX5_tell_87 fl_X5_29 rfl rfl (sh_day (Or.inl rfl)) ((congrFun (congrFun hR _) _).trans (rf_day_7 (Or.inl rfl))) ?_
      refine a_ild4 eX5_tell_90 ?_
      refine a_iconst eX5_tell_92 ?_
      refine a_iadd eX5_tell_93 ?_
      refine a_ild2 eX5_tell_94 ?_
      refine a_iast eX5_tell_95 (sh_day_11 (Or.inl rfl)) rfl (by omega) ?_
      refine a_ald0 eX5_tell_96 ?_
      refine a_getR 7 (21 + 11) eX5_tell_97 fl_X5_29 rfl rfl (sh_day (Or.inl rfl)) ((congrFun (congrFun hR _) _).trans (rf_day_7 (Or.inl rfl))) ?_
      refine a_ild4 eX5_tell_100 ?_
      refine a_iconst eX5_tell_102 ?_
      refine a_iadd eX5_tell_103 ?_
      refine a_ild3 eX5_tell_104 ?_
      refine a_iast eX5_tell_105 (sh_day_11 (Or.inl rfl)) rfl (by omega) ?_
      refine a_ald0 eX5_tell_106 ?_
      refine a_dup eX5_tell_107 rfl ?_
      refine a_getI 6 eX5_tell_108 fl_X5_40 rfl rfl (sh_day (Or.inl rfl)) ?_
      refine a_eqtop (y0 := 39) (by (simp only [rd_si, rd_sa, and_self, true_and, and_true, ↓reduceIte]; (repeat (first | rw [if_pos (by omega)] | rw [if_neg (by omega)])); (try omega))) ?_
      refine a_iconst eX5_tell_111 ?_
      refine a_iadd eX5_tell_112 ?_
      refine a_putI 6 eX5_tell_113 fl_X5_40 rfl rfl (sh_day (Or.inl rfl)) (fun q h => Or.inl (by cases h; rfl)) ?_
      refine a_vret eX5_tell_116 rfl rfl ⟨Nat.zero_le _, Nat.zero_le _⟩ ?_
      refine hk _ ?_ ⟨fun a j h => by simp only [rd_si, rd_sa, and_self, true_and, and_true, ↓reduceIte]; (repeat rw [if_neg (by omega)]), rfl⟩
      rw [show mtell m c rk law many = mps m 40 (fun i w => if i = 39 then tlw m c rk law many w else m (300 + i + 1) w) by unfold mtell; rw [if_neg (by omega), if_pos (by omega)]]
      refine dayC_pass (by omega) hD (fun a j h1 h2 => by simp only [rd_si, rd_sa, and_self, true_and, and_true, ↓reduceIte]; (repeat rw [if_neg (by omega)])) (by (simp only [rd_si, rd_sa, and_self, true_and, and_true, ↓reduceIte]; (repeat (first | rw [if_pos (by omega)] | rw [if_neg (by omega)])); (try omega))) (fun i w i1 i2 u1 u2 => ?_) (by omega)
      simp only [rd_si, rd_sa, and_self, true_and, and_true, ↓reduceIte]
      by_cases q : i = 39
      · subst q
        unfold tlw
        rcases (show w = 0 ∨ w = 1 ∨ w = 2 ∨ w = 3 ∨ w = 4 by omega) with rfl | rfl | rfl | rfl | rfl
        · (repeat (first | rw [if_pos (by omega)] | rw [if_neg (by omega)])); (try omega)
        · (repeat (first | rw [if_pos (by omega)] | rw [if_neg (by omega)])); (try rfl)
        · (repeat (first | rw [if_pos (by omega)] | rw [if_neg (by omega)])); (try rfl)
        · (repeat (first | rw [if_pos (by omega)] | rw [if_neg (by omega)])); (try rfl)
        · (repeat (first | rw [if_pos (by omega)] | rw [if_neg (by omega)])); (try rfl)
      · have e7 := d7 (i + 1) w (by omega) (by omega) (by omega) (by omega)
        (repeat (first | rw [if_pos (by omega)] | rw [if_neg (by omega)]))
        rw [show (5 + (5 * i + w - 0) : Int) = 5 * (i + 1) + w by omega, e7, Int.add_assoc]
  · skip
    refine a_vret eX5_tell_4 rfl rfl ⟨Nat.zero_le _, Nat.zero_le _⟩ ?_
    refine hk _ (by rw [show mtell m c rk law many = m from if_pos (by omega)]; exact hD) (frC_rf σ)

set_option maxHeartbeats 4000000 in
set_option maxRecDepth 100000 in
theorem lp_passed {l : Launch} {σ : aw_S} {Post : Option Value → aw_S → Prop} {tw cs : Bool} (hR : σ.2.2 = RF tw cs) {N : Int} {m : mS} (hM : dayM σ m) (wC : wfCity m) (wD : wfDay m 0 N) (hN : 0 ≤ N ∧ N ≤ 1000) {c rk law many : Int} (hr : (-2147483648 ≤ c ∧ c ≤ 2147483647) ∧ (-2147483648 ≤ rk ∧ rk ≤ 2147483647) ∧ (-2147483648 ≤ law ∧ law ≤ 2147483647) ∧ (-2147483648 ≤ many ∧ many ≤ 2147483647)) (hmn : 0 ≤ many) (hk : ∀ σ', dayM σ' (mtell m c rk law many) → frM σ σ' → Post none σ') (h40 : m 0 5 = 40) (h0 : 0 < many) : ∀ (n : Nat) (k : Int), ((200 - k).toNat ≤ n) → (5 ≤ k ∧ k ≤ 200) → AW l yX10_passed cX10_passed 6 (none : Option Jvm.ClassFile.FieldType) 0 0 0 0 SH Post SH 0 0 (aw_sa σ 185 (fun j => if 0 ≤ j ∧ j < k - 5 then σ.1 185 (j + 5) else σ.1 185 j)) 18 [some (.ref 171), some (.int (jI c)), some (.int (jI rk)), some (.int (jI law)), some (.int (jI many)), some (.int (jI k))] [] := by
  intro n
  induction n with
  | zero =>
    intro k hm hkk
    obtain ⟨d1, d2, d3, d4, d5, d6, d7⟩ := id hM
    obtain ⟨w1, w2, w3, w4, w5, w6, w7, w8⟩ := id wC
    obtain ⟨v1, v2, v3, v4, v5, v6, v7, v8⟩ := id wD
    simp only [Int.zero_add] at d4 d5 d6 d7 v4 v5 v6 v7 v8
    refine a_ild5 eX10_passed_18 ?_
    refine a_sipush eX10_passed_20 (by decide) ?_
    refine a_icmp_ge 48 eX10_passed_23 (by decide) (by omega) (fun hT23 => ?_) (fun hF23 => ?_)
    · skip
      refine a_ald0 eX10_passed_48 ?_
      refine a_dup eX10_passed_49 rfl ?_
      refine a_getI 26 eX10_passed_50 fl_X10_249 rfl rfl sh_171 ?_
      refine a_eqtop (y0 := 40) (by (simp only [rd_si, rd_sa, and_self, true_and, and_true, ↓reduceIte]; (repeat (first | rw [if_pos (by omega)] | rw [if_neg (by omega)])); (try omega))) ?_
      refine a_iconst eX10_passed_53 ?_
      refine a_isub eX10_passed_54 ?_
      refine a_putI 26 eX10_passed_55 fl_X10_249 rfl rfl sh_171 (fun q h => Or.inl (by cases h; rfl)) ?_
      refine a_iconst eX10_passed_58 ?_
      refine a_ald0 eX10_passed_59 ?_
      refine a_getI 26 eX10_passed_60 fl_X10_249 rfl rfl sh_171 ?_
      refine a_eqtop (y0 := 39) (by (simp only [rd_si, rd_sa, and_self, true_and, and_true, ↓reduceIte]; (repeat (first | rw [if_pos (by omega)] | rw [if_neg (by omega)])); (try omega))) ?_
      refine a_imul eX10_passed_63 ?_
      refine a_ist5 eX10_passed_64 (by decide) aw_n2i ?_
      refine a_ald0 eX10_passed_66 ?_
      refine a_getR 27 185 eX10_passed_67 fl_X10_51 rfl rfl sh_171 ((congrFun (congrFun hR _) _).trans rf_171_27) ?_
      refine a_ild5 eX10_passed_70 ?_
      refine a_ald0 eX10_passed_72 ?_
      refine a_getI 21 eX10_passed_73 fl_X10_243 rfl rfl sh_171 ?_
      refine a_eqtop (y0 := m 0 3) (by (simp only [rd_si, rd_sa, and_self, true_and, and_true, ↓reduceIte]; (repeat (first | rw [if_pos (by omega)] | rw [if_neg (by omega)])); (try omega))) ?_
      refine a_iast eX10_passed_76 sh_185 rfl (by omega) ?_
      refine a_ald0 eX10_passed_77 ?_
      refine a_getR 27 185 eX10_passed_78 fl_X10_51 rfl rfl sh_171 ((congrFun (congrFun hR _) _).trans rf_171_27) ?_
      refine a_ild5 eX10_passed_81 ?_
      refine a_iconst eX10_passed_83 ?_
      refine a_iadd eX10_passed_84 ?_
      refine a_ild1 eX10_passed_85 ?_
      refine a_iast eX10_passed_86 sh_185 rfl (by omega) ?_
      refine a_ald0 eX10_passed_87 ?_
      refine a_getR 27 185 eX10_passed_88 fl_X10_51 rfl rfl sh_171 ((congrFun (congrFun hR _) _).trans rf_171_27) ?_
      refine a_ild5 eX10_passed_91 ?_
      refine a_iconst eX10_passed_93 ?_
      refine a_iadd eX10_passed_94 ?_
      refine a_ild2 eX10_passed_95 ?_
      refine a_iast eX10_passed_96 sh_185 rfl (by omega) ?_
      refine a_ald0 eX10_passed_97 ?_
      refine a_getR 27 185 eX10_passed_98 fl_X10_51 rfl rfl sh_171 ((congrFun (congrFun hR _) _).trans rf_171_27) ?_
      refine a_ild5 eX10_passed_101 ?_
      refine a_iconst eX10_passed_103 ?_
      refine a_iadd eX10_passed_104 ?_
      refine a_ild3 eX10_passed_105 ?_
      refine a_iast eX10_passed_106 sh_185 rfl (by omega) ?_
      refine a_ald0 eX10_passed_107 ?_
      refine a_getR 27 185 eX10_passed_108 fl_X10_51 rfl rfl sh_171 ((congrFun (congrFun hR _) _).trans rf_171_27) ?_
      refine a_ild5 eX10_passed_111 ?_
      refine a_iconst eX10_passed_113 ?_
      refine a_iadd eX10_passed_114 ?_
      refine a_ild4 eX10_passed_115 ?_
      refine a_iast eX10_passed_117 sh_185 rfl (by omega) ?_
      refine a_ald0 eX10_passed_118 ?_
      refine a_dup eX10_passed_119 rfl ?_
      refine a_getI 26 eX10_passed_120 fl_X10_249 rfl rfl sh_171 ?_
      refine a_eqtop (y0 := 39) (by (simp only [rd_si, rd_sa, and_self, true_and, and_true, ↓reduceIte]; (repeat (first | rw [if_pos (by omega)] | rw [if_neg (by omega)])); (try omega))) ?_
      refine a_iconst eX10_passed_123 ?_
      refine a_iadd eX10_passed_124 ?_
      refine a_putI 26 eX10_passed_125 fl_X10_249 rfl rfl sh_171 (fun q h => Or.inl (by cases h; rfl)) ?_
      refine a_vret eX10_passed_128 rfl rfl ⟨Nat.zero_le _, Nat.zero_le _⟩ ?_
      refine hk _ ?_ ⟨fun a j h h9 => by simp only [rd_si, rd_sa, and_self, true_and, and_true, ↓reduceIte]; (repeat rw [if_neg (by omega)]), rfl⟩
      rw [show mtell m c rk law many = mps m 40 (fun i w => if i = 39 then tlw m c rk law many w else m (300 + i + 1) w) by unfold mtell; rw [if_neg (by omega), if_pos (by omega)]]
      refine dayM_pass (by omega) hM (fun a j h1 h2 => by simp only [rd_si, rd_sa, and_self, true_and, and_true, ↓reduceIte]; (repeat rw [if_neg (by omega)])) (by (simp only [rd_si, rd_sa, and_self, true_and, and_true, ↓reduceIte]; (repeat (first | rw [if_pos (by omega)] | rw [if_neg (by omega)])); (try omega))) (fun i w i1 i2 u1 u2 => ?_) (by omega)
      simp only [rd_si, rd_sa, and_self, true_and, and_true, ↓reduceIte]
      by_cases q : i = 39
      · subst q
        unfold tlw
        rcases (show w = 0 ∨ w = 1 ∨ w = 2 ∨ w = 3 ∨ w = 4 by omega) with rfl | rfl | rfl | rfl | rfl
        · (repeat (first | rw [if_pos (by omega)] | rw [if_neg (by omega)])); (try omega)
        · (repeat (first | rw [if_pos (by omega)] | rw [if_neg (by omega)])); (try rfl)
        · (repeat (first | rw [if_pos (by omega)] | rw [if_neg (by omega)])); (try rfl)
        · (repeat (first | rw [if_pos (by omega)] | rw [if_neg (by omega)])); (try rfl)
        · (repeat (first | rw [if_pos (by omega)] | rw [if_neg (by omega)])); (try rfl)
      · have e7 := d7 (i + 1) w (by omega) (by omega) (by omega) (by omega)
        (repeat (first | rw [if_pos (by omega)] | rw [if_neg (by omega)]))
        rw [show (5 * i + w + 5 : Int) = 5 * (i + 1) + w by omega, e7, Int.add_assoc]
    · skip
      exfalso; omega
  | succ n ih =>
    intro k hm hkk
    obtain ⟨d1, d2, d3, d4, d5, d6, d7⟩ := id hM
    obtain ⟨w1, w2, w3, w4, w5, w6, w7, w8⟩ := id wC
    obtain ⟨v1, v2, v3, v4, v5, v6, v7, v8⟩ := id wD
    simp only [Int.zero_add] at d4 d5 d6 d7 v4 v5 v6 v7 v8
    refine a_ild5 eX10_passed_18 ?_
    refine a_sipush eX10_passed_20 (by decide) ?_
    refine a_icmp_ge 48 eX10_passed_23 (by decide) (by omega) (fun hT23 => ?_) (fun hF23 => ?_)
    · skip
      refine a_ald0 eX10_passed_48 ?_
      refine a_dup eX10_passed_49 rfl ?_
      refine a_getI 26 eX10_passed_50 fl_X10_249 rfl rfl sh_171 ?_
      refine a_eqtop (y0 := 40) (by (simp only [rd_si, rd_sa, and_self, true_and, and_true, ↓reduceIte]; (repeat (first | rw [if_pos (by omega)] | rw [if_neg (by omega)])); (try omega))) ?_
      refine a_iconst eX10_passed_53 ?_
      refine a_isub eX10_passed_54 ?_
      refine a_putI 26 eX10_passed_55 fl_X10_249 rfl rfl sh_171 (fun q h => Or.inl (by cases h; rfl)) ?_
      refine a_iconst eX10_passed_58 ?_
      refine a_ald0 eX10_passed_59 ?_
      refine a_getI 26 eX10_passed_60 fl_X10_249 rfl rfl sh_171 ?_
      refine a_eqtop (y0 := 39) (by (simp only [rd_si, rd_sa, and_self, true_and, and_true, ↓reduceIte]; (repeat (first | rw [if_pos (by omega)] | rw [if_neg (by omega)])); (try omega))) ?_
      refine a_imul eX10_passed_63 ?_
      refine a_ist5 eX10_passed_64 (by decide) aw_n2i ?_
      refine a_ald0 eX10_passed_66 ?_
      refine a_getR 27 185 eX10_passed_67 fl_X10_51 rfl rfl sh_171 ((congrFun (congrFun hR _) _).trans rf_171_27) ?_
      refine a_ild5 eX10_passed_70 ?_
      refine a_ald0 eX10_passed_72 ?_
      refine a_getI 21 eX10_passed_73 fl_X10_243 rfl rfl sh_171 ?_
      refine a_eqtop (y0 := m 0 3) (by (simp only [rd_si, rd_sa, and_self, true_and, and_true, ↓reduceIte]; (repeat (first | rw [if_pos (by omega)] | rw [if_neg (by omega)])); (try omega))) ?_
      refine a_iast eX10_passed_76 sh_185 rfl (by omega) ?_
      refine a_ald0 eX10_passed_77 ?_
      refine a_getR 27 185 eX10_passed_78 fl_X10_51 rfl rfl sh_171 ((congrFun (congrFun hR _) _).trans rf_171_27) ?_
      refine a_ild5 eX10_passed_81 ?_
      refine a_iconst eX10_passed_83 ?_
      refine a_iadd eX10_passed_84 ?_
      refine a_ild1 eX10_passed_85 ?_
      refine a_iast eX10_passed_86 sh_185 rfl (by omega) ?_
      refine a_ald0 eX10_passed_87 ?_
      refine a_getR 27 185 eX10_passed_88 fl_X10_51 rfl rfl sh_171 ((congrFun (congrFun hR _) _).trans rf_171_27) ?_
      refine a_ild5 eX10_passed_91 ?_
      refine a_iconst eX10_passed_93 ?_
      refine a_iadd eX10_passed_94 ?_
      refine a_ild2 eX10_passed_95 ?_
      refine a_iast eX10_passed_96 sh_185 rfl (by omega) ?_
      refine a_ald0 eX10_passed_97 ?_
      refine a_getR 27 185 eX10_passed_98 fl_X10_51 rfl rfl sh_171 ((congrFun (congrFun hR _) _).trans rf_171_27) ?_
      refine a_ild5 eX10_passed_101 ?_
      refine a_iconst eX10_passed_103 ?_
      refine a_iadd eX10_passed_104 ?_
      refine a_ild3 eX10_passed_105 ?_
      refine a_iast eX10_passed_106 sh_185 rfl (by omega) ?_
      refine a_ald0 eX10_passed_107 ?_
      refine a_getR 27 185 eX10_passed_108 fl_X10_51 rfl rfl sh_171 ((congrFun (congrFun hR _) _).trans rf_171_27) ?_
      refine a_ild5 eX10_passed_111 ?_
      refine a_iconst eX10_passed_113 ?_
      refine a_iadd eX10_passed_114 ?_
      refine a_ild4 eX10_passed_115 ?_
      refine a_iast eX10_passed_117 sh_185 rfl (by omega) ?_
      refine a_ald0 eX10_passed_118 ?_
      refine a_dup eX10_passed_119 rfl ?_
      refine a_getI 26 eX10_passed_120 fl_X10_249 rfl rfl sh_171 ?_
      refine a_eqtop (y0 := 39) (by (simp only [rd_si, rd_sa, and_self, true_and, and_true, ↓reduceIte]; (repeat (first | rw [if_pos (by omega)] | rw [if_neg (by omega)])); (try omega))) ?_
      refine a_iconst eX10_passed_123 ?_
      refine a_iadd eX10_passed_124 ?_
      refine a_putI 26 eX10_passed_125 fl_X10_249 rfl rfl sh_171 (fun q h => Or.inl (by cases h; rfl)) ?_
      refine a_vret eX10_passed_128 rfl rfl ⟨Nat.zero_le _, Nat.zero_le _⟩ ?_
      refine hk _ ?_ ⟨fun a j h h9 => by simp only [rd_si, rd_sa, and_self, true_and, and_true, ↓reduceIte]; (repeat rw [if_neg (by omega)]), rfl⟩
      rw [show mtell m c rk law many = mps m 40 (fun i w => if i = 39 then tlw m c rk law many w else m (300 + i + 1) w) by unfold mtell; rw [if_neg (by omega), if_pos (by omega)]]
      refine dayM_pass (by omega) hM (fun a j h1 h2 => by simp only [rd_si, rd_sa, and_self, true_and, and_true, ↓reduceIte]; (repeat rw [if_neg (by omega)])) (by (simp only [rd_si, rd_sa, and_self, true_and, and_true, ↓reduceIte]; (repeat (first | rw [if_pos (by omega)] | rw [if_neg (by omega)])); (try omega))) (fun i w i1 i2 u1 u2 => ?_) (by omega)
      simp only [rd_si, rd_sa, and_self, true_and, and_true, ↓reduceIte]
      by_cases q : i = 39
      · subst q
        unfold tlw
        rcases (show w = 0 ∨ w = 1 ∨ w = 2 ∨ w = 3 ∨ w = 4 by omega) with rfl | rfl | rfl | rfl | rfl
        · (repeat (first | rw [if_pos (by omega)] | rw [if_neg (by omega)])); (try omega)
        · (repeat (first | rw [if_pos (by omega)] | rw [if_neg (by omega)])); (try rfl)
        · (repeat (first | rw [if_pos (by omega)] | rw [if_neg (by omega)])); (try rfl)
        · (repeat (first | rw [if_pos (by omega)] | rw [if_neg (by omega)])); (try rfl)
        · (repeat (first | rw [if_pos (by omega)] | rw [if_neg (by omega)])); (try rfl)
      · have e7 := d7 (i + 1) w (by omega) (by omega) (by omega) (by omega)
        (repeat (first | rw [if_pos (by omega)] | rw [if_neg (by omega)]))
        rw [show (5 * i + w + 5 : Int) = 5 * (i + 1) + w by omega, e7, Int.add_assoc]
    · skip
      refine a_ald0 eX10_passed_26 ?_
      refine a_getR 27 185 eX10_passed_27 fl_X10_51 rfl rfl sh_171 ((congrFun (congrFun hR _) _).trans rf_171_27) ?_
      refine a_ild5 eX10_passed_30 ?_
      refine a_iconst eX10_passed_32 ?_
      refine a_isub eX10_passed_33 ?_
      refine a_ald0 eX10_passed_34 ?_
      refine a_getR 27 185 eX10_passed_35 fl_X10_51 rfl rfl sh_171 ((congrFun (congrFun hR _) _).trans rf_171_27) ?_
      refine a_ild5 eX10_passed_38 ?_
      refine a_iald eX10_passed_40 sh_185 rfl (by omega) ?_
      refine a_eqtop (y0 := σ.1 185 k) (by (simp only [rd_si, rd_sa, and_self, true_and, and_true, ↓reduceIte]; (repeat (first | rw [if_pos (by omega)] | rw [if_neg (by omega)])); (try omega))) ?_
      refine a_iast eX10_passed_41 sh_185 rfl (by omega) ?_
      refine a_iinc5 eX10_passed_42 (by decide) aw_n2i ?_
      refine a_goto 18 eX10_passed_45 (by decide) ?_
      refine AW.st (aw_si_sa σ 185 _ (k - 5) _) ?_
      refine AW.st (aw_sa_congr (g' := fun j => if 0 ≤ j ∧ j < k + 1 - 5 then σ.1 185 (j + 5) else σ.1 185 j) (fun j => ?_)) (ih (k + 1) (by omega) (by omega))
      by_cases q1 : j = k - 5
      · subst q1
        rw [if_pos rfl, if_pos (by omega), show (k - 5 + 5 : Int) = k by omega]
      · rw [if_neg q1]
        by_cases q2 : 0 ≤ j ∧ j < k - 5
        · rw [if_pos q2, if_pos (by omega)]
        · rw [if_neg q2, if_neg (by omega)]

set_option maxHeartbeats 4000000 in
set_option maxRecDepth 100000 in
theorem c_X10_passed {l : Launch} {σ : aw_S} {Post : Option Value → aw_S → Prop} {tw cs : Bool} (hR : σ.2.2 = RF tw cs) {N : Int} {m : mS} (hM : dayM σ m) (wC : wfCity m) (wD : wfDay m 0 N) (hN : 0 ≤ N ∧ N ≤ 1000) {c rk law many : Int} (hr : (-2147483648 ≤ c ∧ c ≤ 2147483647) ∧ (-2147483648 ≤ rk ∧ rk ≤ 2147483647) ∧ (-2147483648 ≤ law ∧ law ≤ 2147483647) ∧ (-2147483648 ≤ many ∧ many ≤ 2147483647)) (hmn : 0 ≤ many) (hk : ∀ σ', dayM σ' (mtell m c rk law many) → frM σ σ' → Post none σ') : AE l yX10_passed cX10_passed 6 (none : Option Jvm.ClassFile.FieldType) 0 0 0 0 SH SH σ [.ref 171, .int (jI c), .int (jI rk), .int (jI law), .int (jI many)] Post := by
  show AW l yX10_passed cX10_passed 6 (none : Option Jvm.ClassFile.FieldType) 0 0 0 0 SH Post SH 0 0 σ 0 [some (.ref 171), some (.int (jI c)), some (.int (jI rk)), some (.int (jI law)), some (.int (jI many)), none] []
  obtain ⟨d1, d2, d3, d4, d5, d6, d7⟩ := id hM
  obtain ⟨w1, w2, w3, w4, w5, w6, w7, w8⟩ := id wC
  obtain ⟨v1, v2, v3, v4, v5, v6, v7, v8⟩ := id wD
  simp only [Int.zero_add] at d4 d5 d6 d7 v4 v5 v6 v7 v8
  refine a_ild4 eX10_passed_0 ?_
  refine a_if_ne 6 eX10_passed_2 (by decide) (by omega) (fun hT2 => ?_) (fun hF2 => ?_)
  · skip
    refine a_ald0 eX10_passed_6 ?_
    refine a_getI 26 eX10_passed_7 fl_X10_249 rfl rfl sh_171 ?_
    refine a_bipush eX10_passed_10 (by decide) ?_
    refine a_icmp_ne 58 eX10_passed_12 (by decide) (by omega) (fun hT12 => ?_) (fun hF12 => ?_)
    · skip
      refine a_iconst eX10_passed_58 ?_
      refine a_ald0 eX10_passed_59 ?_
      refine a_getI 26 eX10_passed_60 fl_X10_249 rfl rfl sh_171 ?_
      refine a_eqtop (y0 := m 0 5) (by omega) ?_
      refine a_imul eX10_passed_63 ?_
      refine a_ist5 eX10_passed_64 (by decide) aw_n2i ?_
      refine a_ald0 eX10_passed_66 ?_
      refine a_getR 27 185 eX10_passed_67 fl_X10_51 rfl rfl sh_171 ((congrFun (congrFun hR _) _).trans rf_171_27) ?_
      refine a_ild5 eX10_passed_70 ?_
      refine a_ald0 eX10_passed_72 ?_
      refine a_getI 21 eX10_passed_73 fl_X10_243 rfl rfl sh_171 ?_
      refine a_eqtop (y0 := m 0 3) (by omega) ?_
      refine a_iast eX10_passed_76 sh_185 rfl (by omega) ?_
      refine a_ald0 eX10_passed_77 ?_
      refine a_getR 27 185 eX10_passed_78 fl_X10_51 rfl rfl sh_171 ((congrFun (congrFun hR _) _).trans rf_171_27) ?_
      refine a_ild5 eX10_passed_81 ?_
      refine a_iconst eX10_passed_83 ?_
      refine a_iadd eX10_passed_84 ?_
      refine a_ild1 eX10_passed_85 ?_
      refine a_iast eX10_passed_86 sh_185 rfl (by omega) ?_
      refine a_ald0 eX10_passed_87 ?_
      refine a_getR 27 185 eX10_passed_88 fl_X10_51 rfl rfl sh_171 ((congrFun (congrFun hR _) _).trans rf_171_27) ?_
      refine a_ild5 eX10_passed_91 ?_
      refine a_iconst eX10_passed_93 ?_
      refine a_iadd eX10_passed_94 ?_
      refine a_ild2 eX10_passed_95 ?_
      refine a_iast eX10_passed_96 sh_185 rfl (by omega) ?_
      refine a_ald0 eX10_passed_97 ?_
      refine a_getR 27 185 eX10_passed_98 fl_X10_51 rfl rfl sh_171 ((congrFun (congrFun hR _) _).trans rf_171_27) ?_
      refine a_ild5 eX10_passed_101 ?_
      refine a_iconst eX10_passed_103 ?_
      refine a_iadd eX10_passed_104 ?_
      refine a_ild3 eX10_passed_105 ?_
      refine a_iast eX10_passed_106 sh_185 rfl (by omega) ?_
      refine a_ald0 eX10_passed_107 ?_
      refine a_getR 27 185 eX10_passed_108 fl_X10_51 rfl rfl sh_171 ((congrFun (congrFun hR _) _).trans rf_171_27) ?_
      refine a_ild5 eX10_passed_111 ?_
      refine a_iconst eX10_passed_113 ?_
      refine a_iadd eX10_passed_114 ?_
      refine a_ild4 eX10_passed_115 ?_
      refine a_iast eX10_passed_117 sh_185 rfl (by omega) ?_
      refine a_ald0 eX10_passed_118 ?_
      refine a_dup eX10_passed_119 rfl ?_
      refine a_getI 26 eX10_passed_120 fl_X10_249 rfl rfl sh_171 ?_
      refine a_eqtop (y0 := m 0 5) (by (simp only [rd_si, rd_sa, and_self, true_and, and_true, ↓reduceIte]; (repeat (first | rw [if_pos (by omega)] | rw [if_neg (by omega)])); (try omega))) ?_
      refine a_iconst eX10_passed_123 ?_
      refine a_iadd eX10_passed_124 ?_
      refine a_putI 26 eX10_passed_125 fl_X10_249 rfl rfl sh_171 (fun q h => Or.inl (by cases h; rfl)) ?_
      refine a_vret eX10_passed_128 rfl rfl ⟨Nat.zero_le _, Nat.zero_le _⟩ ?_
      refine hk _ ?_ ⟨fun a j h h9 => by simp only [rd_si, rd_sa, and_self, true_and, and_true, ↓reduceIte]; (repeat rw [if_neg (by omega)]), rfl⟩
      rw [show mtell m c rk law many = mps m (m 0 5 + 1) (fun i w => if i = m 0 5 then tlw m c rk law many w else m (300 + i) w) by unfold mtell; rw [if_neg (by omega), if_neg (by omega)]]
      refine dayM_pass (by omega) hM (fun a j h1 h2 => by simp only [rd_si, rd_sa, and_self, true_and, and_true, ↓reduceIte]; (repeat rw [if_neg (by omega)])) (by (simp only [rd_si, rd_sa, and_self, true_and, and_true, ↓reduceIte]; (repeat (first | rw [if_pos (by omega)] | rw [if_neg (by omega)])); (try omega))) (fun i w i1 i2 u1 u2 => ?_) (by omega)
      simp only [rd_si, rd_sa, and_self, true_and, and_true, ↓reduceIte]
      by_cases q : i = m 0 5
      · subst q
        unfold tlw
        rcases (show w = 0 ∨ w = 1 ∨ w = 2 ∨ w = 3 ∨ w = 4 by omega) with rfl | rfl | rfl | rfl | rfl
        · (repeat (first | rw [if_pos (by omega)] | rw [if_neg (by omega)])); (try omega)
        · (repeat (first | rw [if_pos (by omega)] | rw [if_neg (by omega)])); (try rfl)
        · (repeat (first | rw [if_pos (by omega)] | rw [if_neg (by omega)])); (try rfl)
        · (repeat (first | rw [if_pos (by omega)] | rw [if_neg (by omega)])); (try rfl)
        · (repeat (first | rw [if_pos (by omega)] | rw [if_neg (by omega)])); (try rfl)
      · have e7 := d7 i w (by omega) (by omega) (by omega) (by omega)
        (repeat (first | rw [if_pos (by omega)] | rw [if_neg (by omega)]))
        exact e7
    · skip
      refine a_iconst eX10_passed_15 ?_
      refine a_ist5 eX10_passed_16 (by decide) aw_n2i ?_
      exact AW.st (aw_sa_self σ 185 (g := fun j => if 0 ≤ j ∧ j < 5 - 5 then σ.1 185 (j + 5) else σ.1 185 j) (fun j => if_neg (by omega))).symm (lp_passed hR hM wC wD hN hr hmn hk (by omega) (by omega) _ 5 (Nat.le_refl _) (by omega))
  · skip
    refine a_vret eX10_passed_5 rfl rfl ⟨Nat.zero_le _, Nat.zero_le _⟩ ?_
    refine hk _ (by rw [show mtell m c rk law many = m from if_pos (by omega)]; exact hM) (frM_rf σ)
