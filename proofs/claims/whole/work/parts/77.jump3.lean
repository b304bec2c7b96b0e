theorem stp_n {ok : Bool} {n b : Nat} {s : Nat × Nat × Nat} (h : ¬ (ok = true ∧ n ≤ s.1)) : stp ok n b s = s := if_neg h
theorem stp_l {ok : Bool} {n b : Nat} {s : Nat × Nat × Nat} (h : ok = true) (h2 : n < s.1) : stp ok n b s = (n, b, 1) := by
  unfold stp
  rw [if_pos ⟨h, by omega⟩, if_pos h2]
theorem stp_e {ok : Bool} {n b : Nat} {s : Nat × Nat × Nat} (h : ok = true) (h2 : n ≤ s.1) (h3 : ¬ n < s.1) : stp ok n b s = (s.1, s.2.1 &&& b, s.2.2 + 1) := by
  unfold stp
  rw [if_pos ⟨h, h2⟩, if_neg h3]
def fr64 (σ σ' : aw_S) : Prop := (∀ (a : Nat) (q : Int), ¬ (a = 64 ∧ 1 ≤ q ∧ q ≤ 3) → σ'.1 a q = σ.1 a q) ∧ σ'.2 = σ.2
def jst (σ : aw_S) (f : Nat × Nat × Nat) : Prop := σ.1 64 1 = (f.1 : Int) ∧ (f.1 < 7 → σ.1 64 2 = (f.2.1 : Int) ∧ σ.1 64 3 = (f.2.2 : Int))
set_option maxHeartbeats 4000000 in
set_option maxRecDepth 100000 in
theorem lp_fj {l : Launch} {σ : aw_S} {Post : Option Value → aw_S → Prop} {tw cs : Bool} (hR : σ.2.2 = RF tw cs) {i j : Int} {P : Nat → Int} {C : Nat → Nat} {s : Nat} (hP : ∀ t : Nat, t < s → σ.1 83 (t : Int) = P t ∧ 0 ≤ P t ∧ P t ≤ 5) (hC : ∀ t : Nat, t < s → σ.1 82 (t : Int) = (C t : Int) ∧ C t ≤ 15) (hs6 : s ≤ 6) {J : Nat → Nat × Nat × Nat} (hJ : J = jfold (okH P s) (fun h => btG C h s)) (hk : ∀ σ', fr64 σ σ' → jst σ' (J (2 ^ s)) → Post none σ')  : ∀ (n : Nat) (h : Nat) (σ1 : aw_S) (lx : Option Value), ((2 ^ s - h) ≤ n) → (h ≤ 2 ^ s) → (fr64 σ σ1) → (jst σ1 (J h)) → AW l yX0_findJumpers cX0_findJumpers 6 (none : Option Jvm.ClassFile.FieldType) 1 25 0 0 SH Post SH 0 0 (σ1) 16 [some (.ref 64), some (.int (jI i)), some (.int (jI j)), some (.int (jI (s : Int))), some (.int (jI (h : Int))), lx] [] := by
  intro n
  induction n with
  | zero =>
    intro h σ1 lx hm hh f1 hst
    have hR : σ1.2.2 = RF tw cs := by rw [f1.2]; exact hR
    have h64 : 2 ^ s ≤ 2 ^ 6 := Nat.pow_le_pow_right (by decide) hs6
    obtain ⟨hst1, hst2⟩ := id hst
    have hJ7 := (jfold_le (okH P s) (fun h => btG C h s) h).1
    rw [← hJ] at hJ7
    generalize hT : 2 ^ s = T at *
    have hp1 : ∀ t : Nat, t < s → σ1.1 83 (t : Int) = P t ∧ 0 ≤ P t ∧ P t ≤ 5 := fun t ht => by rw [f1.1 _ _ (by omega)]; exact hP t ht
    have hc1 : ∀ t : Nat, t < s → σ1.1 82 (t : Int) = (C t : Int) ∧ C t ≤ 15 := fun t ht => by rw [f1.1 _ _ (by omega)]; exact hC t ht
    refine a_ild4 eX0_findJumpers_16 ?_
    refine a_iconst eX0_findJumpers_18 ?_
    refine a_ild3 eX0_findJumpers_19 ?_
    refine a_ishl ((T : Nat) : Int) eX0_findJumpers_20 (by rw [pw_shl (by omega), Int.toNat_natCast, ← hT, Int.natCast_pow]; rfl) ?_
    refine a_icmp_ge 107 eX0_findJumpers_21 (by decide) (by omega) (fun hT21 => ?_) (fun hF21 => ?_)
    · skip
      refine a_vret eX0_findJumpers_107 rfl rfl ⟨Nat.zero_le _, Nat.zero_le _⟩ ?_
      rw [show T = h by omega] at hk
      exact hk σ1 f1 hst
    · skip
      exfalso; omega
  | succ n ih =>
    intro h σ1 lx hm hh f1 hst
    have hR : σ1.2.2 = RF tw cs := by rw [f1.2]; exact hR
    have h64 : 2 ^ s ≤ 2 ^ 6 := Nat.pow_le_pow_right (by decide) hs6
    obtain ⟨hst1, hst2⟩ := id hst
    have hJ7 := (jfold_le (okH P s) (fun h => btG C h s) h).1
    rw [← hJ] at hJ7
    generalize hT : 2 ^ s = T at *
    have hp1 : ∀ t : Nat, t < s → σ1.1 83 (t : Int) = P t ∧ 0 ≤ P t ∧ P t ≤ 5 := fun t ht => by rw [f1.1 _ _ (by omega)]; exact hP t ht
    have hc1 : ∀ t : Nat, t < s → σ1.1 82 (t : Int) = (C t : Int) ∧ C t ≤ 15 := fun t ht => by rw [f1.1 _ _ (by omega)]; exact hC t ht
    refine a_ild4 eX0_findJumpers_16 ?_
    refine a_iconst eX0_findJumpers_18 ?_
    refine a_ild3 eX0_findJumpers_19 ?_
    refine a_ishl ((T : Nat) : Int) eX0_findJumpers_20 (by rw [pw_shl (by omega), Int.toNat_natCast, ← hT, Int.natCast_pow]; rfl) ?_
    refine a_icmp_ge 107 eX0_findJumpers_21 (by decide) (by omega) (fun hT21 => ?_) (fun hF21 => ?_)
    · skip
      refine a_vret eX0_findJumpers_107 rfl rfl ⟨Nat.zero_le _, Nat.zero_le _⟩ ?_
      rw [show T = h by omega] at hk
      exact hk σ1 f1 hst
    · skip
      have hp6 := pop_6 (x := h) (by omega)
      refine a_ild4 eX0_findJumpers_24 ?_
      refine a_cS1 eX0_findJumpers_26 lk_X0_58 mS_J6_bitCount_0f7a4 mt_J6_bitCount_0f7a4 rfl rfl rfl rfl rfl (c_J6_bitCount_0f7a4 (by omega) ?_)
      dsimp only [Option.toList, List.cons_append, List.nil_append]
      refine a_ist5 eX0_findJumpers_29 (by decide) aw_n2i ?_
      refine a_ild5 eX0_findJumpers_31 ?_
      refine a_ald0 eX0_findJumpers_33 ?_
      refine a_getI 1 eX0_findJumpers_34 fl_X0_55 rfl rfl sh_64 ?_
      refine a_eqtop (y0 := (((J h).1 : Nat) : Int)) (by exact hst1) ?_
      refine a_icmp_gt 101 eX0_findJumpers_37 (by decide) (by omega) (fun hT37 => ?_) (fun hF37 => ?_)
      · skip
        refine a_iinc4 eX0_findJumpers_101 (by decide) aw_n2i ?_
        refine a_goto 16 eX0_findJumpers_104 (by decide) ?_
        have e9 : J (h + 1) = J h := by rw [hJ]; exact stp_n (fun z => by have := z.2; rw [← hJ] at this; omega)
        have ih1 := ih (h + 1) σ1 (some (.int (jI ((pop h : Nat) : Int)))) (by omega) (by omega) f1 (by rw [e9]; exact hst)
        rw [show (((h + 1 : Nat) : Nat) : Int) = (h : Int) + 1 by omega] at ih1
        exact ih1
      · skip
        refine a_ald0 eX0_findJumpers_40 ?_
        refine a_ild4 eX0_findJumpers_41 ?_
        refine a_ild3 eX0_findJumpers_43 ?_
        refine a_cV2 eX0_findJumpers_44 lk_X0_63 mV_X0_isOrderedWithout sh_64 ⟨_, rfl, rfl⟩ mt_X0_isOrderedWithout rfl rfl rfl rfl rfl rfl (c_X0_isOrderedWithout hR hp1 (by omega) hs6 (fun hT44 => ?_) (fun hF44 => ?_))
        · skip
          dsimp only [Option.toList, List.cons_append, List.nil_append]
          refine a_if_eq 101 eX0_findJumpers_47 (by decide) (by omega) (fun h => absurd h (by decide)) (fun _ => ?_)
          refine a_ild5 eX0_findJumpers_50 ?_
          refine a_ald0 eX0_findJumpers_52 ?_
          refine a_getI 1 eX0_findJumpers_53 fl_X0_55 rfl rfl sh_64 ?_
          refine a_eqtop (y0 := (((J h).1 : Nat) : Int)) (by exact hst1) ?_
          refine a_icmp_ge 75 eX0_findJumpers_56 (by decide) (by omega) (fun hT56 => ?_) (fun hF56 => ?_)
          · skip
            obtain ⟨hs2, hs3⟩ := hst2 (by omega)
            refine a_ald0 eX0_findJumpers_75 ?_
            refine a_dup eX0_findJumpers_76 rfl ?_
            refine a_getI 3 eX0_findJumpers_77 fl_X0_66 rfl rfl sh_64 ?_
            refine a_eqtop (y0 := (((J h).2.2 : Nat) : Int)) (by (try simp only [rd_si, and_self, true_and, and_true]); (repeat (first | rw [if_neg (by omega)] | rw [if_pos True.intro])); (first | done | rfl | exact hs3)) ?_
            refine a_iconst eX0_findJumpers_80 ?_
            refine a_iadd eX0_findJumpers_81 ?_
            refine a_putI 3 eX0_findJumpers_82 fl_X0_66 rfl rfl sh_64 (fun q h => Or.inl (by cases h; rfl)) ?_
            refine a_ald0 eX0_findJumpers_85 ?_
            refine a_dup eX0_findJumpers_86 rfl ?_
            refine a_getI 2 eX0_findJumpers_87 fl_X0_69 rfl rfl sh_64 ?_
            refine a_eqtop (y0 := (((J h).2.1 : Nat) : Int)) (by (try simp only [rd_si, and_self, true_and, and_true]); (repeat (first | rw [if_neg (by omega)] | rw [if_pos True.intro])); (first | done | rfl | exact hs2)) ?_
            refine a_ald0 eX0_findJumpers_90 ?_
            refine a_ild4 eX0_findJumpers_91 ?_
            refine a_ild3 eX0_findJumpers_93 ?_
            refine a_cV2 eX0_findJumpers_94 lk_X0_72 mV_X0_cabsOf sh_64 ⟨_, rfl, rfl⟩ mt_X0_cabsOf rfl rfl rfl rfl rfl rfl (c_X0_cabsOf (C := C) (s := s) (h := h) (by exact hR) (fun t ht => by (try simp only [rd_si]); (repeat rw [if_neg (by omega)]); exact hc1 t ht) (by omega) hs6 ?_)
            dsimp only [Option.toList, List.cons_append, List.nil_append]
            refine a_iand (((J h).2.1 &&& btG C h s : Nat) : Int) eX0_findJumpers_97 (jN_and _ _) ?_
            refine a_putI 2 eX0_findJumpers_98 fl_X0_69 rfl rfl sh_64 (fun q h => Or.inl (by cases h; rfl)) ?_
            refine a_iinc4 eX0_findJumpers_101 (by decide) aw_n2i ?_
            refine a_goto 16 eX0_findJumpers_104 (by decide) ?_
            have e9 : J (h + 1) = ((J h).1, (J h).2.1 &&& btG C h s, (J h).2.2 + 1) := by rw [hJ]; exact stp_e (decide_eq_true hT44) (by rw [← hJ]; omega) (by rw [← hJ]; omega)
            rw [show (h : Int) + 1 = (((h + 1 : Nat) : Nat) : Int) by omega]
            refine ih (h + 1) _ _ (by omega) (by omega) ⟨fun a q z => by simp only [rd_si]; (repeat rw [if_neg (by omega)]); exact f1.1 a q z, f1.2⟩ ?_
            rw [e9]
            refine ⟨?_, fun _ => ⟨?_, ?_⟩⟩
            · simp only [rd_si]; (repeat rw [if_neg (by omega)]); exact hst1
            · simp only [rd_si, and_self, true_and, and_true]; (repeat (first | rw [if_neg (by omega)] | rw [if_pos True.intro])); (first | done | rfl)
            · simp only [rd_si, and_self, true_and, and_true]; (repeat (first | rw [if_neg (by omega)] | rw [if_pos True.intro])); (first | done | rfl)
          · skip
            refine a_ald0 eX0_findJumpers_59 ?_
            refine a_ild5 eX0_findJumpers_60 ?_
            refine a_putI 1 eX0_findJumpers_62 fl_X0_55 rfl rfl sh_64 (fun q h => Or.inl (by cases h; rfl)) ?_
            refine a_ald0 eX0_findJumpers_65 ?_
            refine a_iconst eX0_findJumpers_66 ?_
            refine a_putI 3 eX0_findJumpers_67 fl_X0_66 rfl rfl sh_64 (fun q h => Or.inl (by cases h; rfl)) ?_
            refine a_ald0 eX0_findJumpers_70 ?_
            refine a_iconst eX0_findJumpers_71 ?_
            refine a_putI 2 eX0_findJumpers_72 fl_X0_69 rfl rfl sh_64 (fun q h => Or.inl (by cases h; rfl)) ?_
            refine a_ald0 eX0_findJumpers_75 ?_
            refine a_dup eX0_findJumpers_76 rfl ?_
            refine a_getI 3 eX0_findJumpers_77 fl_X0_66 rfl rfl sh_64 ?_
            refine a_eqtop (y0 := 0) (by (try simp only [rd_si, and_self, true_and, and_true]); (repeat (first | rw [if_neg (by omega)] | rw [if_pos True.intro])); (first | done | rfl | exact hs3)) ?_
            refine a_iconst eX0_findJumpers_80 ?_
            refine a_iadd eX0_findJumpers_81 ?_
            refine a_putI 3 eX0_findJumpers_82 fl_X0_66 rfl rfl sh_64 (fun q h => Or.inl (by cases h; rfl)) ?_
            refine a_ald0 eX0_findJumpers_85 ?_
            refine a_dup eX0_findJumpers_86 rfl ?_
            refine a_getI 2 eX0_findJumpers_87 fl_X0_69 rfl rfl sh_64 ?_
            refine a_eqtop (y0 := (-1)) (by (try simp only [rd_si, and_self, true_and, and_true]); (repeat (first | rw [if_neg (by omega)] | rw [if_pos True.intro])); (first | done | rfl | exact hs2)) ?_
            refine a_ald0 eX0_findJumpers_90 ?_
            refine a_ild4 eX0_findJumpers_91 ?_
            refine a_ild3 eX0_findJumpers_93 ?_
            refine a_cV2 eX0_findJumpers_94 lk_X0_72 mV_X0_cabsOf sh_64 ⟨_, rfl, rfl⟩ mt_X0_cabsOf rfl rfl rfl rfl rfl rfl (c_X0_cabsOf (C := C) (s := s) (h := h) (by exact hR) (fun t ht => by (try simp only [rd_si]); (repeat rw [if_neg (by omega)]); exact hc1 t ht) (by omega) hs6 ?_)
            dsimp only [Option.toList, List.cons_append, List.nil_append]
            refine a_iand ((btG C h s : Nat) : Int) eX0_findJumpers_97 (jN_m1 _) ?_
            refine a_putI 2 eX0_findJumpers_98 fl_X0_69 rfl rfl sh_64 (fun q h => Or.inl (by cases h; rfl)) ?_
            refine a_iinc4 eX0_findJumpers_101 (by decide) aw_n2i ?_
            refine a_goto 16 eX0_findJumpers_104 (by decide) ?_
            have e9 : J (h + 1) = (pop h, btG C h s, 1) := by rw [hJ]; exact stp_l (decide_eq_true hT44) (by rw [← hJ]; omega)
            rw [show (h : Int) + 1 = (((h + 1 : Nat) : Nat) : Int) by omega]
            refine ih (h + 1) _ _ (by omega) (by omega) ⟨fun a q z => by simp only [rd_si]; (repeat rw [if_neg (by omega)]); exact f1.1 a q z, f1.2⟩ ?_
            rw [e9]
            refine ⟨?_, fun _ => ⟨?_, ?_⟩⟩
            · simp only [rd_si, and_self, true_and, and_true]; (repeat (first | rw [if_neg (by omega)] | rw [if_pos True.intro])); (first | done | rfl)
            · simp only [rd_si, and_self, true_and, and_true]; (repeat (first | rw [if_neg (by omega)] | rw [if_pos True.intro])); (first | done | rfl)
            · simp only [rd_si, and_self, true_and, and_true]; (repeat (first | rw [if_neg (by omega)] | rw [if_pos True.intro])); (first | done | rfl)
        · skip
          dsimp only [Option.toList, List.cons_append, List.nil_append]
          refine a_if_eq 101 eX0_findJumpers_47 (by decide) (by omega) (fun _ => ?_) (fun h => absurd h (by decide))
          refine a_iinc4 eX0_findJumpers_101 (by decide) aw_n2i ?_
          refine a_goto 16 eX0_findJumpers_104 (by decide) ?_
          have e9 : J (h + 1) = J h := by rw [hJ]; exact stp_n (fun z => hF44 (of_decide_eq_true z.1))
          have ih1 := ih (h + 1) σ1 (some (.int (jI ((pop h : Nat) : Int)))) (by omega) (by omega) f1 (by rw [e9]; exact hst)
          rw [show (((h + 1 : Nat) : Nat) : Int) = (h : Int) + 1 by omega] at ih1
          exact ih1

theorem popN_sur {M : Nat} : ∀ {k t : Nat}, t < popN M k → ∃ q : Nat, q < k ∧ M.testBit q = true ∧ popN M q = t
  | 0, t, h => absurd h (Nat.not_lt_zero t)
  | k + 1, t, h => by
    by_cases z : t < popN M k
    · obtain ⟨q, q1, q2, q3⟩ := popN_sur z
      exact ⟨q, by omega, q2, q3⟩
    · rw [popN_t] at h
      by_cases w : M.testBit k = true
      · rw [if_pos w] at h
        exact ⟨k, by omega, w, by omega⟩
      · rw [if_neg w] at h
        omega
set_option maxHeartbeats 4000000 in
set_option maxRecDepth 100000 in
theorem c_X0_findJumpers {l : Launch} {σ : aw_S} {Post : Option Value → aw_S → Prop} {tw cs : Bool} (hR : σ.2.2 = RF tw cs) {m : mS} (hB : bookC σ m) (wB : wfBook m) {i j : Int} (hi : 0 ≤ i ∧ i < m 0 6) (hj : 0 ≤ j ∧ j < m 0 6) (hk : ∀ σ', frJ σ σ' → σ'.1 64 1 = ((jall m i j).1 : Int) → σ'.1 64 2 = ((jall m i j).2.1 : Int) → σ'.1 64 3 = ((jall m i j).2.2 : Int) → Post none σ')  : AE l yX0_findJumpers cX0_findJumpers 6 (none : Option Jvm.ClassFile.FieldType) 1 25 0 0 SH SH σ [.ref 64, .int (jI i), .int (jI j)] Post := by
  show AW l yX0_findJumpers cX0_findJumpers 6 (none : Option Jvm.ClassFile.FieldType) 1 25 0 0 SH Post SH 0 0 σ 0 [some (.ref 64), some (.int (jI i)), some (.int (jI j)), none, none, none] []
  obtain ⟨b1, b2⟩ := id hB
  obtain ⟨z1, z2⟩ := id wB
  obtain ⟨p1, p2, p3, p4, -⟩ := b2 i (by omega) (by omega)
  obtain ⟨r1, r2, r3, r4, r5⟩ := z2 i (by omega) (by omega)
  obtain ⟨P1, P2, P3, P4, -⟩ := b2 j (by omega) (by omega)
  obtain ⟨R1, R2, R3, R4, R5⟩ := z2 j (by omega) (by omega)
  refine a_ald0 eX0_findJumpers_0 ?_
  refine a_ild1 eX0_findJumpers_1 ?_
  refine a_ild2 eX0_findJumpers_2 ?_
  refine a_cV2 eX0_findJumpers_3 lk_X0_51 mV_X0_findCommon sh_64 ⟨_, rfl, rfl⟩ mt_X0_findCommon rfl rfl rfl rfl rfl rfl (c_X0_findCommon hR hB wB hi hj (fun σ1 f1 hcm => ?_))
  dsimp only [Option.toList, List.cons_append, List.nil_append]
  refine a_ist3 eX0_findJumpers_6 (by decide) aw_n2i ?_
  have hR : σ1.2.2 = RF tw cs := by rw [f1.2]; exact hR
  refine a_ald0 eX0_findJumpers_7 ?_
  refine a_bipush eX0_findJumpers_8 (by decide) ?_
  refine a_putI 1 eX0_findJumpers_10 fl_X0_55 rfl rfl sh_64 (fun q h => Or.inl (by cases h; rfl)) ?_
  refine a_iconst eX0_findJumpers_13 ?_
  refine a_ist4 eX0_findJumpers_14 (by decide) aw_n2i ?_
  obtain ⟨s, hs⟩ : ∃ s : Nat, s = popN (jM m i j) (m (400 + i) 2).toNat := ⟨_, rfl⟩
  have hs6 : s ≤ 6 := by have := popN_le (jM m i j) (m (400 + i) 2).toNat; omega
  have htb : ∀ t : Nat, (jM m i j).testBit t = true ↔ (t < (m (400 + i) 2).toNat ∧ pin m i j t ≠ -1) := fun t => mskF_t m i j t _
  have hsur : ∀ t : Nat, t < s → ∃ q : Nat, q < (m (400 + i) 2).toNat ∧ pin m i j q ≠ -1 ∧ popN (jM m i j) q = t := fun t ht => by
    rw [hs] at ht
    obtain ⟨q, q1, q2, q3⟩ := popN_sur ht
    exact ⟨q, q1, ((htb q).mp q2).2, q3⟩
  have hP : ∀ t : Nat, t < s → 0 ≤ σ1.1 83 (t : Int) ∧ σ1.1 83 (t : Int) ≤ 5 := fun t ht => by
    obtain ⟨q, q1, q2, q3⟩ := hsur t ht
    have h8 := (hcm q q1 q2).1
    have h7 := pin_b (m := m) (i := i) (j := j) (k := q) (by omega)
    rw [q3] at h8
    omega
  have hC : ∀ t : Nat, t < s → 0 ≤ σ1.1 82 (t : Int) ∧ σ1.1 82 (t : Int) ≤ 15 := fun t ht => by
    obtain ⟨q, q1, q2, q3⟩ := hsur t ht
    have h8 := (hcm q q1 q2).2
    have h7 := r4 (q : Int) (by omega) (by omega)
    rw [q3] at h8
    omega
  have hja := jall_C (m := m) (i := i) (j := j) (P := fun t => σ1.1 83 (t : Int)) (C := fun t => (σ1.1 82 (t : Int)).toNat) r3 (fun q q1 q2 => by
    have h8 := hcm q (by omega) q2
    exact ⟨h8.1, by unfold cof; rw [h8.2]⟩)
  rw [← hs] at hja ⊢
  refine lp_fj (σ := aw_si σ1 64 1 7) hR (P := fun t => σ1.1 83 (t : Int)) (C := fun t => (σ1.1 82 (t : Int)).toNat) (fun t ht => ⟨rd_si_ne (by omega), hP t ht⟩) (fun t ht => ⟨by rw [rd_si_ne (by omega)]; have := hC t ht; omega, by have := hC t ht; omega⟩) hs6 (J := jfold (okH (fun t => σ1.1 83 (t : Int)) s) (fun h => btG (fun t => (σ1.1 82 (t : Int)).toNat) h s)) rfl (fun σ2 f2 hst => ?_) _ 0 (aw_si σ1 64 1 7) none (Nat.le_refl _) (Nat.zero_le _) ⟨fun _ _ _ => rfl, rfl⟩ ⟨rd_si_eq, fun z => absurd z (show ¬ (7 : Nat) < 7 by decide)⟩
  have h7 := jall_7 (P := fun t : Nat => σ1.1 83 (t : Int)) (b := fun h => btG (fun t => (σ1.1 82 (t : Int)).toNat) h s) hs6
  rw [← hja] at hst h7
  obtain ⟨g1, g2⟩ := hst
  obtain ⟨g2, g3⟩ := g2 h7
  exact hk σ2 ⟨fun a q q1 q2 q3 => by rw [f2.1 a q q3, rd_si, if_neg (by omega)]; exact f1.1 a q q1 q2, f2.2.trans f1.2⟩ g1 g2 g3

set_option maxHeartbeats 4000000 in
set_option maxRecDepth 100000 in
theorem c_X9_jumpers {l : Launch} {σ : aw_S} {Post : Option Value → aw_S → Prop} {tw cs : Bool} (hR : σ.2.2 = RF tw cs) {t : Nat} (hct : isCity t) (hrt : RF tw cs 0 1 = some t) {m : mS} (hC : cityC σ t m) (wC : wfCity m) (hB : bookC σ m) (wB : wfBook m) {i w : Int} (hr : (-2147483648 ≤ i ∧ i ≤ 2147483647) ∧ (-2147483648 ≤ w ∧ w ≤ 2147483647)) (hk : ∀ v σ', isjump m i w v → frJ σ σ' → Post (some (.int (jI v))) σ') : AE l yX9_jumpers cX9_jumpers 4 (some .int) 2 50 0 0 SH SH σ [.ref 0, .int (jI i), .int (jI w)] Post := by
  show AW l yX9_jumpers cX9_jumpers 4 (some .int) 2 50 0 0 SH Post SH 0 0 σ 0 [some (.ref 0), some (.int (jI i)), some (.int (jI w)), none] []
  obtain ⟨c1, c2, c3, c4, c5, c6, c7, c8⟩ := id hC
  obtain ⟨w1, w2, w3, w4, w5, w6, w7, w8⟩ := id wC
  obtain ⟨b1, b2⟩ := id hB
  obtain ⟨z1, z2⟩ := id wB
  refine a_ald0 eX9_jumpers_0 ?_
  refine a_getR 8 64 eX9_jumpers_1 fl_X9_62 rfl rfl sh_0 ((congrFun (congrFun hR _) _).trans rf_0_8) ?_
  refine a_ild1 eX9_jumpers_4 ?_
  refine a_cV1 eX9_jumpers_5 lk_X9_289 mV_X0_nextOfRank sh_64 ⟨_, rfl, rfl⟩ mt_X0_nextOfRank rfl rfl rfl rfl rfl (c_X0_nextOfRank hR wC hB wB (by omega) (fun j hj => ?_))
  dsimp only [Option.toList, List.cons_append, List.nil_append]
  have hjb : -1 ≤ j ∧ j < 12 := by
    rcases hj with ⟨_, q⟩ | ⟨q, q2 | q2⟩
    · omega
    · omega
    · omega
  have hj := aw_mb hj
  refine a_ist3 eX9_jumpers_8 (by decide) aw_n2i ?_
  refine a_ild3 eX9_jumpers_9 ?_
  refine a_iconst eX9_jumpers_10 ?_
  refine a_icmp_eq 23 eX9_jumpers_11 (by decide) (by omega) (fun hT11 => ?_) (fun hF11 => ?_)
  · skip
    refine a_iconst eX9_jumpers_23 ?_
    refine a_iret eX9_jumpers_24 rfl rfl ⟨Nat.zero_le _, Nat.zero_le _⟩ ?_
    refine hk (-1) σ ?_ ⟨fun _ _ _ _ _ => rfl, rfl⟩
    by_cases z : vjump m i w
    · refine Or.inr ⟨z, Or.inl ⟨?_, rfl⟩⟩
      unfold vjump at z
      rcases aw_ub hj with ⟨q, _⟩ | ⟨q, q2⟩
      · omega
      · rw [show j = -1 by omega] at q2
        exact q2
    · exact Or.inl ⟨z, rfl⟩
  · skip
    refine a_ild2 eX9_jumpers_14 ?_
    refine a_iconst eX9_jumpers_15 ?_
    refine a_iconst eX9_jumpers_16 ?_
    refine a_cS3 eX9_jumpers_17 lk_X9_81 mS_X9_within mt_X9_within rfl rfl rfl rfl rfl rfl rfl (c_X9_within (by omega) (fun hT17 => ?_) (fun hF17 => ?_))
    · skip
      dsimp only [Option.toList, List.cons_append, List.nil_append]
      refine a_if_ne 25 eX9_jumpers_20 (by decide) (by omega) (fun _ => ?_) (fun h => absurd h (by decide))
      refine a_ald0 eX9_jumpers_25 ?_
      refine a_getR 8 64 eX9_jumpers_26 fl_X9_62 rfl rfl sh_0 ((congrFun (congrFun hR _) _).trans rf_0_8) ?_
      refine a_ild1 eX9_jumpers_29 ?_
      refine a_ild3 eX9_jumpers_30 ?_
      refine a_cV2 eX9_jumpers_31 lk_X9_292 mV_X0_findJumpers sh_64 ⟨_, rfl, rfl⟩ mt_X0_findJumpers rfl rfl rfl rfl rfl rfl (c_X0_findJumpers hR hB wB (i := i) (j := j) (by rcases aw_ub hj with ⟨_, q⟩ | ⟨q, q2⟩ <;> omega) (by rcases aw_ub hj with ⟨_, q⟩ | ⟨q, q2 | q2⟩ <;> omega) (fun σ1 f1 g1 g2 g3 => ?_))
      dsimp only [Option.toList, List.cons_append, List.nil_append]
      have hR : σ1.2.2 = RF tw cs := by rw [f1.2]; exact hR
      have hij : (0 ≤ i ∧ i < m 0 6) ∧ isNxt m i j ∧ i < j := by
        rcases aw_ub hj with ⟨_, q⟩ | ⟨q, q2⟩
        · omega
        · exact ⟨q, q2, by rcases q2 with q2 | q2 <;> omega⟩
      obtain ⟨hi1, hnx, hlt⟩ := hij
      refine a_ild2 eX9_jumpers_34 ?_
      by_cases hsw : w = 0 ∨ w = 1
      · rcases hsw with rfl | rfl
        · refine a_lookup 25 60 eX9_jumpers_35 (by omega) (by decide) (by decide) (by decide) ?_
          refine a_ald0 eX9_jumpers_60 ?_
          refine a_getR 8 64 eX9_jumpers_61 fl_X9_62 rfl rfl sh_0 ((congrFun (congrFun hR _) _).trans rf_0_8) ?_
          refine a_getI 1 eX9_jumpers_64 fl_X9_296 rfl rfl sh_64 ?_
          refine a_eqtop (y0 := (((jall m i j).1 : Nat) : Int)) (by exact g1) ?_
          refine a_iret eX9_jumpers_67 rfl rfl ⟨Nat.zero_le _, Nat.zero_le _⟩ ?_
          exact hk _ σ1 (Or.inr ⟨⟨hi1, by omega⟩, Or.inr ⟨j, hnx, hlt, rfl⟩⟩) f1
        · refine a_lookup 33 68 eX9_jumpers_35 (by omega) (by decide) (by decide) (by decide) ?_
          refine a_ald0 eX9_jumpers_68 ?_
          refine a_getR 8 64 eX9_jumpers_69 fl_X9_62 rfl rfl sh_0 ((congrFun (congrFun hR _) _).trans rf_0_8) ?_
          refine a_getI 2 eX9_jumpers_72 fl_X9_299 rfl rfl sh_64 ?_
          refine a_eqtop (y0 := (((jall m i j).2.1 : Nat) : Int)) (by exact g2) ?_
          refine a_iret eX9_jumpers_75 rfl rfl ⟨Nat.zero_le _, Nat.zero_le _⟩ ?_
          exact hk _ σ1 (Or.inr ⟨⟨hi1, by omega⟩, Or.inr ⟨j, hnx, hlt, rfl⟩⟩) f1
      · refine a_lookup 41 76 eX9_jumpers_35 (by omega) (by decide) (by simp [Op.lookupswitch.offset]; omega) (by decide) ?_
        refine a_ald0 eX9_jumpers_76 ?_
        refine a_getR 8 64 eX9_jumpers_77 fl_X9_62 rfl rfl sh_0 ((congrFun (congrFun hR _) _).trans rf_0_8) ?_
        refine a_getI 3 eX9_jumpers_80 fl_X9_302 rfl rfl sh_64 ?_
        refine a_eqtop (y0 := (((jall m i j).2.2 : Nat) : Int)) (by exact g3) ?_
        refine a_iret eX9_jumpers_83 rfl rfl ⟨Nat.zero_le _, Nat.zero_le _⟩ ?_
        refine hk _ σ1 (Or.inr ⟨⟨hi1, by omega⟩, Or.inr ⟨j, hnx, hlt, ?_⟩⟩) f1
        unfold jval
        rw [if_neg (by omega), if_neg (by omega)]
    · skip
      dsimp only [Option.toList, List.cons_append, List.nil_append]
      refine a_if_ne 25 eX9_jumpers_20 (by decide) (by omega) (fun h => absurd h (by decide)) (fun _ => ?_)
      refine a_iconst eX9_jumpers_23 ?_
      refine a_iret eX9_jumpers_24 rfl rfl ⟨Nat.zero_le _, Nat.zero_le _⟩ ?_
      refine hk (-1) σ ?_ ⟨fun _ _ _ _ _ => rfl, rfl⟩
      by_cases z : vjump m i w
      · refine Or.inr ⟨z, Or.inl ⟨?_, rfl⟩⟩
        unfold vjump at z
        rcases aw_ub hj with ⟨q, _⟩ | ⟨q, q2⟩
        · omega
        · rw [show j = -1 by omega] at q2
          exact q2
      · exact Or.inl ⟨z, rfl⟩

theorem lsG_s (p : Nat → Int) (M g k : Nat) : lsG p M g (k + 1) = if lsG p M g k = -2 then -2 else if M.testBit k = true ∧ g.testBit k = false then (if p k < lsG p M g k then -2 else p k) else lsG p M g k := rfl
theorem lsG_stay {p : Nat → Int} {M g k : Nat} (h1 : lsG p M g k = -2) : ∀ d : Nat, lsG p M g (k + d) = -2
  | 0 => h1
  | d + 1 => by
    have ih := lsG_stay h1 d
    show (if lsG p M g (k + d) = -2 then -2 else _) = -2
    exact if_pos ih
theorem lsG_b {m : mS} {i j : Int} {g : Nat} (h6 : 0 ≤ m (400 + j) 2 ∧ m (400 + j) 2 ≤ 6) : ∀ k : Nat, -2 ≤ lsG (pin m i j) (jM m i j) g k ∧ lsG (pin m i j) (jM m i j) g k ≤ 5
  | 0 => by show (-2 : Int) ≤ -1 ∧ (-1 : Int) ≤ 5; omega
  | k + 1 => by
    have ih := lsG_b (i := i) (g := g) h6 k
    have := pin_b (m := m) (i := i) (j := j) (k := k) h6.1
    rw [lsG_s]
    split
    · omega
    · split
      · split <;> omega
      · exact ih
set_option maxHeartbeats 4000000 in
set_option maxRecDepth 100000 in
theorem lp_like {l : Launch} {σ : aw_S} {Post : Option Value → aw_S → Prop} {tw cs : Bool} (hR : σ.2.2 = RF tw cs) {m : mS} (hB : bookM σ m) (wB : wfBook m) {i j : Int} (hi : 0 ≤ i ∧ i < m 0 6) (hj : 0 ≤ j ∧ j < m 0 6) {g : Nat} (hg : g < 64) (h1 : lsG (pin m i j) (jM m i j) g (m (400 + i) 2).toNat ≠ -2 → Post (some (.int (jI 1))) σ) (h0 : ¬ lsG (pin m i j) (jM m i j) g (m (400 + i) 2).toNat ≠ -2 → Post (some (.int (jI 0))) σ)  : ∀ (n : Nat) (k : Nat) (lx : Option Value) (ly : Option Value), ((m (400 + i) 2 - (k : Int)).toNat ≤ n) → ((k : Int) ≤ m (400 + i) 2) → (lsG (pin m i j) (jM m i j) g k ≠ -2) → AW l yX10_isLike cX10_isLike 8 (some .boolean) 1 23 0 0 SH Post SH 0 0 (σ) 6 [some (.ref 171), some (.int (jI i)), some (.int (jI j)), some (.int (jI (g : Int))), some (.int (jI (lsG (pin m i j) (jM m i j) g k))), some (.int (jI (k : Int))), lx, ly] [] := by
  intro n
  induction n with
  | zero =>
    intro k lx ly hm hkn hl
    obtain ⟨b1, b2⟩ := id hB
    obtain ⟨z1, z2⟩ := id wB
    obtain ⟨p1, p2, p3, p4⟩ := b2 i (by omega) (by omega)
    obtain ⟨r1, r2, r3, r4, r5⟩ := z2 i (by omega) (by omega)
    obtain ⟨R1, R2, R3, R4, R5⟩ := z2 j (by omega) (by omega)
    have hb := lsG_b (m := m) (i := i) (j := j) (g := g) R3 k
    have htb := tb_b g k
    have htk := mskF_t m i j k (m (400 + i) 2).toNat
    rw [show mskF m i j (m (400 + i) 2).toNat = jM m i j from rfl] at htk
    refine a_ild5 eX10_isLike_6 ?_
    refine a_ald0 eX10_isLike_8 ?_
    refine a_getR 33 190 eX10_isLike_9 fl_X10_66 rfl rfl sh_171 ((congrFun (congrFun hR _) _).trans rf_171_33) ?_
    refine a_ild1 eX10_isLike_12 ?_
    refine a_iald eX10_isLike_13 sh_190 rfl (by omega) ?_
    refine a_eqtop (y0 := m (400 + i) 2) (by exact p3) ?_
    refine a_icmp_ge 78 eX10_isLike_14 (by decide) (by omega) (fun hT14 => ?_) (fun hF14 => ?_)
    · skip
      refine a_iconst eX10_isLike_78 ?_
      refine a_zret eX10_isLike_79 rfl (by first | exact Or.inl rfl | exact Or.inr rfl | omega) rfl ⟨Nat.zero_le _, Nat.zero_le _⟩ ?_
      exact h1 (by rw [show (m (400 + i) 2).toNat = k by omega]; exact hl)
    · skip
      exfalso; omega
  | succ n ih =>
    intro k lx ly hm hkn hl
    obtain ⟨b1, b2⟩ := id hB
    obtain ⟨z1, z2⟩ := id wB
    obtain ⟨p1, p2, p3, p4⟩ := b2 i (by omega) (by omega)
    obtain ⟨r1, r2, r3, r4, r5⟩ := z2 i (by omega) (by omega)
    obtain ⟨R1, R2, R3, R4, R5⟩ := z2 j (by omega) (by omega)
    have hb := lsG_b (m := m) (i := i) (j := j) (g := g) R3 k
    have htb := tb_b g k
    have htk := mskF_t m i j k (m (400 + i) 2).toNat
    rw [show mskF m i j (m (400 + i) 2).toNat = jM m i j from rfl] at htk
    refine a_ild5 eX10_isLike_6 ?_
    refine a_ald0 eX10_isLike_8 ?_
    refine a_getR 33 190 eX10_isLike_9 fl_X10_66 rfl rfl sh_171 ((congrFun (congrFun hR _) _).trans rf_171_33) ?_
    refine a_ild1 eX10_isLike_12 ?_
    refine a_iald eX10_isLike_13 sh_190 rfl (by omega) ?_
    refine a_eqtop (y0 := m (400 + i) 2) (by exact p3) ?_
    refine a_icmp_ge 78 eX10_isLike_14 (by decide) (by omega) (fun hT14 => ?_) (fun hF14 => ?_)
    · skip
      refine a_iconst eX10_isLike_78 ?_
      refine a_zret eX10_isLike_79 rfl (by first | exact Or.inl rfl | exact Or.inr rfl | omega) rfl ⟨Nat.zero_le _, Nat.zero_le _⟩ ?_
      exact h1 (by rw [show (m (400 + i) 2).toNat = k by omega]; exact hl)
    · skip
      have rk := r4 (k : Int) (by omega) (by omega)
      have pk := p4 (k : Int) (by omega) (by omega)
      refine a_ald0 eX10_isLike_17 ?_
      refine a_getR 34 191 eX10_isLike_18 fl_X10_69 rfl rfl sh_171 ((congrFun (congrFun hR _) _).trans rf_171_34) ?_
      refine a_bipush eX10_isLike_21 (by decide) ?_
      refine a_ild1 eX10_isLike_23 ?_
      refine a_imul eX10_isLike_24 ?_
      refine a_ild5 eX10_isLike_25 ?_
      refine a_iadd eX10_isLike_27 ?_
      refine a_iald eX10_isLike_28 sh_191 rfl (by omega) ?_
      refine a_eqtop (y0 := m (400 + i) (3 + (k : Int))) (by exact pk) ?_
      refine a_ist6 eX10_isLike_29 (by decide) aw_n2i ?_
      refine a_ald0 eX10_isLike_31 ?_
      refine a_ild2 eX10_isLike_32 ?_
      refine a_ild6 eX10_isLike_33 ?_
      refine a_cV2 eX10_isLike_35 lk_X10_365 mV_X10_posIn sh_171 ⟨_, rfl, rfl⟩ mt_X10_posIn rfl rfl rfl rfl rfl rfl (c_X10_posIn hR hB wB hj (by omega) (fun v hv => ?_))
      dsimp only [Option.toList, List.cons_append, List.nil_append]
      have hvp : v = pin m i j k := isFst_u hv (pin_f k (by omega))
      subst hvp
      have hpb := pin_b (m := m) (i := i) (j := j) (k := k) (by omega)
      refine a_ist7 eX10_isLike_38 (by decide) aw_n2i ?_
      refine a_ild7 eX10_isLike_40 ?_
      refine a_iconst eX10_isLike_42 ?_
      refine a_icmp_eq 72 eX10_isLike_43 (by decide) (by omega) (fun hT43 => ?_) (fun hF43 => ?_)
      · skip
        refine a_iinc5 eX10_isLike_72 (by decide) aw_n2i ?_
        refine a_goto 6 eX10_isLike_75 (by decide) ?_
        have e9 : lsG (pin m i j) (jM m i j) g (k + 1) = lsG (pin m i j) (jM m i j) g k := by rw [lsG_s, if_neg hl, if_neg (fun z => (htk.mp z.1).2 (by omega))]
        have ih1 := ih (k + 1) (some (.int (jI (m (400 + i) (3 + (k : Int)))))) (some (.int (jI (pin m i j k)))) (by omega) (by omega) (by rw [e9]; omega)
        rw [show (((k + 1 : Nat) : Nat) : Int) = (k : Int) + 1 by omega, e9] at ih1
        exact ih1
      · skip
        refine a_ild3 eX10_isLike_46 ?_
        refine a_ild5 eX10_isLike_47 ?_
        refine a_ishr ((g / 2 ^ k : Nat) : Int) eX10_isLike_49 (jtb1 (by omega) (by omega)) ?_
        refine a_iconst eX10_isLike_50 ?_
        refine a_iand ((tb g k : Nat) : Int) eX10_isLike_51 (jtb2 g k) ?_
        refine a_iconst eX10_isLike_52 ?_
        refine a_icmp_ne 59 eX10_isLike_53 (by decide) (by omega) (fun hT53 => ?_) (fun hF53 => ?_)
        · skip
          refine a_ild7 eX10_isLike_59 ?_
          refine a_ild4 eX10_isLike_61 ?_
          refine a_icmp_ge 68 eX10_isLike_63 (by decide) (by omega) (fun hT63 => ?_) (fun hF63 => ?_)
          · skip
            refine a_ild7 eX10_isLike_68 ?_
            refine a_ist4 eX10_isLike_70 (by decide) aw_n2i ?_
            refine a_iinc5 eX10_isLike_72 (by decide) aw_n2i ?_
            refine a_goto 6 eX10_isLike_75 (by decide) ?_
            have e9 : lsG (pin m i j) (jM m i j) g (k + 1) = pin m i j k := by rw [lsG_s, if_neg hl, if_pos ⟨htk.mpr ⟨by omega, by omega⟩, tb_f.mpr (by omega)⟩, if_neg (by omega)]
            have ih1 := ih (k + 1) (some (.int (jI (m (400 + i) (3 + (k : Int)))))) (some (.int (jI (pin m i j k)))) (by omega) (by omega) (by rw [e9]; omega)
            rw [show (((k + 1 : Nat) : Nat) : Int) = (k : Int) + 1 by omega, e9] at ih1
            exact ih1
          · skip
            refine a_iconst eX10_isLike_66 ?_
            refine a_zret eX10_isLike_67 rfl (by first | exact Or.inl rfl | exact Or.inr rfl | omega) rfl ⟨Nat.zero_le _, Nat.zero_le _⟩ ?_
            refine h0 (fun z => z ?_)
            have e9 : lsG (pin m i j) (jM m i j) g (k + 1) = -2 := by rw [lsG_s, if_neg hl, if_pos ⟨htk.mpr ⟨by omega, by omega⟩, tb_f.mpr (by omega)⟩, if_pos (by omega)]
            have := lsG_stay e9 ((m (400 + i) 2).toNat - (k + 1))
            rw [show k + 1 + ((m (400 + i) 2).toNat - (k + 1)) = (m (400 + i) 2).toNat by omega] at this
            exact this
        · skip
          refine a_goto 72 eX10_isLike_56 (by decide) ?_
          refine a_iinc5 eX10_isLike_72 (by decide) aw_n2i ?_
          refine a_goto 6 eX10_isLike_75 (by decide) ?_
          have e9 : lsG (pin m i j) (jM m i j) g (k + 1) = lsG (pin m i j) (jM m i j) g k := by rw [lsG_s, if_neg hl, if_neg (fun z => by have := tb_f.mp z.2; omega)]
          have ih1 := ih (k + 1) (some (.int (jI (m (400 + i) (3 + (k : Int)))))) (some (.int (jI (pin m i j k)))) (by omega) (by omega) (by rw [e9]; omega)
          rw [show (((k + 1 : Nat) : Nat) : Int) = (k : Int) + 1 by omega, e9] at ih1
          exact ih1

set_option maxHeartbeats 4000000 in
set_option maxRecDepth 100000 in
theorem c_X10_isLike {l : Launch} {σ : aw_S} {Post : Option Value → aw_S → Prop} {tw cs : Bool} (hR : σ.2.2 = RF tw cs) {m : mS} (hB : bookM σ m) (wB : wfBook m) {i j : Int} (hi : 0 ≤ i ∧ i < m 0 6) (hj : 0 ≤ j ∧ j < m 0 6) {g : Nat} (hg : g < 64) (h1 : lsG (pin m i j) (jM m i j) g (m (400 + i) 2).toNat ≠ -2 → Post (some (.int (jI 1))) σ) (h0 : ¬ lsG (pin m i j) (jM m i j) g (m (400 + i) 2).toNat ≠ -2 → Post (some (.int (jI 0))) σ)  : AE l yX10_isLike cX10_isLike 8 (some .boolean) 1 23 0 0 SH SH σ [.ref 171, .int (jI i), .int (jI j), .int (jI (g : Int))] Post := by
  show AW l yX10_isLike cX10_isLike 8 (some .boolean) 1 23 0 0 SH Post SH 0 0 σ 0 [some (.ref 171), some (.int (jI i)), some (.int (jI j)), some (.int (jI (g : Int))), none, none, none, none] []
  obtain ⟨b1, b2⟩ := id hB
  obtain ⟨z1, z2⟩ := id wB
  obtain ⟨p1, p2, p3, p4⟩ := b2 i (by omega) (by omega)
  obtain ⟨r1, r2, r3, r4, r5⟩ := z2 i (by omega) (by omega)
  obtain ⟨R1, R2, R3, R4, R5⟩ := z2 j (by omega) (by omega)
  refine a_iconst eX10_isLike_0 ?_
  refine a_ist4 eX10_isLike_1 (by decide) aw_n2i ?_
  refine a_iconst eX10_isLike_3 ?_
  refine a_ist5 eX10_isLike_4 (by decide) aw_n2i ?_
  exact lp_like hR hB wB hi hj hg h1 h0 _ 0 none none (Nat.le_refl _) (by omega) (by show (-1 : Int) ≠ -2; decide)

def bth (m : mS) (i j : Int) (g : Nat) : Nat → Prop := fun k => ∀ q : Nat, q < k → g.testBit q = true → pin m i j q ≠ -1
theorem bth_and {m : mS} {i j : Int} {g : Nat} (hg : g < 2 ^ (m (400 + i) 2).toNat) : bth m i j g (m (400 + i) 2).toNat ↔ g &&& jM m i j = g := by
  have ht := fun q => mskF_t m i j q (m (400 + i) 2).toNat
  constructor
  · intro h
    refine Nat.eq_of_testBit_eq (fun q => ?_)
    rw [Nat.testBit_and]
    cases z : g.testBit q
    · rfl
    · have hq : q < (m (400 + i) 2).toNat := by
        rcases Nat.lt_or_ge q (m (400 + i) 2).toNat with w | w
        · exact w
        · have := Nat.testBit_lt_two_pow (Nat.lt_of_lt_of_le hg (Nat.pow_le_pow_right (by decide) w))
          rw [this] at z
          cases z
      rw [Bool.true_and]
      exact (ht q).mpr ⟨hq, h q hq z⟩
  · intro h q q1 q2
    rw [← h, Nat.testBit_and, Bool.and_eq_true] at q2
    exact ((ht q).mp q2.2).2
set_option maxHeartbeats 4000000 in
set_option maxRecDepth 100000 in
theorem lp_jmI {l : Launch} {σ : aw_S} {Post : Option Value → aw_S → Prop} {tw cs : Bool} (hR : σ.2.2 = RF tw cs) {m : mS} (hB : bookM σ m) (wB : wfBook m) {i j : Int} (hi : 0 ≤ i ∧ i < m 0 6) (hj : 0 ≤ j ∧ j < m 0 6) {w : Int} {g : Nat} {a1 a2 a3 : Option Value} (hg : g < 64) (hk : ∀ b : Int, (b = 0 ∨ b = 1) → (b = 1 ↔ bth m i j g (m (400 + i) 2).toNat) → ∀ lx : Option Value, AW l yX10_jumpers cX10_jumpers 11 (some .int) 2 50 0 0 SH Post SH 0 0 (σ) 185 [some (.ref 171), some (.int (jI i)), some (.int (jI w)), some (.int (jI j)), a1, a2, a3, some (.int (jI (g : Int))), some (.int (jI b)), some (.int (jI ((btG (cof m i) g (m (400 + i) 2).toNat : Nat) : Int))), lx] [])  : ∀ (n : Nat) (k : Nat) (b : Int), ((m (400 + i) 2 - (k : Int)).toNat ≤ n) → ((k : Int) ≤ m (400 + i) 2) → (b = 0 ∨ b = 1) → (aw_bx (b = 1 ↔ bth m i j g k)) → AW l yX10_jumpers cX10_jumpers 11 (some .int) 2 50 0 0 SH Post SH 0 0 (σ) 103 [some (.ref 171), some (.int (jI i)), some (.int (jI w)), some (.int (jI j)), a1, a2, a3, some (.int (jI (g : Int))), some (.int (jI b)), some (.int (jI ((btG (cof m i) g k : Nat) : Int))), some (.int (jI (k : Int)))] [] := by
  intro n
  induction n with
  | zero =>
    intro k b hm hkn hb hbt
    obtain ⟨b1, b2⟩ := id hB
    obtain ⟨z1, z2⟩ := id wB
    obtain ⟨p1, p2, p3, p4⟩ := b2 i (by omega) (by omega)
    obtain ⟨r1, r2, r3, r4, r5⟩ := z2 i (by omega) (by omega)
    obtain ⟨R1, R2, R3, R4, R5⟩ := z2 j (by omega) (by omega)
    have htb := tb_b g k
    refine a_ild10 eX10_jumpers_103 ?_
    refine a_ald0 eX10_jumpers_105 ?_
    refine a_getR 33 190 eX10_jumpers_106 fl_X10_66 rfl rfl sh_171 ((congrFun (congrFun hR _) _).trans rf_171_33) ?_
    refine a_ild1 eX10_jumpers_109 ?_
    refine a_iald eX10_jumpers_110 sh_190 rfl (by omega) ?_
    refine a_eqtop (y0 := m (400 + i) 2) (by exact p3) ?_
    refine a_icmp_ge 185 eX10_jumpers_111 (by decide) (by omega) (fun hT111 => ?_) (fun hF111 => ?_)
    · skip
      rw [show (m (400 + i) 2).toNat = k by omega] at hk
      exact hk b hb (aw_ub hbt) _
    · skip
      exfalso; omega
  | succ n ih =>
    intro k b hm hkn hb hbt
    obtain ⟨b1, b2⟩ := id hB
    obtain ⟨z1, z2⟩ := id wB
    obtain ⟨p1, p2, p3, p4⟩ := b2 i (by omega) (by omega)
    obtain ⟨r1, r2, r3, r4, r5⟩ := z2 i (by omega) (by omega)
    obtain ⟨R1, R2, R3, R4, R5⟩ := z2 j (by omega) (by omega)
    have htb := tb_b g k
    refine a_ild10 eX10_jumpers_103 ?_
    refine a_ald0 eX10_jumpers_105 ?_
    refine a_getR 33 190 eX10_jumpers_106 fl_X10_66 rfl rfl sh_171 ((congrFun (congrFun hR _) _).trans rf_171_33) ?_
    refine a_ild1 eX10_jumpers_109 ?_
    refine a_iald eX10_jumpers_110 sh_190 rfl (by omega) ?_
    refine a_eqtop (y0 := m (400 + i) 2) (by exact p3) ?_
    refine a_icmp_ge 185 eX10_jumpers_111 (by decide) (by omega) (fun hT111 => ?_) (fun hF111 => ?_)
    · skip
      rw [show (m (400 + i) 2).toNat = k by omega] at hk
      exact hk b hb (aw_ub hbt) _
    · skip
      have rk := r4 (k : Int) (by omega) (by omega)
      have pk := p4 (k : Int) (by omega) (by omega)
      have hck : m (400 + i) (3 + (k : Int)) = ((cof m i k : Nat) : Int) := by unfold cof; omega
      refine a_ild7 eX10_jumpers_114 ?_
      refine a_ild10 eX10_jumpers_116 ?_
      refine a_ishr ((g / 2 ^ k : Nat) : Int) eX10_jumpers_118 (jtb1 (by omega) (by omega)) ?_
      refine a_iconst eX10_jumpers_119 ?_
      refine a_iand ((tb g k : Nat) : Int) eX10_jumpers_120 (jtb2 g k) ?_
      refine a_if_ne 127 eX10_jumpers_121 (by decide) (by omega) (fun hT121 => ?_) (fun hF121 => ?_)
      · skip
        refine a_ild8 eX10_jumpers_127 ?_
        refine a_if_eq 157 eX10_jumpers_129 (by decide) (by omega) (fun hT129 => ?_) (fun hF129 => ?_)
        · skip
          refine a_iconst eX10_jumpers_157 ?_
          refine a_ist8 eX10_jumpers_158 (by decide) aw_n2i ?_
          refine a_ild9 eX10_jumpers_160 ?_
          refine a_iconst eX10_jumpers_162 ?_
          refine a_ald0 eX10_jumpers_163 ?_
          refine a_getR 34 191 eX10_jumpers_164 fl_X10_69 rfl rfl sh_171 ((congrFun (congrFun hR _) _).trans rf_171_34) ?_
          refine a_bipush eX10_jumpers_167 (by decide) ?_
          refine a_ild1 eX10_jumpers_169 ?_
          refine a_imul eX10_jumpers_170 ?_
          refine a_ild10 eX10_jumpers_171 ?_
          refine a_iadd eX10_jumpers_173 ?_
          refine a_iald eX10_jumpers_174 sh_191 rfl (by omega) ?_
          refine a_eqtop (y0 := ((cof m i k : Nat) : Int)) (by exact pk.trans hck) ?_
          refine a_ishl (2 ^ cof m i k) eX10_jumpers_175 (by rw [pw_shl (by omega), Int.toNat_natCast]) ?_
          refine a_ior ((btG (cof m i) g k ||| 2 ^ cof m i k : Nat) : Int) eX10_jumpers_176 (by have h9 := aw_or16 (btG (cof m i) g k) (k := ((cof m i k : Nat) : Int)) (by omega); rw [Int.toNat_natCast] at h9; exact h9) ?_
          refine a_ist9 eX10_jumpers_177 (by decide) aw_n2i ?_
          refine a_iinc10 eX10_jumpers_179 (by decide) aw_n2i ?_
          refine a_goto 103 eX10_jumpers_182 (by decide) ?_
          have e9 : btG (cof m i) g (k + 1) = btG (cof m i) g k ||| 2 ^ cof m i k := if_pos ((tb_i g k).mpr (by omega))
          have ih1 := ih (k + 1) 0 (by omega) (by omega) (by omega) (aw_mb ?_)
          · rw [show (((k + 1 : Nat) : Nat) : Int) = (k : Int) + 1 by omega, e9] at ih1
            exact ih1
          · have hbt := aw_ub hbt
            have hgk : g.testBit k = true := (tb_i g k).mpr (by omega)
            refine ⟨fun z => by omega, fun z => ?_⟩
            first
              | exact absurd (z k (by omega) hgk) (by omega)
              | exact absurd (hbt.mpr (fun q q1 q2 => z q (by omega) q2)) (by omega)
        · skip
          refine a_ald0 eX10_jumpers_132 ?_
          refine a_ild3 eX10_jumpers_133 ?_
          refine a_ald0 eX10_jumpers_134 ?_
          refine a_getR 34 191 eX10_jumpers_135 fl_X10_69 rfl rfl sh_171 ((congrFun (congrFun hR _) _).trans rf_171_34) ?_
          refine a_bipush eX10_jumpers_138 (by decide) ?_
          refine a_ild1 eX10_jumpers_140 ?_
          refine a_imul eX10_jumpers_141 ?_
          refine a_ild10 eX10_jumpers_142 ?_
          refine a_iadd eX10_jumpers_144 ?_
          refine a_iald eX10_jumpers_145 sh_191 rfl (by omega) ?_
          refine a_eqtop (y0 := m (400 + i) (3 + (k : Int))) (by exact pk) ?_
          refine a_cV2 eX10_jumpers_146 lk_X10_365 mV_X10_posIn sh_171 ⟨_, rfl, rfl⟩ mt_X10_posIn rfl rfl rfl rfl rfl rfl (c_X10_posIn hR hB wB hj (by omega) (fun v hv => ?_))
          dsimp only [Option.toList, List.cons_append, List.nil_append]
          have hvp : v = pin m i j k := isFst_u hv (pin_f k (by omega))
          subst hvp
          have hpb := pin_b (m := m) (i := i) (j := j) (k := k) (by omega)
          refine a_iconst eX10_jumpers_149 ?_
          refine a_icmp_eq 157 eX10_jumpers_150 (by decide) (by omega) (fun hT150 => ?_) (fun hF150 => ?_)
          · skip
            refine a_iconst eX10_jumpers_157 ?_
            refine a_ist8 eX10_jumpers_158 (by decide) aw_n2i ?_
            refine a_ild9 eX10_jumpers_160 ?_
            refine a_iconst eX10_jumpers_162 ?_
            refine a_ald0 eX10_jumpers_163 ?_
            refine a_getR 34 191 eX10_jumpers_164 fl_X10_69 rfl rfl sh_171 ((congrFun (congrFun hR _) _).trans rf_171_34) ?_
            refine a_bipush eX10_jumpers_167 (by decide) ?_
            refine a_ild1 eX10_jumpers_169 ?_
            refine a_imul eX10_jumpers_170 ?_
            refine a_ild10 eX10_jumpers_171 ?_
            refine a_iadd eX10_jumpers_173 ?_
            refine a_iald eX10_jumpers_174 sh_191 rfl (by omega) ?_
            refine a_eqtop (y0 := ((cof m i k : Nat) : Int)) (by exact pk.trans hck) ?_
            refine a_ishl (2 ^ cof m i k) eX10_jumpers_175 (by rw [pw_shl (by omega), Int.toNat_natCast]) ?_
            refine a_ior ((btG (cof m i) g k ||| 2 ^ cof m i k : Nat) : Int) eX10_jumpers_176 (by have h9 := aw_or16 (btG (cof m i) g k) (k := ((cof m i k : Nat) : Int)) (by omega); rw [Int.toNat_natCast] at h9; exact h9) ?_
            refine a_ist9 eX10_jumpers_177 (by decide) aw_n2i ?_
            refine a_iinc10 eX10_jumpers_179 (by decide) aw_n2i ?_
            refine a_goto 103 eX10_jumpers_182 (by decide) ?_
            have e9 : btG (cof m i) g (k + 1) = btG (cof m i) g k ||| 2 ^ cof m i k := if_pos ((tb_i g k).mpr (by omega))
            have ih1 := ih (k + 1) 0 (by omega) (by omega) (by omega) (aw_mb ?_)
            · rw [show (((k + 1 : Nat) : Nat) : Int) = (k : Int) + 1 by omega, e9] at ih1
              exact ih1
            · have hbt := aw_ub hbt
              have hgk : g.testBit k = true := (tb_i g k).mpr (by omega)
              refine ⟨fun z => by omega, fun z => ?_⟩
              first
                | exact absurd (z k (by omega) hgk) (by omega)
                | exact absurd (hbt.mpr (fun q q1 q2 => z q (by omega) q2)) (by omega)
          · skip
            refine a_iconst eX10_jumpers_153 ?_
            refine a_goto 158 eX10_jumpers_154 (by decide) ?_
            refine a_ist8 eX10_jumpers_158 (by decide) aw_n2i ?_
            refine a_ild9 eX10_jumpers_160 ?_
            refine a_iconst eX10_jumpers_162 ?_
            refine a_ald0 eX10_jumpers_163 ?_
            refine a_getR 34 191 eX10_jumpers_164 fl_X10_69 rfl rfl sh_171 ((congrFun (congrFun hR _) _).trans rf_171_34) ?_
            refine a_bipush eX10_jumpers_167 (by decide) ?_
            refine a_ild1 eX10_jumpers_169 ?_
            refine a_imul eX10_jumpers_170 ?_
            refine a_ild10 eX10_jumpers_171 ?_
            refine a_iadd eX10_jumpers_173 ?_
            refine a_iald eX10_jumpers_174 sh_191 rfl (by omega) ?_
            refine a_eqtop (y0 := ((cof m i k : Nat) : Int)) (by exact pk.trans hck) ?_
            refine a_ishl (2 ^ cof m i k) eX10_jumpers_175 (by rw [pw_shl (by omega), Int.toNat_natCast]) ?_
            refine a_ior ((btG (cof m i) g k ||| 2 ^ cof m i k : Nat) : Int) eX10_jumpers_176 (by have h9 := aw_or16 (btG (cof m i) g k) (k := ((cof m i k : Nat) : Int)) (by omega); rw [Int.toNat_natCast] at h9; exact h9) ?_
            refine a_ist9 eX10_jumpers_177 (by decide) aw_n2i ?_
            refine a_iinc10 eX10_jumpers_179 (by decide) aw_n2i ?_
            refine a_goto 103 eX10_jumpers_182 (by decide) ?_
            have e9 : btG (cof m i) g (k + 1) = btG (cof m i) g k ||| 2 ^ cof m i k := if_pos ((tb_i g k).mpr (by omega))
            have ih1 := ih (k + 1) 1 (by omega) (by omega) (by omega) (aw_mb ?_)
            · rw [show (((k + 1 : Nat) : Nat) : Int) = (k : Int) + 1 by omega, e9] at ih1
              exact ih1
            · have hbt := aw_ub hbt
              have hgk : g.testBit k = true := (tb_i g k).mpr (by omega)
              refine ⟨fun _ q q1 q2 => ?_, fun _ => rfl⟩
              by_cases z : q = k
              · rw [z]; omega
              · exact hbt.mp (by omega) q (by omega) q2
      · skip
        refine a_goto 179 eX10_jumpers_124 (by decide) ?_
        refine a_iinc10 eX10_jumpers_179 (by decide) aw_n2i ?_
        refine a_goto 103 eX10_jumpers_182 (by decide) ?_
        have e9 : btG (cof m i) g (k + 1) = btG (cof m i) g k := if_neg (fun z => by have := (tb_i g k).mp z; omega)
        have ih1 := ih (k + 1) b (by omega) (by omega) hb (aw_mb ((aw_ub hbt).trans ⟨fun z q q1 q2 => ?_, fun z q q1 q2 => z q (by omega) q2⟩))
        · rw [show (((k + 1 : Nat) : Nat) : Int) = (k : Int) + 1 by omega, e9] at ih1
          exact ih1
        · refine z q ?_ q2
          rcases Nat.lt_or_ge q k with w1 | w1
          · exact w1
          · rw [show q = k by omega] at q2
            have := (tb_i g k).mp q2
            omega

set_option maxHeartbeats 4000000 in
set_option maxRecDepth 100000 in
theorem lp_jmO {l : Launch} {σ : aw_S} {Post : Option Value → aw_S → Prop} {tw cs : Bool} (hR : σ.2.2 = RF tw cs) {m : mS} (hB : bookM σ m) (wB : wfBook m) {i j : Int} (hi : 0 ≤ i ∧ i < m 0 6) (hj : 0 ≤ j ∧ j < m 0 6) {w : Int} (hw : 0 ≤ w ∧ w ≤ 2) {J : Nat → Nat × Nat × Nat} (hJ : J = jfold (okG m i j) (fun g => btG (cof m i) g (m (400 + i) 2).toNat)) (hk : Post (some (.int (jI ((jval m i j w : Nat) : Int)))) σ)  : ∀ (n : Nat) (g : Nat) (lx : Option Value) (ly : Option Value) (lz : Option Value), ((2 ^ (m (400 + i) 2).toNat - g) ≤ n) → (g ≤ 2 ^ (m (400 + i) 2).toNat) → AW l yX10_jumpers cX10_jumpers 11 (some .int) 2 50 0 0 SH Post SH 0 0 (σ) 81 [some (.ref 171), some (.int (jI i)), some (.int (jI w)), some (.int (jI j)), some (.int (jI (((J g).1 : Nat) : Int))), some (.int (jI (((J g).2.1 : Nat) : Int))), some (.int (jI (((J g).2.2 : Nat) : Int))), some (.int (jI (g : Int))), lx, ly, lz] [] := by
  intro n
  induction n with
  | zero =>
    intro g lx ly lz hm hg
    obtain ⟨b1, b2⟩ := id hB
    obtain ⟨z1, z2⟩ := id wB
    obtain ⟨p1, p2, p3, p4⟩ := b2 i (by omega) (by omega)
    obtain ⟨r1, r2, r3, r4, r5⟩ := z2 i (by omega) (by omega)
    obtain ⟨R1, R2, R3, R4, R5⟩ := z2 j (by omega) (by omega)
    have h64 : 2 ^ (m (400 + i) 2).toNat ≤ 2 ^ 6 := Nat.pow_le_pow_right (by decide) (by omega)
    have hJ7 := (jfold_le (okG m i j) (fun g => btG (cof m i) g (m (400 + i) 2).toNat) g).1
    rw [← hJ] at hJ7
    have hpw := pw_b (k := m (400 + i) 2) (by omega)
    have hTe : ((2 ^ (m (400 + i) 2).toNat : Nat) : Int) = 2 ^ (m (400 + i) 2).toNat := by rw [Int.natCast_pow]; rfl
    have hJe : ∀ T, T = 2 ^ (m (400 + i) 2).toNat → jall m i j = J T := fun T hT => by rw [hT, hJ]; rfl
    refine a_ild7 eX10_jumpers_81 ?_
    refine a_iconst eX10_jumpers_83 ?_
    refine a_ald0 eX10_jumpers_84 ?_
    refine a_getR 33 190 eX10_jumpers_85 fl_X10_66 rfl rfl sh_171 ((congrFun (congrFun hR _) _).trans rf_171_33) ?_
    refine a_ild1 eX10_jumpers_88 ?_
    refine a_iald eX10_jumpers_89 sh_190 rfl (by omega) ?_
    refine a_eqtop (y0 := m (400 + i) 2) (by exact p3) ?_
    refine a_ishl ((2 ^ (m (400 + i) 2).toNat : Nat) : Int) eX10_jumpers_90 (by rw [pw_shl (by omega), ← hTe]) ?_
    refine a_icmp_ge 254 eX10_jumpers_91 (by decide) (by omega) (fun hT91 => ?_) (fun hF91 => ?_)
    · skip
      refine a_ild2 eX10_jumpers_254 ?_
      refine a_if_ne 263 eX10_jumpers_255 (by decide) (by omega) (fun hT255 => ?_) (fun hF255 => ?_)
      · skip
        refine a_ild2 eX10_jumpers_263 ?_
        refine a_iconst eX10_jumpers_264 ?_
        refine a_icmp_ne 273 eX10_jumpers_265 (by decide) (by omega) (fun hT265 => ?_) (fun hF265 => ?_)
        · skip
          refine a_ild6 eX10_jumpers_273 ?_
          refine a_iret eX10_jumpers_275 rfl rfl ⟨Nat.zero_le _, Nat.zero_le _⟩ ?_
          have e9 := hJe g (by omega)
          unfold jval at hk
          rw [e9] at hk
          first
            | (rw [if_pos (by omega)] at hk; exact hk)
            | (rw [if_neg (by omega), if_pos (by omega)] at hk; exact hk)
            | (rw [if_neg (by omega), if_neg (by omega)] at hk; exact hk)
        · skip
          refine a_ild5 eX10_jumpers_268 ?_
          refine a_goto 275 eX10_jumpers_270 (by decide) ?_
          refine a_iret eX10_jumpers_275 rfl rfl ⟨Nat.zero_le _, Nat.zero_le _⟩ ?_
          have e9 := hJe g (by omega)
          unfold jval at hk
          rw [e9] at hk
          first
            | (rw [if_pos (by omega)] at hk; exact hk)
            | (rw [if_neg (by omega), if_pos (by omega)] at hk; exact hk)
            | (rw [if_neg (by omega), if_neg (by omega)] at hk; exact hk)
      · skip
        refine a_ild4 eX10_jumpers_258 ?_
        refine a_goto 275 eX10_jumpers_260 (by decide) ?_
        refine a_iret eX10_jumpers_275 rfl rfl ⟨Nat.zero_le _, Nat.zero_le _⟩ ?_
        have e9 := hJe g (by omega)
        unfold jval at hk
        rw [e9] at hk
        first
          | (rw [if_pos (by omega)] at hk; exact hk)
          | (rw [if_neg (by omega), if_pos (by omega)] at hk; exact hk)
          | (rw [if_neg (by omega), if_neg (by omega)] at hk; exact hk)
    · skip
      exfalso; omega
  | succ n ih =>
    intro g lx ly lz hm hg
    obtain ⟨b1, b2⟩ := id hB
    obtain ⟨z1, z2⟩ := id wB
    obtain ⟨p1, p2, p3, p4⟩ := b2 i (by omega) (by omega)
    obtain ⟨r1, r2, r3, r4, r5⟩ := z2 i (by omega) (by omega)
    obtain ⟨R1, R2, R3, R4, R5⟩ := z2 j (by omega) (by omega)
    have h64 : 2 ^ (m (400 + i) 2).toNat ≤ 2 ^ 6 := Nat.pow_le_pow_right (by decide) (by omega)
    have hJ7 := (jfold_le (okG m i j) (fun g => btG (cof m i) g (m (400 + i) 2).toNat) g).1
    rw [← hJ] at hJ7
    have hpw := pw_b (k := m (400 + i) 2) (by omega)
    have hTe : ((2 ^ (m (400 + i) 2).toNat : Nat) : Int) = 2 ^ (m (400 + i) 2).toNat := by rw [Int.natCast_pow]; rfl
    have hJe : ∀ T, T = 2 ^ (m (400 + i) 2).toNat → jall m i j = J T := fun T hT => by rw [hT, hJ]; rfl
    refine a_ild7 eX10_jumpers_81 ?_
    refine a_iconst eX10_jumpers_83 ?_
    refine a_ald0 eX10_jumpers_84 ?_
    refine a_getR 33 190 eX10_jumpers_85 fl_X10_66 rfl rfl sh_171 ((congrFun (congrFun hR _) _).trans rf_171_33) ?_
    refine a_ild1 eX10_jumpers_88 ?_
    refine a_iald eX10_jumpers_89 sh_190 rfl (by omega) ?_
    refine a_eqtop (y0 := m (400 + i) 2) (by exact p3) ?_
    refine a_ishl ((2 ^ (m (400 + i) 2).toNat : Nat) : Int) eX10_jumpers_90 (by rw [pw_shl (by omega), ← hTe]) ?_
    refine a_icmp_ge 254 eX10_jumpers_91 (by decide) (by omega) (fun hT91 => ?_) (fun hF91 => ?_)
    · skip
      refine a_ild2 eX10_jumpers_254 ?_
      refine a_if_ne 263 eX10_jumpers_255 (by decide) (by omega) (fun hT255 => ?_) (fun hF255 => ?_)
      · skip
        refine a_ild2 eX10_jumpers_263 ?_
        refine a_iconst eX10_jumpers_264 ?_
        refine a_icmp_ne 273 eX10_jumpers_265 (by decide) (by omega) (fun hT265 => ?_) (fun hF265 => ?_)
        · skip
          refine a_ild6 eX10_jumpers_273 ?_
          refine a_iret eX10_jumpers_275 rfl rfl ⟨Nat.zero_le _, Nat.zero_le _⟩ ?_
          have e9 := hJe g (by omega)
          unfold jval at hk
          rw [e9] at hk
          first
            | (rw [if_pos (by omega)] at hk; exact hk)
            | (rw [if_neg (by omega), if_pos (by omega)] at hk; exact hk)
            | (rw [if_neg (by omega), if_neg (by omega)] at hk; exact hk)
        · skip
          refine a_ild5 eX10_jumpers_268 ?_
          refine a_goto 275 eX10_jumpers_270 (by decide) ?_
          refine a_iret eX10_jumpers_275 rfl rfl ⟨Nat.zero_le _, Nat.zero_le _⟩ ?_
          have e9 := hJe g (by omega)
          unfold jval at hk
          rw [e9] at hk
          first
            | (rw [if_pos (by omega)] at hk; exact hk)
            | (rw [if_neg (by omega), if_pos (by omega)] at hk; exact hk)
            | (rw [if_neg (by omega), if_neg (by omega)] at hk; exact hk)
      · skip
        refine a_ild4 eX10_jumpers_258 ?_
        refine a_goto 275 eX10_jumpers_260 (by decide) ?_
        refine a_iret eX10_jumpers_275 rfl rfl ⟨Nat.zero_le _, Nat.zero_le _⟩ ?_
        have e9 := hJe g (by omega)
        unfold jval at hk
        rw [e9] at hk
        first
          | (rw [if_pos (by omega)] at hk; exact hk)
          | (rw [if_neg (by omega), if_pos (by omega)] at hk; exact hk)
          | (rw [if_neg (by omega), if_neg (by omega)] at hk; exact hk)
    · skip
      have hp6 := pop_6 (x := g) (by omega)
      refine a_iconst eX10_jumpers_94 ?_
      refine a_ist8 eX10_jumpers_95 (by decide) aw_n2i ?_
      refine a_iconst eX10_jumpers_97 ?_
      refine a_ist9 eX10_jumpers_98 (by decide) aw_n2i ?_
      refine a_iconst eX10_jumpers_100 ?_
      refine a_ist10 eX10_jumpers_101 (by decide) aw_n2i ?_
      refine lp_jmI hR hB wB hi hj (g := g) (by omega) (fun b hb hbt lx => ?_) _ 0 1 (Nat.le_refl _) (by omega) (Or.inr rfl) (aw_mb ⟨fun _ q q1 _ => by omega, fun _ => rfl⟩)
      have hba := hbt.trans (bth_and (by omega))
      clear hbt
      have hba := aw_mb hba
      refine a_ild8 eX10_jumpers_185 ?_
      refine a_if_eq 248 eX10_jumpers_187 (by decide) (by omega) (fun hT187 => ?_) (fun hF187 => ?_)
      · skip
        refine a_iinc7 eX10_jumpers_248 (by decide) aw_n2i ?_
        refine a_goto 81 eX10_jumpers_251 (by decide) ?_
        have e9 : J (g + 1) = J g := by rw [hJ]; exact stp_n (fun z => by unfold okG at z; rw [Bool.and_eq_true] at z; have := (aw_ub hba).mpr (of_decide_eq_true z.1.1); omega)
        rw [show (g : Int) + 1 = (((g + 1 : Nat) : Nat) : Int) by omega, ← e9]
        exact ih (g + 1) _ _ _ (by omega) (by omega)
      · skip
        refine a_ild7 eX10_jumpers_190 ?_
        refine a_cS1 eX10_jumpers_192 lk_X10_362 mS_X10_ones mt_X10_ones rfl rfl rfl rfl rfl (c_X10_ones (by omega) ?_)
        dsimp only [Option.toList, List.cons_append, List.nil_append]
        refine a_ild4 eX10_jumpers_195 ?_
        refine a_icmp_gt 248 eX10_jumpers_197 (by decide) (by omega) (fun hT197 => ?_) (fun hF197 => ?_)
        · skip
          refine a_iinc7 eX10_jumpers_248 (by decide) aw_n2i ?_
          refine a_goto 81 eX10_jumpers_251 (by decide) ?_
          have e9 : J (g + 1) = J g := by rw [hJ]; exact stp_n (fun z => by have := z.2; rw [← hJ] at this; omega)
          rw [show (g : Int) + 1 = (((g + 1 : Nat) : Nat) : Int) by omega, ← e9]
          exact ih (g + 1) _ _ _ (by omega) (by omega)
        · skip
          refine a_ald0 eX10_jumpers_200 ?_
          refine a_ild1 eX10_jumpers_201 ?_
          refine a_ild3 eX10_jumpers_202 ?_
          refine a_ild7 eX10_jumpers_203 ?_
          refine a_cV3 eX10_jumpers_205 lk_X10_368 mV_X10_isLike sh_171 ⟨_, rfl, rfl⟩ mt_X10_isLike rfl rfl rfl rfl rfl rfl rfl (c_X10_isLike hR hB wB hi hj (by omega) (fun hT205 => ?_) (fun hF205 => ?_))
          · skip
            dsimp only [Option.toList, List.cons_append, List.nil_append]
            refine a_if_ne 214 eX10_jumpers_208 (by decide) (by omega) (fun _ => ?_) (fun h => absurd h (by decide))
            refine a_ild7 eX10_jumpers_214 ?_
            refine a_cS1 eX10_jumpers_216 lk_X10_362 mS_X10_ones mt_X10_ones rfl rfl rfl rfl rfl (c_X10_ones (by omega) ?_)
            dsimp only [Option.toList, List.cons_append, List.nil_append]
            refine a_ild4 eX10_jumpers_219 ?_
            refine a_icmp_ge 238 eX10_jumpers_221 (by decide) (by omega) (fun hT221 => ?_) (fun hF221 => ?_)
            · skip
              refine a_ild5 eX10_jumpers_238 ?_
              refine a_ild9 eX10_jumpers_240 ?_
              refine a_iand (((J g).2.1 &&& btG (cof m i) g (m (400 + i) 2).toNat : Nat) : Int) eX10_jumpers_242 (jN_and _ _) ?_
              refine a_ist5 eX10_jumpers_243 (by decide) aw_n2i ?_
              refine a_iinc6 eX10_jumpers_245 (by decide) aw_n2i ?_
              refine a_iinc7 eX10_jumpers_248 (by decide) aw_n2i ?_
              refine a_goto 81 eX10_jumpers_251 (by decide) ?_
              have ho : okG m i j g = true := by unfold okG; rw [Bool.and_eq_true]; exact ⟨decide_eq_true ((aw_ub hba).mp (by omega)), decide_eq_true hT205⟩
              have e9 : J (g + 1) = ((J g).1, (J g).2.1 &&& btG (cof m i) g (m (400 + i) 2).toNat, (J g).2.2 + 1) := by rw [hJ]; exact stp_e ho (by rw [← hJ]; omega) (by rw [← hJ]; omega)
              have e1 : (J (g + 1)).1 = (J g).1 := by rw [e9]
              have e2 : (J (g + 1)).2.1 = (J g).2.1 &&& btG (cof m i) g (m (400 + i) 2).toNat := by rw [e9]
              have e3 : (J (g + 1)).2.2 = (J g).2.2 + 1 := by rw [e9]
              rw [show (g : Int) + 1 = (((g + 1 : Nat) : Nat) : Int) by omega, ← e1, ← e2, show (((J g).2.2 : Nat) : Int) + 1 = (((J (g + 1)).2.2 : Nat) : Int) by rw [e3]; rfl]
              exact ih (g + 1) _ _ _ (by omega) (by omega)
            · skip
              refine a_ild7 eX10_jumpers_224 ?_
              refine a_cS1 eX10_jumpers_226 lk_X10_362 mS_X10_ones mt_X10_ones rfl rfl rfl rfl rfl (c_X10_ones (by omega) ?_)
              dsimp only [Option.toList, List.cons_append, List.nil_append]
              refine a_ist4 eX10_jumpers_229 (by decide) aw_n2i ?_
              refine a_ild9 eX10_jumpers_231 ?_
              refine a_ist5 eX10_jumpers_233 (by decide) aw_n2i ?_
              refine a_iconst eX10_jumpers_235 ?_
              refine a_ist6 eX10_jumpers_236 (by decide) aw_n2i ?_
              refine a_ild5 eX10_jumpers_238 ?_
              refine a_ild9 eX10_jumpers_240 ?_
              refine a_iand ((btG (cof m i) g (m (400 + i) 2).toNat : Nat) : Int) eX10_jumpers_242 (by rw [jN_and, Nat.and_self]) ?_
              refine a_ist5 eX10_jumpers_243 (by decide) aw_n2i ?_
              refine a_iinc6 eX10_jumpers_245 (by decide) aw_n2i ?_
              refine a_iinc7 eX10_jumpers_248 (by decide) aw_n2i ?_
              refine a_goto 81 eX10_jumpers_251 (by decide) ?_
              have ho : okG m i j g = true := by unfold okG; rw [Bool.and_eq_true]; exact ⟨decide_eq_true ((aw_ub hba).mp (by omega)), decide_eq_true hT205⟩
              have e9 : J (g + 1) = (pop g, btG (cof m i) g (m (400 + i) 2).toNat, 1) := by rw [hJ]; exact stp_l ho (by rw [← hJ]; omega)
              have e1 : (J (g + 1)).1 = pop g := by rw [e9]
              have e2 : (J (g + 1)).2.1 = btG (cof m i) g (m (400 + i) 2).toNat := by rw [e9]
              have e3 : (J (g + 1)).2.2 = 1 := by rw [e9]
              rw [show (g : Int) + 1 = (((g + 1 : Nat) : Nat) : Int) by omega, ← e1, ← e2, show (0 + 1 : Int) = (((J (g + 1)).2.2 : Nat) : Int) by rw [e3]; rfl]
              exact ih (g + 1) _ _ _ (by omega) (by omega)
          · skip
            dsimp only [Option.toList, List.cons_append, List.nil_append]
            refine a_if_ne 214 eX10_jumpers_208 (by decide) (by omega) (fun h => absurd h (by decide)) (fun _ => ?_)
            refine a_goto 248 eX10_jumpers_211 (by decide) ?_
            refine a_iinc7 eX10_jumpers_248 (by decide) aw_n2i ?_
            refine a_goto 81 eX10_jumpers_251 (by decide) ?_
            have e9 : J (g + 1) = J g := by rw [hJ]; exact stp_n (fun z => by have z := z.1; unfold okG at z; rw [Bool.and_eq_true] at z; exact hF205 (of_decide_eq_true z.2))
            rw [show (g : Int) + 1 = (((g + 1 : Nat) : Nat) : Int) by omega, ← e9]
            exact ih (g + 1) _ _ _ (by omega) (by omega)

set_option maxHeartbeats 4000000 in
set_option maxRecDepth 100000 in
theorem lp_jmN {l : Launch} {σ : aw_S} {Post : Option Value → aw_S → Prop} {tw cs : Bool} (hR : σ.2.2 = RF tw cs) {m : mS} (hM : cityM σ m) (wC : wfCity m) (hB : bookM σ m) (wB : wfBook m) {i w : Int} (hi : 0 ≤ i ∧ i < m 0 6) (hk : ∀ q : Int, (i < q ∧ q ≤ m 0 6) → ((q = m 0 6 ∧ isNxt m i (-1)) ∨ (q < m 0 6 ∧ isNxt m i q)) → AW l yX10_jumpers cX10_jumpers 11 (some .int) 2 50 0 0 SH Post SH 0 0 (σ) 58 [some (.ref 171), some (.int (jI i)), some (.int (jI w)), some (.int (jI q)), none, none, none, none, none, none, none] [])  : ∀ (n : Nat) (q : Int), ((m 0 6 - q).toNat ≤ n) → (i < q ∧ q ≤ m 0 6) → (∀ k : Int, i < k → k < q → m (400 + k) 0 ≠ m (400 + i) 0) → AW l yX10_jumpers cX10_jumpers 11 (some .int) 2 50 0 0 SH Post SH 0 0 (σ) 29 [some (.ref 171), some (.int (jI i)), some (.int (jI w)), some (.int (jI q)), none, none, none, none, none, none, none] [] := by
  intro n
  induction n with
  | zero =>
    intro q hm hq hno
    obtain ⟨c1, c2, c3, c4, c5, c6, c7⟩ := id hM
    obtain ⟨w1, w2, w3, w4, w5, w6, w7, w8⟩ := id wC
    obtain ⟨b1, b2⟩ := id hB
    obtain ⟨z1, z2⟩ := id wB
    have p1 := b2 i (by omega) (by omega)
    have r1 := z2 i (by omega) (by omega)
    refine a_ild3 eX10_jumpers_29 ?_
    refine a_ald0 eX10_jumpers_30 ?_
    refine a_getI 30 eX10_jumpers_31 fl_X10_252 rfl rfl sh_171 ?_
    refine a_eqtop (y0 := m 0 6) (by exact b1) ?_
    refine a_icmp_ge 58 eX10_jumpers_34 (by decide) (by omega) (fun hT34 => ?_) (fun hF34 => ?_)
    · skip
      first
        | exact hk q (by omega) (Or.inl ⟨by omega, Or.inl ⟨rfl, fun k k1 k2 => hno k k1 (by omega)⟩⟩)
        | exact hk q (by omega) (Or.inr ⟨by omega, Or.inr ⟨by omega, by omega, by omega, hno⟩⟩)
    · skip
      exfalso; omega
  | succ n ih =>
    intro q hm hq hno
    obtain ⟨c1, c2, c3, c4, c5, c6, c7⟩ := id hM
    obtain ⟨w1, w2, w3, w4, w5, w6, w7, w8⟩ := id wC
    obtain ⟨b1, b2⟩ := id hB
    obtain ⟨z1, z2⟩ := id wB
    have p1 := b2 i (by omega) (by omega)
    have r1 := z2 i (by omega) (by omega)
    refine a_ild3 eX10_jumpers_29 ?_
    refine a_ald0 eX10_jumpers_30 ?_
    refine a_getI 30 eX10_jumpers_31 fl_X10_252 rfl rfl sh_171 ?_
    refine a_eqtop (y0 := m 0 6) (by exact b1) ?_
    refine a_icmp_ge 58 eX10_jumpers_34 (by decide) (by omega) (fun hT34 => ?_) (fun hF34 => ?_)
    · skip
      first
        | exact hk q (by omega) (Or.inl ⟨by omega, Or.inl ⟨rfl, fun k k1 k2 => hno k k1 (by omega)⟩⟩)
        | exact hk q (by omega) (Or.inr ⟨by omega, Or.inr ⟨by omega, by omega, by omega, hno⟩⟩)
    · skip
      have p2 := b2 q (by omega) (by omega)
      have r2 := z2 q (by omega) (by omega)
      refine a_ald0 eX10_jumpers_37 ?_
      refine a_getR 31 188 eX10_jumpers_38 fl_X10_60 rfl rfl sh_171 ((congrFun (congrFun hR _) _).trans rf_171_31) ?_
      refine a_ild3 eX10_jumpers_41 ?_
      refine a_iald eX10_jumpers_42 sh_188 rfl (by omega) ?_
      refine a_eqtop (y0 := m (400 + q) 0) (by exact p2.1) ?_
      refine a_ald0 eX10_jumpers_43 ?_
      refine a_getR 31 188 eX10_jumpers_44 fl_X10_60 rfl rfl sh_171 ((congrFun (congrFun hR _) _).trans rf_171_31) ?_
      refine a_ild1 eX10_jumpers_47 ?_
      refine a_iald eX10_jumpers_48 sh_188 rfl (by omega) ?_
      refine a_eqtop (y0 := m (400 + i) 0) (by exact p1.1) ?_
      refine a_icmp_eq 58 eX10_jumpers_49 (by decide) (by omega) (fun hT49 => ?_) (fun hF49 => ?_)
      · skip
        first
          | exact hk q (by omega) (Or.inl ⟨by omega, Or.inl ⟨rfl, fun k k1 k2 => hno k k1 (by omega)⟩⟩)
          | exact hk q (by omega) (Or.inr ⟨by omega, Or.inr ⟨by omega, by omega, by omega, hno⟩⟩)
      · skip
        refine a_iinc3 eX10_jumpers_52 (by decide) aw_n2i ?_
        refine a_goto 29 eX10_jumpers_55 (by decide) ?_
        refine ih (q + 1) (by omega) (by omega) (fun k k1 k2 => ?_)
        by_cases e : k = q
        · subst e; omega
        · exact hno k k1 (by omega)

set_option maxHeartbeats 4000000 in
set_option maxRecDepth 100000 in
theorem c_X10_jumpers {l : Launch} {σ : aw_S} {Post : Option Value → aw_S → Prop} {tw cs : Bool} (hR : σ.2.2 = RF tw cs) {m : mS} (hM : cityM σ m) (wC : wfCity m) (hB : bookM σ m) (wB : wfBook m) {i w : Int} (hr : (-2147483648 ≤ i ∧ i ≤ 2147483647) ∧ (-2147483648 ≤ w ∧ w ≤ 2147483647)) (hk : ∀ v, isjump m i w v → Post (some (.int (jI v))) σ)  : AE l yX10_jumpers cX10_jumpers 11 (some .int) 2 50 0 0 SH SH σ [.ref 171, .int (jI i), .int (jI w)] Post := by
  show AW l yX10_jumpers cX10_jumpers 11 (some .int) 2 50 0 0 SH Post SH 0 0 σ 0 [some (.ref 171), some (.int (jI i)), some (.int (jI w)), none, none, none, none, none, none, none, none] []
  obtain ⟨c1, c2, c3, c4, c5, c6, c7⟩ := id hM
  obtain ⟨w1, w2, w3, w4, w5, w6, w7, w8⟩ := id wC
  obtain ⟨b1, b2⟩ := id hB
  obtain ⟨z1, z2⟩ := id wB
  refine a_ild1 eX10_jumpers_0 ?_
  refine a_iconst eX10_jumpers_1 ?_
  refine a_ald0 eX10_jumpers_2 ?_
  refine a_getI 30 eX10_jumpers_3 fl_X10_252 rfl rfl sh_171 ?_
  refine a_eqtop (y0 := m 0 6) (by exact b1) ?_
  refine a_iconst eX10_jumpers_6 ?_
  refine a_isub eX10_jumpers_7 ?_
  refine a_cS3 eX10_jumpers_8 lk_X10_128 mS_X10_in mt_X10_in rfl rfl rfl rfl rfl rfl rfl (c_X10_in (by omega) (fun hT8 => ?_) (fun hF8 => ?_))
  · skip
    dsimp only [Option.toList, List.cons_append, List.nil_append]
    refine a_if_eq 23 eX10_jumpers_11 (by decide) (by omega) (fun h => absurd h (by decide)) (fun _ => ?_)
    refine a_ild2 eX10_jumpers_14 ?_
    refine a_iconst eX10_jumpers_15 ?_
    refine a_iconst eX10_jumpers_16 ?_
    refine a_cS3 eX10_jumpers_17 lk_X10_128 mS_X10_in mt_X10_in rfl rfl rfl rfl rfl rfl rfl (c_X10_in (by omega) (fun hT17 => ?_) (fun hF17 => ?_))
    · skip
      dsimp only [Option.toList, List.cons_append, List.nil_append]
      refine a_if_ne 25 eX10_jumpers_20 (by decide) (by omega) (fun _ => ?_) (fun h => absurd h (by decide))
      refine a_ild1 eX10_jumpers_25 ?_
      refine a_iconst eX10_jumpers_26 ?_
      refine a_iadd eX10_jumpers_27 ?_
      refine a_ist3 eX10_jumpers_28 (by decide) aw_n2i ?_
      refine lp_jmN hR hM wC hB wB (i := i) (by omega) (fun q hq hqq => ?_) _ (i + 1) (Nat.le_refl _) (by omega) (fun k k1 k2 => by omega)
      refine a_ild3 eX10_jumpers_58 ?_
      refine a_ald0 eX10_jumpers_59 ?_
      refine a_getI 30 eX10_jumpers_60 fl_X10_252 rfl rfl sh_171 ?_
      refine a_eqtop (y0 := m 0 6) (by exact b1) ?_
      refine a_icmp_ne 68 eX10_jumpers_63 (by decide) (by omega) (fun hT63 => ?_) (fun hF63 => ?_)
      · skip
        refine a_bipush eX10_jumpers_68 (by decide) ?_
        refine a_ist4 eX10_jumpers_70 (by decide) aw_n2i ?_
        refine a_iconst eX10_jumpers_72 ?_
        refine a_ist5 eX10_jumpers_73 (by decide) aw_n2i ?_
        refine a_iconst eX10_jumpers_75 ?_
        refine a_ist6 eX10_jumpers_76 (by decide) aw_n2i ?_
        refine a_iconst eX10_jumpers_78 ?_
        refine a_ist7 eX10_jumpers_79 (by decide) aw_n2i ?_
        have hnx : isNxt m i q := by
          rcases hqq with z | z
          · omega
          · exact z.2
        exact lp_jmO hR hB wB (by omega) (by omega) (by omega) rfl (hk _ (Or.inr ⟨⟨by omega, by omega⟩, Or.inr ⟨q, hnx, by omega, rfl⟩⟩)) _ 0 none none none (Nat.le_refl _) (Nat.zero_le _)
      · skip
        refine a_iconst eX10_jumpers_66 ?_
        refine a_iret eX10_jumpers_67 rfl rfl ⟨Nat.zero_le _, Nat.zero_le _⟩ ?_
        refine hk (-1) (Or.inr ⟨⟨by omega, by omega⟩, Or.inl ⟨?_, rfl⟩⟩)
        rcases hqq with z | z
        · exact z.2
        · omega
    · skip
      dsimp only [Option.toList, List.cons_append, List.nil_append]
      refine a_if_ne 25 eX10_jumpers_20 (by decide) (by omega) (fun h => absurd h (by decide)) (fun _ => ?_)
      refine a_iconst eX10_jumpers_23 ?_
      refine a_iret eX10_jumpers_24 rfl rfl ⟨Nat.zero_le _, Nat.zero_le _⟩ ?_
      exact hk (-1) (Or.inl ⟨fun q => by unfold vjump at q; omega, rfl⟩)
  · skip
    dsimp only [Option.toList, List.cons_append, List.nil_append]
    refine a_if_eq 23 eX10_jumpers_11 (by decide) (by omega) (fun _ => ?_) (fun h => absurd h (by decide))
    refine a_iconst eX10_jumpers_23 ?_
    refine a_iret eX10_jumpers_24 rfl rfl ⟨Nat.zero_le _, Nat.zero_le _⟩ ?_
    exact hk (-1) (Or.inl ⟨fun q => by unfold vjump at q; omega, rfl⟩)
