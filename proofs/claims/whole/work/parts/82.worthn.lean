set_option maxHeartbeats 4000000 in
set_option maxRecDepth 100000 in
theorem lp_wkN {l : Launch} {σ : aw_S} {Post : Option Value → aw_S → Prop} {tw cs : Bool} (hR : σ.2.2 = RF tw cs) {m : mS} (hM : cityM σ m) (wC : wfCity m) {N : Int} (hM2 : dayM σ m) (wD : wfDay m 0 N) (hN : 0 ≤ N ∧ N ≤ 1000) (hH : chM σ m) (wH : wfCh m) (h0 : 0 < m 0 0) {w1 l1 : Nat} (hl : l1 ≤ 120) (hG : goM σ m l1) {r : Int} (hr : 0 ≤ r ∧ r < m 0 0) (hk : ∀ σ2 l4 l5, frX σ σ2 → goM σ2 m l1 → (∀ (k : Nat) (r1 n2 : Int), (k < l1 ∨ (k = l1 ∧ (r1 < r + 1))) → 0 ≤ r1 → r1 < m 0 0 → 0 ≤ n2 → n2 < 10 → σ2.2.1 201 ((10 * r1 + n2) * 121 + (k : Int)) = wW m (ahd m) k r1 n2) → AW l yX10_works cX10_works 6 (none : Option Jvm.ClassFile.FieldType) 3 74 0 0 SH Post SH 0 0 (σ2) 102 [some (.ref 171), some (.int (jI (w1 : Int))), some (.int (jI (l1 : Int))), some (.int (jI r)), l4, l5] [])  : ∀ (n : Nat) (n1 : Int) (σ1 : aw_S) (lx : Option Value), ((10 - n1).toNat ≤ n) → (0 ≤ n1 ∧ n1 ≤ 10) → (frX σ σ1) → (goM σ1 m l1) → (∀ (k : Nat) (r1 n2 : Int), (k < l1 ∨ (k = l1 ∧ (r1 < r ∨ (r1 = r ∧ n2 < n1)))) → 0 ≤ r1 → r1 < m 0 0 → 0 ≤ n2 → n2 < 10 → σ1.2.1 201 ((10 * r1 + n2) * 121 + (k : Int)) = wW m (ahd m) k r1 n2) → AW l yX10_works cX10_works 6 (none : Option Jvm.ClassFile.FieldType) 3 74 0 0 SH Post SH 0 0 (σ1) 20 [some (.ref 171), some (.int (jI (w1 : Int))), some (.int (jI (l1 : Int))), some (.int (jI r)), some (.int (jI n1)), lx] [] := by
  intro n
  induction n with
  | zero =>
    intro n1 σ1 lx hm hn f1 hG1 ht
    have hR0 := hR
    have hR : σ1.2.2 = RF tw cs := by rw [f1.2.2]; exact hR
    have hM0 := hM
    have hM := cityM_X f1 hM
    have hM20 := hM2
    have hM2 := dayM_X f1 hM2
    have hH0 := hH
    have hH := chM_X f1 hH
    obtain ⟨c1, c2, c3, c4, c5, c6, c7⟩ := id hM
    obtain ⟨w1, w2, w3, w4, w5, w6, w7, w8⟩ := id wC
    obtain ⟨d1, d2, d3, d4, d5, d6, d7⟩ := id hM2
    obtain ⟨v1, v2, v3, v4, v5, v6, v7, v8⟩ := id wD
    simp only [Int.zero_add] at d4 d5 d6 d7 v4 v5 v6 v7 v8
    have hc := hH r (by omega) (by omega)
    have wc := wH r (by omega) (by omega)
    have hWe := wW_eq1 m (ahd m) l1 r n1
    have hT1 : tbM σ1 m l1 := fun k r n k1 r1 r2 n1 n2 => ht k r n (by omega) r1 r2 n1 n2
    refine a_ild4 eX10_works_20 ?_
    refine a_bipush eX10_works_22 (by decide) ?_
    refine a_icmp_ge 102 eX10_works_24 (by decide) (by omega) (fun hT24 => ?_) (fun hF24 => ?_)
    · skip
      exact hk σ1 _ _ f1 hG1 (fun k r1 n2 k1 r2 r3 n3 n4 => ht k r1 n2 (by omega) r2 r3 n3 n4)
    · skip
      exfalso; omega
  | succ n ih =>
    intro n1 σ1 lx hm hn f1 hG1 ht
    have hR0 := hR
    have hR : σ1.2.2 = RF tw cs := by rw [f1.2.2]; exact hR
    have hM0 := hM
    have hM := cityM_X f1 hM
    have hM20 := hM2
    have hM2 := dayM_X f1 hM2
    have hH0 := hH
    have hH := chM_X f1 hH
    obtain ⟨c1, c2, c3, c4, c5, c6, c7⟩ := id hM
    obtain ⟨w1, w2, w3, w4, w5, w6, w7, w8⟩ := id wC
    obtain ⟨d1, d2, d3, d4, d5, d6, d7⟩ := id hM2
    obtain ⟨v1, v2, v3, v4, v5, v6, v7, v8⟩ := id wD
    simp only [Int.zero_add] at d4 d5 d6 d7 v4 v5 v6 v7 v8
    have hc := hH r (by omega) (by omega)
    have wc := wH r (by omega) (by omega)
    have hWe := wW_eq1 m (ahd m) l1 r n1
    have hT1 : tbM σ1 m l1 := fun k r n k1 r1 r2 n1 n2 => ht k r n (by omega) r1 r2 n1 n2
    refine a_ild4 eX10_works_20 ?_
    refine a_bipush eX10_works_22 (by decide) ?_
    refine a_icmp_ge 102 eX10_works_24 (by decide) (by omega) (fun hT24 => ?_) (fun hF24 => ?_)
    · skip
      exact hk σ1 _ _ f1 hG1 (fun k r1 n2 k1 r2 r3 n3 n4 => ht k r1 n2 (by omega) r2 r3 n3 n4)
    · skip
      refine a_ald0 eX10_works_27 ?_
      refine a_getR 29 187 eX10_works_28 fl_X10_57 rfl rfl sh_171 ((congrFun (congrFun hR _) _).trans rf_171_29) ?_
      refine a_iconst eX10_works_31 ?_
      refine a_ild3 eX10_works_32 ?_
      refine a_imul eX10_works_33 ?_
      refine a_iald eX10_works_34 sh_187 rfl (by omega) ?_
      refine a_eqtop (y0 := m 13 r) (by exact hc.1) ?_
      refine a_ist5 eX10_works_35 (by decide) aw_n2i ?_
      refine a_ald0 eX10_works_37 ?_
      refine a_getR 45 201 eX10_works_38 fl_X10_100 rfl rfl sh_171 ((congrFun (congrFun hR _) _).trans rf_171_45) ?_
      refine a_bipush eX10_works_41 (by decide) ?_
      refine a_ild3 eX10_works_43 ?_
      refine a_imul eX10_works_44 ?_
      refine a_ild4 eX10_works_45 ?_
      refine a_iadd eX10_works_47 ?_
      refine a_bipush eX10_works_48 (by decide) ?_
      refine a_imul eX10_works_50 ?_
      refine a_ild2 eX10_works_51 ?_
      refine a_iadd eX10_works_52 ?_
      refine a_ild2 eX10_works_53 ?_
      refine a_if_ne 61 eX10_works_54 (by decide) (by omega) (fun hT54 => ?_) (fun hF54 => ?_)
      · skip
        refine a_ild5 eX10_works_61 ?_
        refine a_i2l eX10_works_63 (by omega) ?_
        refine a_ald0 eX10_works_64 ?_
        refine a_ild3 eX10_works_65 ?_
        refine a_ild4 eX10_works_66 ?_
        refine a_ild2 eX10_works_68 ?_
        refine a_cV3 eX10_works_69 lk_X10_323 mV_X10_brings sh_171 ⟨_, rfl, rfl⟩ mt_X10_brings rfl rfl rfl rfl rfl rfl rfl (c_X10_brings hR hM wC hM2 wD hN hH wH h0 (by omega) hr (by omega) hT1 hG1 ?_)
        dsimp only [Option.toList, List.cons_append, List.nil_append]
        refine a_lmul eX10_works_72 ?_
        refine a_bipush eX10_works_73 (by decide) ?_
        refine a_ild5 eX10_works_75 ?_
        refine a_isub eX10_works_77 ?_
        refine a_i2l eX10_works_78 (by omega) ?_
        refine a_ald0 eX10_works_79 ?_
        refine a_ild3 eX10_works_80 ?_
        refine a_ild4 eX10_works_81 ?_
        refine a_ild2 eX10_works_83 ?_
        refine a_iconst eX10_works_84 ?_
        refine a_isub eX10_works_85 ?_
        refine a_cV3 eX10_works_86 lk_X10_317 mV_X10_worthOf sh_171 ⟨_, rfl, rfl⟩ mt_X10_worthOf rfl rfl rfl rfl rfl rfl rfl (c_X10_worthOf hR (by omega) ?_)
        dsimp only [Option.toList, List.cons_append, List.nil_append]
        have hv := hT1 (l1 - 1) r n1 (by omega) (by omega) (by omega) (by omega) (by omega)
        rw [show ((l1 - 1 : Nat) : Int) = (l1 : Int) - 1 by omega] at hv
        refine a_eqtopL (y0 := wW m (ahd m) (l1 - 1) r n1) (by exact hv) ?_
        have hsb := W_b (ah := ahd m) wC h0 wH (l1 - 1 + 1) (l1 - 1) (by omega) r n1 (by omega) (by omega)
        have hbb : 0 ≤ (if 0 < n1 then wW m (ahd m) (l1 - 1) r (n1 - 1) else fbrg m (ahd m) (wW m (ahd m)) l1 r) ∧ (if 0 < n1 then wW m (ahd m) (l1 - 1) r (n1 - 1) else fbrg m (ahd m) (wW m (ahd m)) l1 r) ≤ 245640000 := by
          split
          · have := W_b (ah := ahd m) wC h0 wH (l1 - 1 + 1) (l1 - 1) (by omega) r (n1 - 1) (by omega) (by omega)
            omega
          · have := fbrg_b (m := m) (ah := ahd m) (l := l1) (r := r) wC h0 wH (by omega)
            omega
        have hmx := mixb (q := m 13 r) (X := 245640000) (by omega) hbb (s := wW m (ahd m) (l1 - 1) r n1) (by omega)
        refine a_lmul eX10_works_89 ?_
        refine a_ladd eX10_works_90 ?_
        refine a_ldc2 (16) (by decide) eX10_works_91 kc_X10_326 ?_
        refine a_ldiv _ eX10_works_94 (by decide) (jL_div (by omega) (by omega)) ?_
        refine a_eqtopL (y0 := wW m (ahd m) l1 r n1) (by rw [hWe, if_neg (show ¬ l1 = 0 by omega)]) ?_
        refine a_last eX10_works_95 sh_201 rfl (by omega) ?_
        refine a_iinc4 eX10_works_96 (by decide) aw_n2i ?_
        refine a_goto 20 eX10_works_99 (by decide) ?_
        refine ih (n1 + 1) _ _ (by omega) (by omega) ⟨f1.1, fun a j q1 q2 => by rw [rl_sl, if_neg (by omega)]; exact f1.2.1 a j q1 q2, f1.2.2⟩ (fun k r1 k1 r2 r3 => by rw [rl_sl, if_neg (by omega)]; exact hG1 k r1 k1 r2 r3) (fun k r1 n2 k1 r2 r3 n3 n4 => ?_)
        by_cases q : k = l1 ∧ r1 = r ∧ n2 = n1
        · obtain ⟨q1, q2, q3⟩ := q
          rw [q1, q2, q3]
          exact rl_sl_eq
        · rw [rl_sl, if_neg (by omega)]
          exact ht k r1 n2 (by omega) r2 r3 n3 n4
      · skip
        refine a_lconst 0 eX10_works_57 rfl ?_
        refine a_goto 95 eX10_works_58 (by decide) ?_
        refine a_eqtopL (y0 := wW m (ahd m) l1 r n1) (by rw [hWe, if_pos (show l1 = 0 by omega)]) ?_
        refine a_last eX10_works_95 sh_201 rfl (by omega) ?_
        refine a_iinc4 eX10_works_96 (by decide) aw_n2i ?_
        refine a_goto 20 eX10_works_99 (by decide) ?_
        refine ih (n1 + 1) _ _ (by omega) (by omega) ⟨f1.1, fun a j q1 q2 => by rw [rl_sl, if_neg (by omega)]; exact f1.2.1 a j q1 q2, f1.2.2⟩ (fun k r1 k1 r2 r3 => by rw [rl_sl, if_neg (by omega)]; exact hG1 k r1 k1 r2 r3) (fun k r1 n2 k1 r2 r3 n3 n4 => ?_)
        by_cases q : k = l1 ∧ r1 = r ∧ n2 = n1
        · obtain ⟨q1, q2, q3⟩ := q
          rw [q1, q2, q3]
          exact rl_sl_eq
        · rw [rl_sl, if_neg (by omega)]
          exact ht k r1 n2 (by omega) r2 r3 n3 n4

set_option maxHeartbeats 4000000 in
set_option maxRecDepth 100000 in
theorem lp_wkR {l : Launch} {σ : aw_S} {Post : Option Value → aw_S → Prop} {tw cs : Bool} (hR : σ.2.2 = RF tw cs) {m : mS} (hM : cityM σ m) (wC : wfCity m) {N : Int} (hM2 : dayM σ m) (wD : wfDay m 0 N) (hN : 0 ≤ N ∧ N ≤ 1000) (hH : chM σ m) (wH : wfCh m) (h0 : 0 < m 0 0) {w1 l1 : Nat} (hl : l1 ≤ 120) (hk : ∀ σ2 l3 l4 l5, frX σ σ2 → goM σ2 m l1 → tbM σ2 m (l1 + 1) → AW l yX10_works cX10_works 6 (none : Option Jvm.ClassFile.FieldType) 3 74 0 0 SH Post SH 0 0 (σ2) 108 [some (.ref 171), some (.int (jI (w1 : Int))), some (.int (jI (l1 : Int))), l3, l4, l5] [])  : ∀ (n : Nat) (r : Int) (σ1 : aw_S) (l4 : Option Value) (l5 : Option Value), ((m 0 0 - r).toNat ≤ n) → (0 ≤ r ∧ r ≤ m 0 0) → (frX σ σ1) → (goM σ1 m l1) → (∀ (k : Nat) (r1 n2 : Int), (k < l1 ∨ (k = l1 ∧ (r1 < r))) → 0 ≤ r1 → r1 < m 0 0 → 0 ≤ n2 → n2 < 10 → σ1.2.1 201 ((10 * r1 + n2) * 121 + (k : Int)) = wW m (ahd m) k r1 n2) → AW l yX10_works cX10_works 6 (none : Option Jvm.ClassFile.FieldType) 3 74 0 0 SH Post SH 0 0 (σ1) 9 [some (.ref 171), some (.int (jI (w1 : Int))), some (.int (jI (l1 : Int))), some (.int (jI r)), l4, l5] [] := by
  intro n
  induction n with
  | zero =>
    intro r σ1 l4 l5 hm hr f1 hG1 ht
    have hR0 := hR
    have hR : σ1.2.2 = RF tw cs := by rw [f1.2.2]; exact hR
    have hM0 := hM
    have hM := cityM_X f1 hM
    have hM20 := hM2
    have hM2 := dayM_X f1 hM2
    have hH0 := hH
    have hH := chM_X f1 hH
    obtain ⟨c1, c2, c3, c4, c5, c6, c7⟩ := id hM
    obtain ⟨w1, w2, w3, w4, w5, w6, w7, w8⟩ := id wC
    obtain ⟨d1, d2, d3, d4, d5, d6, d7⟩ := id hM2
    obtain ⟨v1, v2, v3, v4, v5, v6, v7, v8⟩ := id wD
    simp only [Int.zero_add] at d4 d5 d6 d7 v4 v5 v6 v7 v8
    refine a_ild3 eX10_works_9 ?_
    refine a_ald0 eX10_works_10 ?_
    refine a_getI 14 eX10_works_11 fl_X10_235 rfl rfl sh_171 ?_
    refine a_eqtop (y0 := m 0 0) (by exact c1) ?_
    refine a_icmp_ge 108 eX10_works_14 (by decide) (by omega) (fun hT14 => ?_) (fun hF14 => ?_)
    · skip
      exact hk σ1 _ _ _ f1 hG1 (fun k r n k1 r1 r2 n1 n2 => ht k r n (by omega) r1 r2 n1 n2)
    · skip
      exfalso; omega
  | succ n ih =>
    intro r σ1 l4 l5 hm hr f1 hG1 ht
    have hR0 := hR
    have hR : σ1.2.2 = RF tw cs := by rw [f1.2.2]; exact hR
    have hM0 := hM
    have hM := cityM_X f1 hM
    have hM20 := hM2
    have hM2 := dayM_X f1 hM2
    have hH0 := hH
    have hH := chM_X f1 hH
    obtain ⟨c1, c2, c3, c4, c5, c6, c7⟩ := id hM
    obtain ⟨w1, w2, w3, w4, w5, w6, w7, w8⟩ := id wC
    obtain ⟨d1, d2, d3, d4, d5, d6, d7⟩ := id hM2
    obtain ⟨v1, v2, v3, v4, v5, v6, v7, v8⟩ := id wD
    simp only [Int.zero_add] at d4 d5 d6 d7 v4 v5 v6 v7 v8
    refine a_ild3 eX10_works_9 ?_
    refine a_ald0 eX10_works_10 ?_
    refine a_getI 14 eX10_works_11 fl_X10_235 rfl rfl sh_171 ?_
    refine a_eqtop (y0 := m 0 0) (by exact c1) ?_
    refine a_icmp_ge 108 eX10_works_14 (by decide) (by omega) (fun hT14 => ?_) (fun hF14 => ?_)
    · skip
      exact hk σ1 _ _ _ f1 hG1 (fun k r n k1 r1 r2 n1 n2 => ht k r n (by omega) r1 r2 n1 n2)
    · skip
      refine a_iconst eX10_works_17 ?_
      refine a_ist4 eX10_works_18 (by decide) aw_n2i ?_
      refine lp_wkN (σ := σ1) hR hM wC hM2 wD hN hH wH h0 hl hG1 (r := r) (by omega) (fun σ2 l4 l5 f2 hG2 ht2 => ?_) _ 0 σ1 _ (Nat.le_refl _) (by omega) (frX_rf σ1) hG1 (fun k r1 n2 k1 r2 r3 n3 n4 => ht k r1 n2 (by omega) r2 r3 n3 n4)
      refine a_iinc3 eX10_works_102 (by decide) aw_n2i ?_
      refine a_goto 9 eX10_works_105 (by decide) ?_
      exact ih (r + 1) σ2 _ _ (by omega) (by omega) (frX_tr f1 f2) hG2 ht2

set_option maxHeartbeats 4000000 in
set_option maxRecDepth 100000 in
theorem lp_wkG {l : Launch} {σ : aw_S} {Post : Option Value → aw_S → Prop} {tw cs : Bool} (hR : σ.2.2 = RF tw cs) {m : mS} (hM : cityM σ m) (wC : wfCity m) {N : Int} (hM2 : dayM σ m) (wD : wfDay m 0 N) (hN : 0 ≤ N ∧ N ≤ 1000) (hH : chM σ m) (wH : wfCh m) (h0 : 0 < m 0 0) {w1 l1 : Nat} (hl : l1 ≤ 120) {l4 l5 : Option Value} (hk : ∀ σ2 l3, frX σ σ2 → goM σ2 m (l1 + 1) → tbM σ2 m (l1 + 1) → AW l yX10_works cX10_works 6 (none : Option Jvm.ClassFile.FieldType) 3 74 0 0 SH Post SH 0 0 (σ2) 145 [some (.ref 171), some (.int (jI (w1 : Int))), some (.int (jI (l1 : Int))), l3, l4, l5] [])  : ∀ (n : Nat) (r : Int) (σ1 : aw_S), ((m 0 0 - r).toNat ≤ n) → (0 ≤ r ∧ r ≤ m 0 0) → (frX σ σ1) → (∀ (k : Nat) (r1 : Int), (k < l1 ∨ (k = l1 ∧ r1 < r)) → 0 ≤ r1 → r1 < m 0 0 → σ1.2.1 202 (121 * r1 + (k : Int)) = gvalM m (m 1 r1) k) → (tbM σ1 m (l1 + 1)) → AW l yX10_works cX10_works 6 (none : Option Jvm.ClassFile.FieldType) 3 74 0 0 SH Post SH 0 0 (σ1) 110 [some (.ref 171), some (.int (jI (w1 : Int))), some (.int (jI (l1 : Int))), some (.int (jI r)), l4, l5] [] := by
  intro n
  induction n with
  | zero =>
    intro r σ1 hm hr f1 hg hT1
    have hR0 := hR
    have hR : σ1.2.2 = RF tw cs := by rw [f1.2.2]; exact hR
    have hM0 := hM
    have hM := cityM_X f1 hM
    have hM20 := hM2
    have hM2 := dayM_X f1 hM2
    have hH0 := hH
    have hH := chM_X f1 hH
    obtain ⟨c1, c2, c3, c4, c5, c6, c7⟩ := id hM
    obtain ⟨w1, w2, w3, w4, w5, w6, w7, w8⟩ := id wC
    obtain ⟨d1, d2, d3, d4, d5, d6, d7⟩ := id hM2
    obtain ⟨v1, v2, v3, v4, v5, v6, v7, v8⟩ := id wD
    simp only [Int.zero_add] at d4 d5 d6 d7 v4 v5 v6 v7 v8
    refine a_ild3 eX10_works_110 ?_
    refine a_ald0 eX10_works_111 ?_
    refine a_getI 14 eX10_works_112 fl_X10_235 rfl rfl sh_171 ?_
    refine a_eqtop (y0 := m 0 0) (by exact c1) ?_
    refine a_icmp_ge 145 eX10_works_115 (by decide) (by omega) (fun hT115 => ?_) (fun hF115 => ?_)
    · skip
      exact hk σ1 _ f1 (fun k r1 k1 r2 r3 => hg k r1 (by omega) r2 r3) hT1
    · skip
      exfalso; omega
  | succ n ih =>
    intro r σ1 hm hr f1 hg hT1
    have hR0 := hR
    have hR : σ1.2.2 = RF tw cs := by rw [f1.2.2]; exact hR
    have hM0 := hM
    have hM := cityM_X f1 hM
    have hM20 := hM2
    have hM2 := dayM_X f1 hM2
    have hH0 := hH
    have hH := chM_X f1 hH
    obtain ⟨c1, c2, c3, c4, c5, c6, c7⟩ := id hM
    obtain ⟨w1, w2, w3, w4, w5, w6, w7, w8⟩ := id wC
    obtain ⟨d1, d2, d3, d4, d5, d6, d7⟩ := id hM2
    obtain ⟨v1, v2, v3, v4, v5, v6, v7, v8⟩ := id wD
    simp only [Int.zero_add] at d4 d5 d6 d7 v4 v5 v6 v7 v8
    refine a_ild3 eX10_works_110 ?_
    refine a_ald0 eX10_works_111 ?_
    refine a_getI 14 eX10_works_112 fl_X10_235 rfl rfl sh_171 ?_
    refine a_eqtop (y0 := m 0 0) (by exact c1) ?_
    refine a_icmp_ge 145 eX10_works_115 (by decide) (by omega) (fun hT115 => ?_) (fun hF115 => ?_)
    · skip
      exact hk σ1 _ f1 (fun k r1 k1 r2 r3 => hg k r1 (by omega) r2 r3) hT1
    · skip
      have c2k := c2 r (by omega) (by omega)
      have w2k := w2 r (by omega) (by omega)
      refine a_ald0 eX10_works_118 ?_
      refine a_getR 46 202 eX10_works_119 fl_X10_103 rfl rfl sh_171 ((congrFun (congrFun hR _) _).trans rf_171_46) ?_
      refine a_bipush eX10_works_122 (by decide) ?_
      refine a_ild3 eX10_works_124 ?_
      refine a_imul eX10_works_125 ?_
      refine a_ild2 eX10_works_126 ?_
      refine a_iadd eX10_works_127 ?_
      refine a_ald0 eX10_works_128 ?_
      refine a_ald0 eX10_works_129 ?_
      refine a_ild3 eX10_works_130 ?_
      refine a_cV1 eX10_works_131 lk_X10_279 mV_X10_place sh_171 ⟨_, rfl, rfl⟩ mt_X10_place rfl rfl rfl rfl rfl (c_X10_place hR (by omega) ?_)
      dsimp only [Option.toList, List.cons_append, List.nil_append]
      refine a_eqtop (y0 := m 1 r) (by exact c2k.1) ?_
      refine a_ild2 eX10_works_134 ?_
      refine a_cV2 eX10_works_135 lk_X10_328 mV_X10_goingFrom sh_171 ⟨_, rfl, rfl⟩ mt_X10_goingFrom rfl rfl rfl rfl rfl rfl (c_X10_goingFrom hR hM wC hM2 wD hN wH h0 (by omega) (by omega) hT1 (fun σ2 f2 hl2 hgo2 => ?_))
      dsimp only [Option.toList, List.cons_append, List.nil_append]
      refine a_last eX10_works_138 sh_202 rfl (by omega) ?_
      refine a_iinc3 eX10_works_139 (by decide) aw_n2i ?_
      refine a_goto 110 eX10_works_142 (by decide) ?_
      refine ih (r + 1) _ (by omega) (by omega) (frX_tr (frX_tr f1 f2) ⟨fun _ _ _ => rfl, fun a j q1 q2 => by rw [rl_sl, if_neg (by omega)], rfl⟩) (fun k r1 k1 r2 r3 => ?_) (fun k r1 n k1 r2 r3 n1 n2 => by rw [rl_sl, if_neg (by omega), hl2]; exact hT1 k r1 n k1 r2 r3 n1 n2)
      by_cases q : k = l1 ∧ r1 = r
      · obtain ⟨q1, q2⟩ := q
        rw [q1, q2]
        exact rl_sl_eq
      · rw [rl_sl, if_neg (by omega), hl2]
        exact hg k r1 (by omega) r2 r3

theorem frX_R {σ σ' : aw_S} {tw cs : Bool} (h : frX σ σ') (hR : σ.2.2 = RF tw cs) : σ'.2.2 = RF tw cs := by rw [h.2.2]; exact hR
set_option maxHeartbeats 4000000 in
set_option maxRecDepth 100000 in
theorem lp_wkL {l : Launch} {σ : aw_S} {Post : Option Value → aw_S → Prop} {tw cs : Bool} (hR : σ.2.2 = RF tw cs) {m : mS} (hM : cityM σ m) (wC : wfCity m) {N : Int} (hM2 : dayM σ m) (wD : wfDay m 0 N) (hN : 0 ≤ N ∧ N ≤ 1000) (hH : chM σ m) (wH : wfCh m) (h0 : 0 < m 0 0) {w1 : Nat} (hw : w1 ≤ 120) (hk : ∀ σ', frX σ σ' → tbM σ' m (w1 + 1) → Post none σ')  : ∀ (n : Nat) (l1 : Nat) (σ1 : aw_S) (a3 : Option Value) (a4 : Option Value) (a5 : Option Value), ((w1 + 1 - l1) ≤ n) → (l1 ≤ w1 + 1) → (frX σ σ1) → (goM σ1 m l1) → (tbM σ1 m l1) → AW l yX10_works cX10_works 6 (none : Option Jvm.ClassFile.FieldType) 3 74 0 0 SH Post SH 0 0 (σ1) 2 [some (.ref 171), some (.int (jI (w1 : Int))), some (.int (jI (l1 : Int))), a3, a4, a5] [] := by
  intro n
  induction n with
  | zero =>
    intro l1 σ1 a3 a4 a5 hm hl f1 hG1 ht
    have hR0 := hR
    have hR : σ1.2.2 = RF tw cs := by rw [f1.2.2]; exact hR
    have hM0 := hM
    have hM := cityM_X f1 hM
    have hM20 := hM2
    have hM2 := dayM_X f1 hM2
    have hH0 := hH
    have hH := chM_X f1 hH
    obtain ⟨c1, c2, c3, c4, c5, c6, c7⟩ := id hM
    obtain ⟨w1, w2, w3, w4, w5, w6, w7, w8⟩ := id wC
    obtain ⟨d1, d2, d3, d4, d5, d6, d7⟩ := id hM2
    obtain ⟨v1, v2, v3, v4, v5, v6, v7, v8⟩ := id wD
    simp only [Int.zero_add] at d4 d5 d6 d7 v4 v5 v6 v7 v8
    refine a_ild2 eX10_works_2 ?_
    refine a_ild1 eX10_works_3 ?_
    refine a_icmp_gt 151 eX10_works_4 (by decide) (by omega) (fun hT4 => ?_) (fun hF4 => ?_)
    · skip
      refine a_vret eX10_works_151 rfl rfl ⟨Nat.zero_le _, Nat.zero_le _⟩ ?_
      exact hk σ1 f1 (fun k r n k1 r1 r2 n1 n2 => ht k r n (by omega) r1 r2 n1 n2)
    · skip
      exfalso; omega
  | succ n ih =>
    intro l1 σ1 a3 a4 a5 hm hl f1 hG1 ht
    have hR0 := hR
    have hR : σ1.2.2 = RF tw cs := by rw [f1.2.2]; exact hR
    have hM0 := hM
    have hM := cityM_X f1 hM
    have hM20 := hM2
    have hM2 := dayM_X f1 hM2
    have hH0 := hH
    have hH := chM_X f1 hH
    obtain ⟨c1, c2, c3, c4, c5, c6, c7⟩ := id hM
    obtain ⟨w1, w2, w3, w4, w5, w6, w7, w8⟩ := id wC
    obtain ⟨d1, d2, d3, d4, d5, d6, d7⟩ := id hM2
    obtain ⟨v1, v2, v3, v4, v5, v6, v7, v8⟩ := id wD
    simp only [Int.zero_add] at d4 d5 d6 d7 v4 v5 v6 v7 v8
    refine a_ild2 eX10_works_2 ?_
    refine a_ild1 eX10_works_3 ?_
    refine a_icmp_gt 151 eX10_works_4 (by decide) (by omega) (fun hT4 => ?_) (fun hF4 => ?_)
    · skip
      refine a_vret eX10_works_151 rfl rfl ⟨Nat.zero_le _, Nat.zero_le _⟩ ?_
      exact hk σ1 f1 (fun k r n k1 r1 r2 n1 n2 => ht k r n (by omega) r1 r2 n1 n2)
    · skip
      refine a_iconst eX10_works_7 ?_
      refine a_ist3 eX10_works_8 (by decide) aw_n2i ?_
      refine lp_wkR (σ := σ1) hR hM wC hM2 wD hN hH wH h0 (by omega) (fun σ2 l3 l4 l5 f2 hG2 ht2 => ?_) _ 0 σ1 _ _ (Nat.le_refl _) (by omega) (frX_rf σ1) hG1 (fun k r1 n2 k1 r2 r3 n3 n4 => ht k r1 n2 (by omega) r2 r3 n3 n4)
      refine a_iconst eX10_works_108 ?_
      refine a_ist3 eX10_works_109 (by decide) aw_n2i ?_
      refine lp_wkG (σ := σ2) (frX_R f2 hR) (cityM_X f2 hM) wC (dayM_X f2 hM2) wD hN (chM_X f2 hH) wH h0 (by omega) (fun σ3 l3 f3 hG3 ht3 => ?_) _ 0 σ2 (Nat.le_refl _) (by omega) (frX_rf σ2) (fun k r1 k1 r2 r3 => hG2 k r1 (by omega) r2 r3) ht2
      refine a_iinc2 eX10_works_145 (by decide) aw_n2i ?_
      refine a_goto 2 eX10_works_148 (by decide) ?_
      rw [show (l1 : Int) + 1 = (((l1 + 1 : Nat) : Nat) : Int) by omega]
      exact ih (l1 + 1) σ3 _ _ _ (by omega) (by omega) (frX_tr (frX_tr f1 f2) f3) hG3 ht3

set_option maxHeartbeats 4000000 in
set_option maxRecDepth 100000 in
theorem c_X10_works {l : Launch} {σ : aw_S} {Post : Option Value → aw_S → Prop} {tw cs : Bool} (hR : σ.2.2 = RF tw cs) {m : mS} (hM : cityM σ m) (wC : wfCity m) {N : Int} (hM2 : dayM σ m) (wD : wfDay m 0 N) (hN : 0 ≤ N ∧ N ≤ 1000) (hH : chM σ m) (wH : wfCh m) (h0 : 0 < m 0 0) {w1 : Nat} (hw : w1 ≤ 120) (hk : ∀ σ', frX σ σ' → tbM σ' m (w1 + 1) → Post none σ')  : AE l yX10_works cX10_works 6 (none : Option Jvm.ClassFile.FieldType) 3 74 0 0 SH SH σ [.ref 171, .int (jI (w1 : Int))] Post := by
  show AW l yX10_works cX10_works 6 (none : Option Jvm.ClassFile.FieldType) 3 74 0 0 SH Post SH 0 0 σ 0 [some (.ref 171), some (.int (jI (w1 : Int))), none, none, none, none] []
  refine a_iconst eX10_works_0 ?_
  refine a_ist2 eX10_works_1 (by decide) aw_n2i ?_
  exact lp_wkL hR hM wC hM2 wD hN hH wH h0 hw hk _ 0 σ none none none (Nat.le_refl _) (by omega) (frX_rf σ) (fun k r k1 => by omega) (fun k r n k1 => by omega)

set_option maxHeartbeats 4000000 in
set_option maxRecDepth 100000 in
theorem c_X10_worth {l : Launch} {σ : aw_S} {Post : Option Value → aw_S → Prop} {tw cs : Bool} (hR : σ.2.2 = RF tw cs) {m : mS} (hM : cityM σ m) (wC : wfCity m) {N : Int} (hM2 : dayM σ m) (wD : wfDay m 0 N) (hN : 0 ≤ N ∧ N ≤ 1000) (hH : chM σ m) (wH : wfCh m) {r n1 k : Int} (hr : (-2147483648 ≤ r ∧ r ≤ 2147483647) ∧ (-2147483648 ≤ n1 ∧ n1 ≤ 2147483647) ∧ (-2147483648 ≤ k ∧ k ≤ 2147483647)) (h1 : vworth m r n1 k → ∀ σ', frX σ σ' → Post (some (.int (jI (wW m (ahd m) k.toNat r n1)))) σ') (h0 : ¬ vworth m r n1 k → Post (some (.int (jI (-1)))) σ) : AE l yX10_worth cX10_worth 4 (some .int) 4 99 0 0 SH SH σ [.ref 171, .int (jI r), .int (jI n1), .int (jI k)] Post := by
  show AW l yX10_worth cX10_worth 4 (some .int) 4 99 0 0 SH Post SH 0 0 σ 0 [some (.ref 171), some (.int (jI r)), some (.int (jI n1)), some (.int (jI k))] []
  obtain ⟨c1, c2, c3, c4, c5, c6, c7⟩ := id hM
  obtain ⟨w1, w2, w3, w4, w5, w6, w7, w8⟩ := id wC
  obtain ⟨d1, d2, d3, d4, d5, d6, d7⟩ := id hM2
  obtain ⟨v1, v2, v3, v4, v5, v6, v7, v8⟩ := id wD
  simp only [Int.zero_add] at d4 d5 d6 d7 v4 v5 v6 v7 v8
  refine a_ald0 eX10_worth_0 ?_
  refine a_ild1 eX10_worth_1 ?_
  refine a_cV1 eX10_worth_2 lk_X10_255 mV_X10_isRank sh_171 ⟨_, rfl, rfl⟩ mt_X10_isRank rfl rfl rfl rfl rfl (c_X10_isRank (by omega) (by omega) (fun hT2 => ?_) (fun hF2 => ?_))
  · skip
    dsimp only [Option.toList, List.cons_append, List.nil_append]
    refine a_if_eq 28 eX10_worth_5 (by decide) (by omega) (fun h => absurd h (by decide)) (fun _ => ?_)
    refine a_ild2 eX10_worth_8 ?_
    refine a_iconst eX10_worth_9 ?_
    refine a_bipush eX10_worth_10 (by decide) ?_
    refine a_cS3 eX10_worth_12 lk_X10_128 mS_X10_in mt_X10_in rfl rfl rfl rfl rfl rfl rfl (c_X10_in (by omega) (fun hT12 => ?_) (fun hF12 => ?_))
    · skip
      dsimp only [Option.toList, List.cons_append, List.nil_append]
      refine a_if_eq 28 eX10_worth_15 (by decide) (by omega) (fun h => absurd h (by decide)) (fun _ => ?_)
      refine a_ild3 eX10_worth_18 ?_
      refine a_iconst eX10_worth_19 ?_
      refine a_bipush eX10_worth_20 (by decide) ?_
      refine a_cS3 eX10_worth_22 lk_X10_128 mS_X10_in mt_X10_in rfl rfl rfl rfl rfl rfl rfl (c_X10_in (by omega) (fun hT22 => ?_) (fun hF22 => ?_))
      · skip
        dsimp only [Option.toList, List.cons_append, List.nil_append]
        refine a_if_ne 30 eX10_worth_25 (by decide) (by omega) (fun _ => ?_) (fun h => absurd h (by decide))
        refine a_ald0 eX10_worth_30 ?_
        refine a_ild3 eX10_worth_31 ?_
        refine a_eqtop (y0 := ((k.toNat : Nat) : Int)) (by omega) ?_
        refine a_cV1 eX10_worth_32 lk_X10_338 mV_X10_works sh_171 ⟨_, rfl, rfl⟩ mt_X10_works rfl rfl rfl rfl rfl (c_X10_works hR hM wC hM2 wD hN hH wH (by omega) (w1 := k.toNat) (by omega) (fun σ1 f1 hTb => ?_))
        dsimp only [Option.toList, List.cons_append, List.nil_append]
        have hR := frX_R f1 hR
        have hM := cityM_X f1 hM
        have hM2 := dayM_X f1 hM2
        refine a_ald0 eX10_worth_35 ?_
        refine a_ild1 eX10_worth_36 ?_
        refine a_ild2 eX10_worth_37 ?_
        refine a_ild3 eX10_worth_38 ?_
        refine a_cV3 eX10_worth_39 lk_X10_317 mV_X10_worthOf sh_171 ⟨_, rfl, rfl⟩ mt_X10_worthOf rfl rfl rfl rfl rfl rfl rfl (c_X10_worthOf hR (by omega) ?_)
        dsimp only [Option.toList, List.cons_append, List.nil_append]
        refine a_eqtopL (y0 := wW m (ahd m) k.toNat r n1) (by have h9 := hTb k.toNat r n1 (by omega) (by omega) (by omega) (by omega) (by omega); rw [Int.toNat_of_nonneg (by omega)] at h9; exact h9) ?_
        refine a_l2i eX10_worth_42 ?_
        refine a_iret eX10_worth_43 rfl rfl ⟨Nat.zero_le _, Nat.zero_le _⟩ ?_
        exact h1 ⟨by omega, by omega, by omega⟩ σ1 f1
      · skip
        dsimp only [Option.toList, List.cons_append, List.nil_append]
        refine a_if_ne 30 eX10_worth_25 (by decide) (by omega) (fun h => absurd h (by decide)) (fun _ => ?_)
        refine a_iconst eX10_worth_28 ?_
        refine a_iret eX10_worth_29 rfl rfl ⟨Nat.zero_le _, Nat.zero_le _⟩ ?_
        exact h0 (fun q => by unfold vworth at q; omega)
    · skip
      dsimp only [Option.toList, List.cons_append, List.nil_append]
      refine a_if_eq 28 eX10_worth_15 (by decide) (by omega) (fun _ => ?_) (fun h => absurd h (by decide))
      refine a_iconst eX10_worth_28 ?_
      refine a_iret eX10_worth_29 rfl rfl ⟨Nat.zero_le _, Nat.zero_le _⟩ ?_
      exact h0 (fun q => by unfold vworth at q; omega)
  · skip
    dsimp only [Option.toList, List.cons_append, List.nil_append]
    refine a_if_eq 28 eX10_worth_5 (by decide) (by omega) (fun _ => ?_) (fun h => absurd h (by decide))
    refine a_iconst eX10_worth_28 ?_
    refine a_iret eX10_worth_29 rfl rfl ⟨Nat.zero_le _, Nat.zero_le _⟩ ?_
    exact h0 (fun q => by unfold vworth at q; omega)

set_option maxHeartbeats 4000000 in
set_option maxRecDepth 100000 in
theorem c_X10_isGoing {l : Launch} {σ : aw_S} {Post : Option Value → aw_S → Prop} {tw cs : Bool} (hR : σ.2.2 = RF tw cs) {m : mS} (hM : cityM σ m) (wC : wfCity m) {p k : Int} (hr : (-2147483648 ≤ p ∧ p ≤ 2147483647) ∧ (-2147483648 ≤ k ∧ k ≤ 2147483647)) (h1 : vgoing m p k → Post (some (.int (jI 1))) σ) (h0 : ¬ vgoing m p k → Post (some (.int (jI 0))) σ) : AE l yX10_isGoing cX10_isGoing 3 (some .boolean) 1 22 0 0 SH SH σ [.ref 171, .int (jI p), .int (jI k)] Post := by
  show AW l yX10_isGoing cX10_isGoing 3 (some .boolean) 1 22 0 0 SH Post SH 0 0 σ 0 [some (.ref 171), some (.int (jI p)), some (.int (jI k))] []
  obtain ⟨c1, c2, c3, c4, c5, c6, c7⟩ := id hM
  obtain ⟨w1, w2, w3, w4, w5, w6, w7, w8⟩ := id wC
  refine a_ald0 eX10_isGoing_0 ?_
  refine a_getI 14 eX10_isGoing_1 fl_X10_235 rfl rfl sh_171 ?_
  refine a_eqtop (y0 := m 0 0) (by exact c1) ?_
  refine a_if_le 31 eX10_isGoing_4 (by decide) (by omega) (fun hT4 => ?_) (fun hF4 => ?_)
  · skip
    refine a_iconst eX10_isGoing_31 ?_
    refine a_zret eX10_isGoing_32 rfl (by first | exact Or.inl rfl | exact Or.inr rfl | omega) rfl ⟨Nat.zero_le _, Nat.zero_le _⟩ ?_
    exact h0 (fun q => by unfold vgoing at q; omega)
  · skip
    refine a_ild1 eX10_isGoing_7 ?_
    refine a_iconst eX10_isGoing_8 ?_
    refine a_bipush eX10_isGoing_9 (by decide) ?_
    refine a_cS3 eX10_isGoing_11 lk_X10_128 mS_X10_in mt_X10_in rfl rfl rfl rfl rfl rfl rfl (c_X10_in (by omega) (fun hT11 => ?_) (fun hF11 => ?_))
    · skip
      dsimp only [Option.toList, List.cons_append, List.nil_append]
      refine a_if_eq 31 eX10_isGoing_14 (by decide) (by omega) (fun h => absurd h (by decide)) (fun _ => ?_)
      refine a_ild2 eX10_isGoing_17 ?_
      refine a_iconst eX10_isGoing_18 ?_
      refine a_bipush eX10_isGoing_19 (by decide) ?_
      refine a_cS3 eX10_isGoing_21 lk_X10_128 mS_X10_in mt_X10_in rfl rfl rfl rfl rfl rfl rfl (c_X10_in (by omega) (fun hT21 => ?_) (fun hF21 => ?_))
      · skip
        dsimp only [Option.toList, List.cons_append, List.nil_append]
        refine a_if_eq 31 eX10_isGoing_24 (by decide) (by omega) (fun h => absurd h (by decide)) (fun _ => ?_)
        refine a_iconst eX10_isGoing_27 ?_
        refine a_goto 32 eX10_isGoing_28 (by decide) ?_
        refine a_zret eX10_isGoing_32 rfl (by first | exact Or.inl rfl | exact Or.inr rfl | omega) rfl ⟨Nat.zero_le _, Nat.zero_le _⟩ ?_
        exact h1 ⟨by omega, by omega, by omega⟩
      · skip
        dsimp only [Option.toList, List.cons_append, List.nil_append]
        refine a_if_eq 31 eX10_isGoing_24 (by decide) (by omega) (fun _ => ?_) (fun h => absurd h (by decide))
        refine a_iconst eX10_isGoing_31 ?_
        refine a_zret eX10_isGoing_32 rfl (by first | exact Or.inl rfl | exact Or.inr rfl | omega) rfl ⟨Nat.zero_le _, Nat.zero_le _⟩ ?_
        exact h0 (fun q => by unfold vgoing at q; omega)
    · skip
      dsimp only [Option.toList, List.cons_append, List.nil_append]
      refine a_if_eq 31 eX10_isGoing_14 (by decide) (by omega) (fun _ => ?_) (fun h => absurd h (by decide))
      refine a_iconst eX10_isGoing_31 ?_
      refine a_zret eX10_isGoing_32 rfl (by first | exact Or.inl rfl | exact Or.inr rfl | omega) rfl ⟨Nat.zero_le _, Nat.zero_le _⟩ ?_
      exact h0 (fun q => by unfold vgoing at q; omega)

set_option maxHeartbeats 4000000 in
set_option maxRecDepth 100000 in
theorem c_X10_going {l : Launch} {σ : aw_S} {Post : Option Value → aw_S → Prop} {tw cs : Bool} (hR : σ.2.2 = RF tw cs) {m : mS} (hM : cityM σ m) (wC : wfCity m) {N : Int} (hM2 : dayM σ m) (wD : wfDay m 0 N) (hN : 0 ≤ N ∧ N ≤ 1000) (hH : chM σ m) (wH : wfCh m) {p k w : Int} (hr : (-2147483648 ≤ p ∧ p ≤ 2147483647) ∧ (-2147483648 ≤ k ∧ k ≤ 2147483647) ∧ (-2147483648 ≤ w ∧ w ≤ 2147483647)) (h1 : vgoing m p k → (0 ≤ w ∧ w ≤ 1) → ∀ σ', frX σ σ' → Post (some (.int (jI (if w = 0 then gvalM m p k.toNat else gwhoM m p k.toNat)))) σ') (h0 : ¬ (vgoing m p k ∧ (0 ≤ w ∧ w ≤ 1)) → Post (some (.int (jI (-1)))) σ) : AE l yX10_going cX10_going 5 (some .int) 4 99 0 0 SH SH σ [.ref 171, .int (jI p), .int (jI k), .int (jI w)] Post := by
  show AW l yX10_going cX10_going 5 (some .int) 4 99 0 0 SH Post SH 0 0 σ 0 [some (.ref 171), some (.int (jI p)), some (.int (jI k)), some (.int (jI w)), none] []
  obtain ⟨c1, c2, c3, c4, c5, c6, c7⟩ := id hM
  obtain ⟨w1, w2, w3, w4, w5, w6, w7, w8⟩ := id wC
  obtain ⟨d1, d2, d3, d4, d5, d6, d7⟩ := id hM2
  obtain ⟨v1, v2, v3, v4, v5, v6, v7, v8⟩ := id wD
  simp only [Int.zero_add] at d4 d5 d6 d7 v4 v5 v6 v7 v8
  refine a_ald0 eX10_going_0 ?_
  refine a_ild1 eX10_going_1 ?_
  refine a_ild2 eX10_going_2 ?_
  refine a_cV2 eX10_going_3 lk_X10_341 mV_X10_isGoing sh_171 ⟨_, rfl, rfl⟩ mt_X10_isGoing rfl rfl rfl rfl rfl rfl (c_X10_isGoing hR hM wC (by omega) (fun hT3 => ?_) (fun hF3 => ?_))
  · skip
    dsimp only [Option.toList, List.cons_append, List.nil_append]
    refine a_if_eq 18 eX10_going_6 (by decide) (by omega) (fun h => absurd h (by decide)) (fun _ => ?_)
    refine a_ild3 eX10_going_9 ?_
    refine a_iconst eX10_going_10 ?_
    refine a_iconst eX10_going_11 ?_
    refine a_cS3 eX10_going_12 lk_X10_128 mS_X10_in mt_X10_in rfl rfl rfl rfl rfl rfl rfl (c_X10_in (by omega) (fun hT12 => ?_) (fun hF12 => ?_))
    · skip
      dsimp only [Option.toList, List.cons_append, List.nil_append]
      refine a_if_ne 20 eX10_going_15 (by decide) (by omega) (fun _ => ?_) (fun h => absurd h (by decide))
      have hgg := hT3
      unfold vgoing at hgg
      refine a_ald0 eX10_going_20 ?_
      refine a_ild2 eX10_going_21 ?_
      refine a_eqtop (y0 := ((k.toNat : Nat) : Int)) (by omega) ?_
      refine a_cV1 eX10_going_22 lk_X10_338 mV_X10_works sh_171 ⟨_, rfl, rfl⟩ mt_X10_works rfl rfl rfl rfl rfl (c_X10_works hR hM wC hM2 wD hN hH wH (by omega) (w1 := k.toNat) (by omega) (fun σ1 f1 hTb => ?_))
      dsimp only [Option.toList, List.cons_append, List.nil_append]
      have hR := frX_R f1 hR
      have hM := cityM_X f1 hM
      have hM2 := dayM_X f1 hM2
      refine a_ald0 eX10_going_25 ?_
      refine a_ild1 eX10_going_26 ?_
      refine a_ild2 eX10_going_27 ?_
      refine a_eqtop (y0 := ((k.toNat : Nat) : Int)) (by omega) ?_
      refine a_cV2 eX10_going_28 lk_X10_328 mV_X10_goingFrom sh_171 ⟨_, rfl, rfl⟩ mt_X10_goingFrom rfl rfl rfl rfl rfl rfl (c_X10_goingFrom hR hM wC hM2 wD hN wH (by omega) (by omega) (by omega) hTb (fun σ2 f2 hl2 hgo2 => ?_))
      dsimp only [Option.toList, List.cons_append, List.nil_append]
      refine a_l2i eX10_going_31 ?_
      refine a_ist4 eX10_going_32 (by decide) aw_n2i ?_
      refine a_ild3 eX10_going_34 ?_
      refine a_if_ne 43 eX10_going_35 (by decide) (by omega) (fun hT35 => ?_) (fun hF35 => ?_)
      · skip
        refine a_ald0 eX10_going_43 ?_
        refine a_getI 47 eX10_going_44 fl_X10_332 rfl rfl sh_171 ?_
        refine a_eqtop (y0 := gwhoM m p k.toNat) (by exact hgo2) ?_
        refine a_iret eX10_going_47 rfl rfl ⟨Nat.zero_le _, Nat.zero_le _⟩ ?_
        have h9 := h1 hT3 (by omega) σ2 (frX_tr f1 f2)
        first
          | (rw [if_pos (by omega)] at h9; exact h9)
          | (rw [if_neg (by omega)] at h9; exact h9)
      · skip
        refine a_ild4 eX10_going_38 ?_
        refine a_goto 47 eX10_going_40 (by decide) ?_
        refine a_iret eX10_going_47 rfl rfl ⟨Nat.zero_le _, Nat.zero_le _⟩ ?_
        have h9 := h1 hT3 (by omega) σ2 (frX_tr f1 f2)
        first
          | (rw [if_pos (by omega)] at h9; exact h9)
          | (rw [if_neg (by omega)] at h9; exact h9)
    · skip
      dsimp only [Option.toList, List.cons_append, List.nil_append]
      refine a_if_ne 20 eX10_going_15 (by decide) (by omega) (fun h => absurd h (by decide)) (fun _ => ?_)
      refine a_iconst eX10_going_18 ?_
      refine a_iret eX10_going_19 rfl rfl ⟨Nat.zero_le _, Nat.zero_le _⟩ ?_
      first
        | exact h0 (fun q => hF3 q.1)
        | exact h0 (fun q => by omega)
  · skip
    dsimp only [Option.toList, List.cons_append, List.nil_append]
    refine a_if_eq 18 eX10_going_6 (by decide) (by omega) (fun _ => ?_) (fun h => absurd h (by decide))
    refine a_iconst eX10_going_18 ?_
    refine a_iret eX10_going_19 rfl rfl ⟨Nat.zero_le _, Nat.zero_le _⟩ ?_
    first
      | exact h0 (fun q => hF3 q.1)
      | exact h0 (fun q => by omega)

set_option maxHeartbeats 4000000 in
set_option maxRecDepth 100000 in
theorem lp_rby {l : Launch} {σ : aw_S} {Post : Option Value → aw_S → Prop} {tw cs : Bool} (hR : σ.2.2 = RF tw cs) {m : mS} (hM : cityM σ m) (wC : wfCity m) {N : Int} (hM2 : dayM σ m) (wD : wfDay m 0 N) (hN : 0 ≤ N ∧ N ≤ 1000) (hH : chM σ m) (wH : wfCh m) {th p : Int} (hr : (0 ≤ th ∧ th ≤ 2) ∧ (0 ≤ p ∧ p ≤ 99)) (h00 : 0 < m 0 0) (hk : Post (some (.int (jI (thbM m th p)))) σ) : ∀ (n : Nat) (k : Nat) (lx : Option Value), ((m 0 0 - (k : Int) - 1).toNat ≤ n) → ((k : Int) + 1 ≤ m 0 0) → AW l yX10_rankBy cX10_rankBy 6 (some .int) 1 21 0 0 SH Post SH 0 0 (σ) 5 [some (.ref 171), some (.int (jI th)), some (.int (jI p)), some (.int (jI (thb m th p k))), some (.int (jI ((k : Int) + 1))), lx] [] := by
  intro n
  induction n with
  | zero =>
    intro k lx hm hkn
    obtain ⟨c1, c2, c3, c4, c5, c6, c7⟩ := id hM
    obtain ⟨w1, w2, w3, w4, w5, w6, w7, w8⟩ := id wC
    obtain ⟨d1, d2, d3, d4, d5, d6, d7⟩ := id hM2
    obtain ⟨v1, v2, v3, v4, v5, v6, v7, v8⟩ := id wD
    simp only [Int.zero_add] at d4 d5 d6 d7 v4 v5 v6 v7 v8
    have hb := thb_b m th p k
    have c2b := c2 (thb m th p k) (by omega) (by omega)
    have w2b := w2 (thb m th p k) (by omega) (by omega)
    have d4b := d4 (thb m th p k) (by omega) (by omega)
    have v4b := v4 (thb m th p k) (by omega) (by omega)
    have hHb := hH (thb m th p k) (by omega) (by omega)
    have wHb := wH (thb m th p k) (by omega) (by omega)
    have hab := aw_ap_b (a := m 1 (thb m th p k)) (b := p) (by omega) (by omega)
    have hac := aw_ap_comm p (m 1 (thb m th p k))
    refine a_ild4 eX10_rankBy_5 ?_
    refine a_ald0 eX10_rankBy_7 ?_
    refine a_getI 14 eX10_rankBy_8 fl_X10_235 rfl rfl sh_171 ?_
    refine a_eqtop (y0 := m 0 0) (by exact c1) ?_
    refine a_icmp_ge 118 eX10_rankBy_11 (by decide) (by omega) (fun hT11 => ?_) (fun hF11 => ?_)
    · skip
      refine a_ild3 eX10_rankBy_118 ?_
      refine a_iret eX10_rankBy_119 rfl rfl ⟨Nat.zero_le _, Nat.zero_le _⟩ ?_
      unfold thbM at hk
      rw [show (m 0 0).toNat - 1 = k by omega] at hk
      exact hk
    · skip
      exfalso; omega
  | succ n ih =>
    intro k lx hm hkn
    obtain ⟨c1, c2, c3, c4, c5, c6, c7⟩ := id hM
    obtain ⟨w1, w2, w3, w4, w5, w6, w7, w8⟩ := id wC
    obtain ⟨d1, d2, d3, d4, d5, d6, d7⟩ := id hM2
    obtain ⟨v1, v2, v3, v4, v5, v6, v7, v8⟩ := id wD
    simp only [Int.zero_add] at d4 d5 d6 d7 v4 v5 v6 v7 v8
    have hb := thb_b m th p k
    have c2b := c2 (thb m th p k) (by omega) (by omega)
    have w2b := w2 (thb m th p k) (by omega) (by omega)
    have d4b := d4 (thb m th p k) (by omega) (by omega)
    have v4b := v4 (thb m th p k) (by omega) (by omega)
    have hHb := hH (thb m th p k) (by omega) (by omega)
    have wHb := wH (thb m th p k) (by omega) (by omega)
    have hab := aw_ap_b (a := m 1 (thb m th p k)) (b := p) (by omega) (by omega)
    have hac := aw_ap_comm p (m 1 (thb m th p k))
    refine a_ild4 eX10_rankBy_5 ?_
    refine a_ald0 eX10_rankBy_7 ?_
    refine a_getI 14 eX10_rankBy_8 fl_X10_235 rfl rfl sh_171 ?_
    refine a_eqtop (y0 := m 0 0) (by exact c1) ?_
    refine a_icmp_ge 118 eX10_rankBy_11 (by decide) (by omega) (fun hT11 => ?_) (fun hF11 => ?_)
    · skip
      refine a_ild3 eX10_rankBy_118 ?_
      refine a_iret eX10_rankBy_119 rfl rfl ⟨Nat.zero_le _, Nat.zero_le _⟩ ?_
      unfold thbM at hk
      rw [show (m 0 0).toNat - 1 = k by omega] at hk
      exact hk
    · skip
      have c2a := c2 ((k : Int) + 1) (by omega) (by omega)
      have w2a := w2 ((k : Int) + 1) (by omega) (by omega)
      have d4a := d4 ((k : Int) + 1) (by omega) (by omega)
      have v4a := v4 ((k : Int) + 1) (by omega) (by omega)
      have hHa := hH ((k : Int) + 1) (by omega) (by omega)
      have wHa := wH ((k : Int) + 1) (by omega) (by omega)
      have haa := aw_ap_b (a := m 1 ((k : Int) + 1)) (b := p) (by omega) (by omega)
      have haac := aw_ap_comm p (m 1 ((k : Int) + 1))
      refine a_ild1 eX10_rankBy_14 ?_
      refine a_if_ne 48 eX10_rankBy_15 (by decide) (by omega) (fun hT15 => ?_) (fun hF15 => ?_)
      · skip
        refine a_ild1 eX10_rankBy_48 ?_
        refine a_iconst eX10_rankBy_49 ?_
        refine a_icmp_ne 77 eX10_rankBy_50 (by decide) (by omega) (fun hT50 => ?_) (fun hF50 => ?_)
        · skip
          have hbd : ∀ r, bad m th p r = -(m 13 r) := fun r => by unfold bad; rw [if_neg (by omega), if_neg (by omega)]
          refine a_ald0 eX10_rankBy_77 ?_
          refine a_getR 29 187 eX10_rankBy_78 fl_X10_57 rfl rfl sh_171 ((congrFun (congrFun hR _) _).trans rf_171_29) ?_
          refine a_iconst eX10_rankBy_81 ?_
          refine a_ild4 eX10_rankBy_82 ?_
          refine a_imul eX10_rankBy_84 ?_
          refine a_iald eX10_rankBy_85 sh_187 rfl (by omega) ?_
          refine a_eqtop (y0 := m 13 ((k : Int) + 1)) (by exact hHa.1) ?_
          refine a_ald0 eX10_rankBy_86 ?_
          refine a_getR 29 187 eX10_rankBy_87 fl_X10_57 rfl rfl sh_171 ((congrFun (congrFun hR _) _).trans rf_171_29) ?_
          refine a_iconst eX10_rankBy_90 ?_
          refine a_ild3 eX10_rankBy_91 ?_
          refine a_imul eX10_rankBy_92 ?_
          refine a_iald eX10_rankBy_93 sh_187 rfl (by omega) ?_
          refine a_eqtop (y0 := m 13 (thb m th p k)) (by exact hHb.1) ?_
          refine a_icmp_le 101 eX10_rankBy_94 (by decide) (by omega) (fun hT94 => ?_) (fun hF94 => ?_)
          · skip
            refine a_iconst eX10_rankBy_101 ?_
            refine a_ist5 eX10_rankBy_102 (by decide) aw_n2i ?_
            refine a_ild5 eX10_rankBy_104 ?_
            refine a_if_eq 112 eX10_rankBy_106 (by decide) (by omega) (fun _ => ?_) (fun h => absurd h (by decide))
            refine a_iinc4 eX10_rankBy_112 (by decide) aw_n2i ?_
            refine a_goto 5 eX10_rankBy_115 (by decide) ?_
            have e1 : thb m th p (k + 1) = thb m th p k := if_neg (by rw [hbd, hbd]; omega)
            have ih1 := ih (k + 1) (some (.int (jI 0))) (by omega) (by omega)
            rw [e1, show (((k + 1 : Nat) : Nat) : Int) = (k : Int) + 1 by omega] at ih1
            exact ih1
          · skip
            refine a_iconst eX10_rankBy_97 ?_
            refine a_goto 102 eX10_rankBy_98 (by decide) ?_
            refine a_ist5 eX10_rankBy_102 (by decide) aw_n2i ?_
            refine a_ild5 eX10_rankBy_104 ?_
            refine a_if_eq 112 eX10_rankBy_106 (by decide) (by omega) (fun h => absurd h (by decide)) (fun _ => ?_)
            refine a_ild4 eX10_rankBy_109 ?_
            refine a_ist3 eX10_rankBy_111 (by decide) aw_n2i ?_
            refine a_iinc4 eX10_rankBy_112 (by decide) aw_n2i ?_
            refine a_goto 5 eX10_rankBy_115 (by decide) ?_
            have e1 : thb m th p (k + 1) = (k : Int) + 1 := if_pos (by rw [hbd, hbd]; omega)
            have ih1 := ih (k + 1) (some (.int (jI 1))) (by omega) (by omega)
            rw [e1, show (((k + 1 : Nat) : Nat) : Int) = (k : Int) + 1 by omega] at ih1
            exact ih1
        · skip
          have hbd : ∀ r, bad m th p r = m 10 r := fun r => by unfold bad; rw [if_neg (by omega), if_pos (by omega)]
          refine a_ald0 eX10_rankBy_53 ?_
          refine a_getR 25 184 eX10_rankBy_54 fl_X10_48 rfl rfl sh_171 ((congrFun (congrFun hR _) _).trans rf_171_25) ?_
          refine a_ild4 eX10_rankBy_57 ?_
          refine a_iald eX10_rankBy_59 sh_184 rfl (by omega) ?_
          refine a_eqtop (y0 := m 10 ((k : Int) + 1)) (by exact d4a.1) ?_
          refine a_ald0 eX10_rankBy_60 ?_
          refine a_getR 25 184 eX10_rankBy_61 fl_X10_48 rfl rfl sh_171 ((congrFun (congrFun hR _) _).trans rf_171_25) ?_
          refine a_ild3 eX10_rankBy_64 ?_
          refine a_iald eX10_rankBy_65 sh_184 rfl (by omega) ?_
          refine a_eqtop (y0 := m 10 (thb m th p k)) (by exact d4b.1) ?_
          refine a_icmp_ge 73 eX10_rankBy_66 (by decide) (by omega) (fun hT66 => ?_) (fun hF66 => ?_)
          · skip
            refine a_iconst eX10_rankBy_73 ?_
            refine a_goto 102 eX10_rankBy_74 (by decide) ?_
            refine a_ist5 eX10_rankBy_102 (by decide) aw_n2i ?_
            refine a_ild5 eX10_rankBy_104 ?_
            refine a_if_eq 112 eX10_rankBy_106 (by decide) (by omega) (fun _ => ?_) (fun h => absurd h (by decide))
            refine a_iinc4 eX10_rankBy_112 (by decide) aw_n2i ?_
            refine a_goto 5 eX10_rankBy_115 (by decide) ?_
            have e1 : thb m th p (k + 1) = thb m th p k := if_neg (by rw [hbd, hbd]; omega)
            have ih1 := ih (k + 1) (some (.int (jI 0))) (by omega) (by omega)
            rw [e1, show (((k + 1 : Nat) : Nat) : Int) = (k : Int) + 1 by omega] at ih1
            exact ih1
          · skip
            refine a_iconst eX10_rankBy_69 ?_
            refine a_goto 102 eX10_rankBy_70 (by decide) ?_
            refine a_ist5 eX10_rankBy_102 (by decide) aw_n2i ?_
            refine a_ild5 eX10_rankBy_104 ?_
            refine a_if_eq 112 eX10_rankBy_106 (by decide) (by omega) (fun h => absurd h (by decide)) (fun _ => ?_)
            refine a_ild4 eX10_rankBy_109 ?_
            refine a_ist3 eX10_rankBy_111 (by decide) aw_n2i ?_
            refine a_iinc4 eX10_rankBy_112 (by decide) aw_n2i ?_
            refine a_goto 5 eX10_rankBy_115 (by decide) ?_
            have e1 : thb m th p (k + 1) = (k : Int) + 1 := if_pos (by rw [hbd, hbd]; omega)
            have ih1 := ih (k + 1) (some (.int (jI 1))) (by omega) (by omega)
            rw [e1, show (((k + 1 : Nat) : Nat) : Int) = (k : Int) + 1 by omega] at ih1
            exact ih1
      · skip
        have hbd : ∀ r, bad m th p r = aw_ap (m 1 r) p := fun r => if_pos (by omega)
        refine a_ild2 eX10_rankBy_18 ?_
        refine a_ald0 eX10_rankBy_19 ?_
        refine a_ild4 eX10_rankBy_20 ?_
        refine a_cV1 eX10_rankBy_22 lk_X10_279 mV_X10_place sh_171 ⟨_, rfl, rfl⟩ mt_X10_place rfl rfl rfl rfl rfl (c_X10_place hR (by omega) ?_)
        dsimp only [Option.toList, List.cons_append, List.nil_append]
        refine a_eqtop (y0 := m 1 ((k : Int) + 1)) (by exact c2a.1) ?_
        refine a_cS2 eX10_rankBy_25 lk_X10_296 mS_X10_apart mt_X10_apart rfl rfl rfl rfl rfl rfl (c_X10_apart (by omega) ?_)
        dsimp only [Option.toList, List.cons_append, List.nil_append]
        refine a_ild2 eX10_rankBy_28 ?_
        refine a_ald0 eX10_rankBy_29 ?_
        refine a_ild3 eX10_rankBy_30 ?_
        refine a_cV1 eX10_rankBy_31 lk_X10_279 mV_X10_place sh_171 ⟨_, rfl, rfl⟩ mt_X10_place rfl rfl rfl rfl rfl (c_X10_place hR (by omega) ?_)
        dsimp only [Option.toList, List.cons_append, List.nil_append]
        refine a_eqtop (y0 := m 1 (thb m th p k)) (by exact c2b.1) ?_
        refine a_cS2 eX10_rankBy_34 lk_X10_296 mS_X10_apart mt_X10_apart rfl rfl rfl rfl rfl rfl (c_X10_apart (by omega) ?_)
        dsimp only [Option.toList, List.cons_append, List.nil_append]
        refine a_icmp_ge 44 eX10_rankBy_37 (by decide) (by omega) (fun hT37 => ?_) (fun hF37 => ?_)
        · skip
          refine a_iconst eX10_rankBy_44 ?_
          refine a_goto 102 eX10_rankBy_45 (by decide) ?_
          refine a_ist5 eX10_rankBy_102 (by decide) aw_n2i ?_
          refine a_ild5 eX10_rankBy_104 ?_
          refine a_if_eq 112 eX10_rankBy_106 (by decide) (by omega) (fun _ => ?_) (fun h => absurd h (by decide))
          refine a_iinc4 eX10_rankBy_112 (by decide) aw_n2i ?_
          refine a_goto 5 eX10_rankBy_115 (by decide) ?_
          have e1 : thb m th p (k + 1) = thb m th p k := if_neg (by rw [hbd, hbd]; omega)
          have ih1 := ih (k + 1) (some (.int (jI 0))) (by omega) (by omega)
          rw [e1, show (((k + 1 : Nat) : Nat) : Int) = (k : Int) + 1 by omega] at ih1
          exact ih1
        · skip
          refine a_iconst eX10_rankBy_40 ?_
          refine a_goto 102 eX10_rankBy_41 (by decide) ?_
          refine a_ist5 eX10_rankBy_102 (by decide) aw_n2i ?_
          refine a_ild5 eX10_rankBy_104 ?_
          refine a_if_eq 112 eX10_rankBy_106 (by decide) (by omega) (fun h => absurd h (by decide)) (fun _ => ?_)
          refine a_ild4 eX10_rankBy_109 ?_
          refine a_ist3 eX10_rankBy_111 (by decide) aw_n2i ?_
          refine a_iinc4 eX10_rankBy_112 (by decide) aw_n2i ?_
          refine a_goto 5 eX10_rankBy_115 (by decide) ?_
          have e1 : thb m th p (k + 1) = (k : Int) + 1 := if_pos (by rw [hbd, hbd]; omega)
          have ih1 := ih (k + 1) (some (.int (jI 1))) (by omega) (by omega)
          rw [e1, show (((k + 1 : Nat) : Nat) : Int) = (k : Int) + 1 by omega] at ih1
          exact ih1

set_option maxHeartbeats 4000000 in
set_option maxRecDepth 100000 in
theorem c_X10_rankBy {l : Launch} {σ : aw_S} {Post : Option Value → aw_S → Prop} {tw cs : Bool} (hR : σ.2.2 = RF tw cs) {m : mS} (hM : cityM σ m) (wC : wfCity m) {N : Int} (hM2 : dayM σ m) (wD : wfDay m 0 N) (hN : 0 ≤ N ∧ N ≤ 1000) (hH : chM σ m) (wH : wfCh m) {th p : Int} (hr : (0 ≤ th ∧ th ≤ 2) ∧ (0 ≤ p ∧ p ≤ 99)) (h00 : 0 < m 0 0) (hk : Post (some (.int (jI (thbM m th p)))) σ) : AE l yX10_rankBy cX10_rankBy 6 (some .int) 1 21 0 0 SH SH σ [.ref 171, .int (jI th), .int (jI p)] Post := by
  show AW l yX10_rankBy cX10_rankBy 6 (some .int) 1 21 0 0 SH Post SH 0 0 σ 0 [some (.ref 171), some (.int (jI th)), some (.int (jI p)), none, none, none] []
  refine a_iconst eX10_rankBy_0 ?_
  refine a_ist3 eX10_rankBy_1 (by decide) aw_n2i ?_
  refine a_iconst eX10_rankBy_2 ?_
  refine a_ist4 eX10_rankBy_3 (by decide) aw_n2i ?_
  exact lp_rby hR hM wC hM2 wD hN hH wH hr h00 hk _ 0 none (Nat.le_refl _) (by omega)

set_option maxHeartbeats 4000000 in
set_option maxRecDepth 100000 in
theorem c_X10_thumb {l : Launch} {σ : aw_S} {Post : Option Value → aw_S → Prop} {tw cs : Bool} (hR : σ.2.2 = RF tw cs) {m : mS} (hM : cityM σ m) (wC : wfCity m) {N : Int} (hM2 : dayM σ m) (wD : wfDay m 0 N) (hN : 0 ≤ N ∧ N ≤ 1000) (hH : chM σ m) (wH : wfCh m) {th p k w : Int} (hr : (-2147483648 ≤ th ∧ th ≤ 2147483647) ∧ (-2147483648 ≤ p ∧ p ≤ 2147483647) ∧ (-2147483648 ≤ k ∧ k ≤ 2147483647) ∧ (-2147483648 ≤ w ∧ w ≤ 2147483647)) (h1 : vgoing m p k → (0 ≤ th ∧ th ≤ 2) → (0 ≤ w ∧ w ≤ 1) → ∀ σ', frX σ σ' → Post (some (.int (jI (if w = 0 then tlo m th p k.toNat else thbM m th p)))) σ') (h0 : ¬ (vgoing m p k ∧ (0 ≤ th ∧ th ≤ 2) ∧ (0 ≤ w ∧ w ≤ 1)) → Post (some (.int (jI (-1)))) σ) : AE l yX10_thumb cX10_thumb 8 (some .int) 4 99 0 0 SH SH σ [.ref 171, .int (jI th), .int (jI p), .int (jI k), .int (jI w)] Post := by
  show AW l yX10_thumb cX10_thumb 8 (some .int) 4 99 0 0 SH Post SH 0 0 σ 0 [some (.ref 171), some (.int (jI th)), some (.int (jI p)), some (.int (jI k)), some (.int (jI w)), none, none, none] []
  obtain ⟨c1, c2, c3, c4, c5, c6, c7⟩ := id hM
  obtain ⟨w1, w2, w3, w4, w5, w6, w7, w8⟩ := id wC
  obtain ⟨d1, d2, d3, d4, d5, d6, d7⟩ := id hM2
  obtain ⟨v1, v2, v3, v4, v5, v6, v7, v8⟩ := id wD
  simp only [Int.zero_add] at d4 d5 d6 d7 v4 v5 v6 v7 v8
  refine a_ald0 eX10_thumb_0 ?_
  refine a_ild2 eX10_thumb_1 ?_
  refine a_ild3 eX10_thumb_2 ?_
  refine a_cV2 eX10_thumb_3 lk_X10_341 mV_X10_isGoing sh_171 ⟨_, rfl, rfl⟩ mt_X10_isGoing rfl rfl rfl rfl rfl rfl (c_X10_isGoing hR hM wC (by omega) (fun hT3 => ?_) (fun hF3 => ?_))
  · skip
    dsimp only [Option.toList, List.cons_append, List.nil_append]
    refine a_if_eq 28 eX10_thumb_6 (by decide) (by omega) (fun h => absurd h (by decide)) (fun _ => ?_)
    refine a_ild1 eX10_thumb_9 ?_
    refine a_iconst eX10_thumb_10 ?_
    refine a_iconst eX10_thumb_11 ?_
    refine a_cS3 eX10_thumb_12 lk_X10_128 mS_X10_in mt_X10_in rfl rfl rfl rfl rfl rfl rfl (c_X10_in (by omega) (fun hT12 => ?_) (fun hF12 => ?_))
    · skip
      dsimp only [Option.toList, List.cons_append, List.nil_append]
      refine a_if_eq 28 eX10_thumb_15 (by decide) (by omega) (fun h => absurd h (by decide)) (fun _ => ?_)
      refine a_ild4 eX10_thumb_18 ?_
      refine a_iconst eX10_thumb_20 ?_
      refine a_iconst eX10_thumb_21 ?_
      refine a_cS3 eX10_thumb_22 lk_X10_128 mS_X10_in mt_X10_in rfl rfl rfl rfl rfl rfl rfl (c_X10_in (by omega) (fun hT22 => ?_) (fun hF22 => ?_))
      · skip
        dsimp only [Option.toList, List.cons_append, List.nil_append]
        refine a_if_ne 30 eX10_thumb_25 (by decide) (by omega) (fun _ => ?_) (fun h => absurd h (by decide))
        have hgg := hT3
        unfold vgoing at hgg
        have htb := thb_b m th p ((m 0 0).toNat - 1)
        rw [show thb m th p ((m 0 0).toNat - 1) = thbM m th p from rfl] at htb
        refine a_ald0 eX10_thumb_30 ?_
        refine a_ild1 eX10_thumb_31 ?_
        refine a_ild2 eX10_thumb_32 ?_
        refine a_cV2 eX10_thumb_33 lk_X10_344 mV_X10_rankBy sh_171 ⟨_, rfl, rfl⟩ mt_X10_rankBy rfl rfl rfl rfl rfl rfl (c_X10_rankBy hR hM wC hM2 wD hN hH wH (by omega) (by omega) ?_)
        dsimp only [Option.toList, List.cons_append, List.nil_append]
        refine a_ist5 eX10_thumb_36 (by decide) aw_n2i ?_
        refine a_ild4 eX10_thumb_38 ?_
        refine a_iconst eX10_thumb_40 ?_
        refine a_icmp_ne 47 eX10_thumb_41 (by decide) (by omega) (fun hT41 => ?_) (fun hF41 => ?_)
        · skip
          refine a_ald0 eX10_thumb_47 ?_
          refine a_ild3 eX10_thumb_48 ?_
          refine a_eqtop (y0 := ((k.toNat : Nat) : Int)) (by omega) ?_
          refine a_cV1 eX10_thumb_49 lk_X10_338 mV_X10_works sh_171 ⟨_, rfl, rfl⟩ mt_X10_works rfl rfl rfl rfl rfl (c_X10_works hR hM wC hM2 wD hN hH wH (by omega) (w1 := k.toNat) (by omega) (fun σ1 f1 hTb => ?_))
          dsimp only [Option.toList, List.cons_append, List.nil_append]
          have hR := frX_R f1 hR
          have hM := cityM_X f1 hM
          have hM2 := dayM_X f1 hM2
          have hwb := wfrom_b (ah := ahd m) (p := p) (l := k.toNat) (r := thbM m th p) wC hgg.1 wH (by omega)
          have hlc := lcm_b (wfrom m (ahd m) (wW m (ahd m)) p k.toNat (thbM m th p)) 0
          refine a_ald0 eX10_thumb_52 ?_
          refine a_ild2 eX10_thumb_53 ?_
          refine a_ild5 eX10_thumb_54 ?_
          refine a_ild3 eX10_thumb_56 ?_
          refine a_eqtop (y0 := ((k.toNat : Nat) : Int)) (by omega) ?_
          refine a_cV3 eX10_thumb_57 lk_X10_335 mV_X10_worthFrom sh_171 ⟨_, rfl, rfl⟩ mt_X10_worthFrom rfl rfl rfl rfl rfl rfl rfl (c_X10_worthFrom hR hM wC hM2 wD hN wH (by omega) (by omega) (by omega) (by omega) hTb ?_)
          dsimp only [Option.toList, List.cons_append, List.nil_append]
          refine a_lst6 eX10_thumb_60 (by decide) aw_n2i ?_
          refine a_ald0 eX10_thumb_62 ?_
          refine a_ild2 eX10_thumb_63 ?_
          refine a_ild3 eX10_thumb_64 ?_
          refine a_eqtop (y0 := ((k.toNat : Nat) : Int)) (by omega) ?_
          refine a_cV2 eX10_thumb_65 lk_X10_328 mV_X10_goingFrom sh_171 ⟨_, rfl, rfl⟩ mt_X10_goingFrom rfl rfl rfl rfl rfl rfl (c_X10_goingFrom hR hM wC hM2 wD hN wH (by omega) (by omega) (by omega) hTb (fun σ2 f2 hl2 hgo2 => ?_))
          dsimp only [Option.toList, List.cons_append, List.nil_append]
          refine a_lld6 eX10_thumb_68 ?_
          refine a_lconst 0 eX10_thumb_70 rfl ?_
          refine a_lcmp (lcm (wfrom m (ahd m) (wW m (ahd m)) p k.toNat (thbM m th p)) 0) eX10_thumb_71 (jL_cmp (by omega) (by omega)) ?_
          refine a_if_ge 79 eX10_thumb_72 (by decide) (by omega) (fun hT72 => ?_) (fun hF72 => ?_)
          · skip
            refine a_lld6 eX10_thumb_79 ?_
            refine a_lsub eX10_thumb_81 ?_
            refine a_l2i eX10_thumb_82 ?_
            refine a_iret eX10_thumb_83 rfl rfl ⟨Nat.zero_le _, Nat.zero_le _⟩ ?_
            have h9 := h1 hT3 (by omega) (by omega) σ2 (frX_tr f1 f2)
            rw [if_pos (by omega)] at h9
            unfold tlo ocm at h9
            rw [if_neg (by omega)] at h9
            first
              | (rw [if_pos (by omega)] at h9; exact h9)
              | (rw [if_neg (by omega)] at h9; exact h9)
          · skip
            refine a_lconst 0 eX10_thumb_75 rfl ?_
            refine a_goto 81 eX10_thumb_76 (by decide) ?_
            refine a_lsub eX10_thumb_81 ?_
            refine a_l2i eX10_thumb_82 ?_
            refine a_iret eX10_thumb_83 rfl rfl ⟨Nat.zero_le _, Nat.zero_le _⟩ ?_
            have h9 := h1 hT3 (by omega) (by omega) σ2 (frX_tr f1 f2)
            rw [if_pos (by omega)] at h9
            unfold tlo ocm at h9
            rw [if_neg (by omega)] at h9
            first
              | (rw [if_pos (by omega)] at h9; exact h9)
              | (rw [if_neg (by omega)] at h9; exact h9)
        · skip
          refine a_ild5 eX10_thumb_44 ?_
          refine a_iret eX10_thumb_46 rfl rfl ⟨Nat.zero_le _, Nat.zero_le _⟩ ?_
          have h9 := h1 hT3 (by omega) (by omega) σ (frX_rf σ)
          rw [if_neg (by omega)] at h9
          exact h9
      · skip
        dsimp only [Option.toList, List.cons_append, List.nil_append]
        refine a_if_ne 30 eX10_thumb_25 (by decide) (by omega) (fun h => absurd h (by decide)) (fun _ => ?_)
        refine a_iconst eX10_thumb_28 ?_
        refine a_iret eX10_thumb_29 rfl rfl ⟨Nat.zero_le _, Nat.zero_le _⟩ ?_
        first
          | exact h0 (fun q => hF3 q.1)
          | exact h0 (fun q => by omega)
    · skip
      dsimp only [Option.toList, List.cons_append, List.nil_append]
      refine a_if_eq 28 eX10_thumb_15 (by decide) (by omega) (fun _ => ?_) (fun h => absurd h (by decide))
      refine a_iconst eX10_thumb_28 ?_
      refine a_iret eX10_thumb_29 rfl rfl ⟨Nat.zero_le _, Nat.zero_le _⟩ ?_
      first
        | exact h0 (fun q => hF3 q.1)
        | exact h0 (fun q => by omega)
  · skip
    dsimp only [Option.toList, List.cons_append, List.nil_append]
    refine a_if_eq 28 eX10_thumb_6 (by decide) (by omega) (fun _ => ?_) (fun h => absurd h (by decide))
    refine a_iconst eX10_thumb_28 ?_
    refine a_iret eX10_thumb_29 rfl rfl ⟨Nat.zero_le _, Nat.zero_le _⟩ ?_
    first
      | exact h0 (fun q => hF3 q.1)
      | exact h0 (fun q => by omega)
