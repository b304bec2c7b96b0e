set_option maxHeartbeats 4000000 in
set_option maxRecDepth 100000 in
theorem lp_agn {l : Launch} {σ : aw_S} {Post : Option Value → aw_S → Prop} {a : Nat} (ha : isCity a) {tw cs : Bool} (hR : σ.2.2 = RF tw cs) {m : mS} (hC : cityC σ a m) (wC : wfCity m) (hB : bookC σ m) (wB : wfBook m) {j : Int} (hk : ∀ v, iscant m j v → Post (some (.int (jI v))) σ) (hj : 0 ≤ j ∧ j < m 0 6)  : ∀ (n : Nat) (i : Int) (lx : Option Value), ((j - i).toNat ≤ n) → (0 ≤ i ∧ i ≤ j) → (∀ q : Int, 0 ≤ q → q < i → ¬ agn m j q) → AW l yX0_firstAgainst cX0_firstAgainst 5 (some .int) 2 43 0 0 SH Post SH 0 0 (σ) 18 [some (.ref 64), some (.ref a), some (.int (jI j)), some (.int (jI i)), lx] [] := by
  intro n
  induction n with
  | zero =>
    intro i lx hm hi hno
    obtain ⟨c1, c2, c3, c4, c5, c6, c7, c8⟩ := id hC
    obtain ⟨y1, y2, y3, y4, y5, y6, y7, y8⟩ := id wC
    have ha2 : a ≤ 13 := by rcases ha with rfl | rfl <;> omega
    obtain ⟨b1, b2⟩ := id hB
    obtain ⟨z1, z2⟩ := id wB
    obtain ⟨p1, p2, p3, p4, p5⟩ := b2 j (by omega) (by omega)
    obtain ⟨r1, r2, r3, r4, r5⟩ := z2 j (by omega) (by omega)
    obtain ⟨B, q1, q2, q3⟩ := aw_ub p5
    have q3 := aw_mb q3
    clear p5
    refine a_ild3 eX0_firstAgainst_18 ?_
    refine a_ild2 eX0_firstAgainst_19 ?_
    refine a_icmp_ge 88 eX0_firstAgainst_20 (by decide) (by omega) (fun hT20 => ?_) (fun hF20 => ?_)
    · skip
      refine a_iconst eX0_firstAgainst_88 ?_
      refine a_iret eX0_firstAgainst_89 rfl rfl ⟨Nat.zero_le _, Nat.zero_le _⟩ ?_
      refine hk (-1) (Or.inr ⟨by omega, Or.inl ⟨rfl, fun q q1 q2 => hno q q1 (by omega)⟩⟩)
    · skip
      exfalso; omega
  | succ n ih =>
    intro i lx hm hi hno
    obtain ⟨c1, c2, c3, c4, c5, c6, c7, c8⟩ := id hC
    obtain ⟨y1, y2, y3, y4, y5, y6, y7, y8⟩ := id wC
    have ha2 : a ≤ 13 := by rcases ha with rfl | rfl <;> omega
    obtain ⟨b1, b2⟩ := id hB
    obtain ⟨z1, z2⟩ := id wB
    obtain ⟨p1, p2, p3, p4, p5⟩ := b2 j (by omega) (by omega)
    obtain ⟨r1, r2, r3, r4, r5⟩ := z2 j (by omega) (by omega)
    obtain ⟨B, q1, q2, q3⟩ := aw_ub p5
    have q3 := aw_mb q3
    clear p5
    refine a_ild3 eX0_firstAgainst_18 ?_
    refine a_ild2 eX0_firstAgainst_19 ?_
    refine a_icmp_ge 88 eX0_firstAgainst_20 (by decide) (by omega) (fun hT20 => ?_) (fun hF20 => ?_)
    · skip
      refine a_iconst eX0_firstAgainst_88 ?_
      refine a_iret eX0_firstAgainst_89 rfl rfl ⟨Nat.zero_le _, Nat.zero_le _⟩ ?_
      refine hk (-1) (Or.inr ⟨by omega, Or.inl ⟨rfl, fun q q1 q2 => hno q q1 (by omega)⟩⟩)
    · skip
      obtain ⟨s1, s2, s3, s4, s5⟩ := b2 i (by omega) (by omega)
      obtain ⟨t1, t2, t3, t4, t5⟩ := z2 i (by omega) (by omega)
      obtain ⟨A, u1, u2, u3⟩ := aw_ub s5
      have hsh := shrd_bits u3 (aw_ub q3) (fun k k1 k2 => (t4 k k1 k2).1)
      have u3 := aw_mb u3
      clear s5
      have hsh := aw_mb hsh
      have ca := c2 (m (400 + i) 0) (by omega) (by omega)
      have cb := c2 (m (400 + j) 0) (by omega) (by omega)
      have ya := y2 (m (400 + i) 0) (by omega) (by omega)
      have yb := y2 (m (400 + j) 0) (by omega) (by omega)
      have hab := aw_ap_b (a := m 1 (m (400 + j) 0)) (b := m 1 (m (400 + i) 0)) (by omega) (by omega)
      have hac := aw_ap_comm (m 1 (m (400 + i) 0)) (m 1 (m (400 + j) 0))
      refine a_ald1 eX0_firstAgainst_23 ?_
      refine a_ald0 eX0_firstAgainst_24 ?_
      refine a_getR 4 65 eX0_firstAgainst_25 fl_X0_11 rfl rfl sh_64 ((congrFun (congrFun hR _) _).trans rf_64_4) ?_
      refine a_ild2 eX0_firstAgainst_28 ?_
      refine a_iald eX0_firstAgainst_29 sh_65 rfl (by omega) ?_
      refine a_eqtop (y0 := m (400 + j) 0) (by exact p1) ?_
      refine a_ald1 eX0_firstAgainst_30 ?_
      refine a_getR 1 (a + 1) eX0_firstAgainst_31 fl_X0_75 rfl rfl (sh_city ha) ((congrFun (congrFun hR _) _).trans (rf_city_1 ha)) ?_
      refine a_ald0 eX0_firstAgainst_34 ?_
      refine a_getR 4 65 eX0_firstAgainst_35 fl_X0_11 rfl rfl sh_64 ((congrFun (congrFun hR _) _).trans rf_64_4) ?_
      refine a_ild3 eX0_firstAgainst_38 ?_
      refine a_iald eX0_firstAgainst_39 sh_65 rfl (by omega) ?_
      refine a_eqtop (y0 := m (400 + i) 0) (by exact s1) ?_
      refine a_iald eX0_firstAgainst_40 (sh_city_1 ha) rfl (by omega) ?_
      refine a_eqtop (y0 := m 1 (m (400 + i) 0)) (by exact ca.1) ?_
      refine a_cV2 eX0_firstAgainst_41 lk_X0_80 mV_X3_minutesTo (sh_city ha) ⟨_, rfl, rfl⟩ mt_X3_minutesTo rfl rfl rfl rfl rfl rfl (c_X3_minutesTo ha hR (by omega) (by omega) (by omega) ?_)
      dsimp only [Option.toList, List.cons_append, List.nil_append]
      refine a_eqtop (y0 := aw_ap (m 1 (m (400 + j) 0)) (m 1 (m (400 + i) 0))) (by rw [cb.1]) ?_
      refine a_ist4 eX0_firstAgainst_44 (by decide) aw_n2i ?_
      refine a_ald0 eX0_firstAgainst_46 ?_
      refine a_getR 7 68 eX0_firstAgainst_47 fl_X0_21 rfl rfl sh_64 ((congrFun (congrFun hR _) _).trans rf_64_7) ?_
      refine a_ild3 eX0_firstAgainst_50 ?_
      refine a_iald eX0_firstAgainst_51 sh_68 rfl (by omega) ?_
      refine a_eqtop (y0 := (A : Int)) (by exact u2) ?_
      refine a_ald0 eX0_firstAgainst_52 ?_
      refine a_getR 7 68 eX0_firstAgainst_53 fl_X0_21 rfl rfl sh_64 ((congrFun (congrFun hR _) _).trans rf_64_7) ?_
      refine a_ild2 eX0_firstAgainst_56 ?_
      refine a_iald eX0_firstAgainst_57 sh_68 rfl (by omega) ?_
      refine a_eqtop (y0 := (B : Int)) (by exact q2) ?_
      refine a_iand ((A &&& B : Nat) : Int) eX0_firstAgainst_58 (jN_and _ _) ?_
      have hAB : A &&& B ≤ A := Nat.and_le_left
      have hsh := aw_ub hsh
      refine a_if_eq 82 eX0_firstAgainst_59 (by decide) (by omega) (fun hT59 => ?_) (fun hF59 => ?_)
      · skip
        refine a_iinc3 eX0_firstAgainst_82 (by decide) aw_n2i ?_
        refine a_goto 18 eX0_firstAgainst_85 (by decide) ?_
        refine ih (i + 1) _ (by omega) (by omega) (fun q q1 q2 => ?_)
        by_cases e : q = i
        · subst e
          rintro ⟨g1, g2⟩
          have g3 := hsh.mpr g2
          omega
        · exact hno q q1 (by omega)
      · skip
        refine a_ald0 eX0_firstAgainst_62 ?_
        refine a_getR 5 66 eX0_firstAgainst_63 fl_X0_15 rfl rfl sh_64 ((congrFun (congrFun hR _) _).trans rf_64_5) ?_
        refine a_ild2 eX0_firstAgainst_66 ?_
        refine a_iald eX0_firstAgainst_67 sh_66 rfl (by omega) ?_
        refine a_eqtop (y0 := m (400 + j) 1) (by exact p2) ?_
        refine a_ald0 eX0_firstAgainst_68 ?_
        refine a_getR 5 66 eX0_firstAgainst_69 fl_X0_15 rfl rfl sh_64 ((congrFun (congrFun hR _) _).trans rf_64_5) ?_
        refine a_ild3 eX0_firstAgainst_72 ?_
        refine a_iald eX0_firstAgainst_73 sh_66 rfl (by omega) ?_
        refine a_eqtop (y0 := m (400 + i) 1) (by exact s2) ?_
        refine a_isub eX0_firstAgainst_74 ?_
        refine a_ild4 eX0_firstAgainst_75 ?_
        refine a_icmp_ge 82 eX0_firstAgainst_77 (by decide) (by omega) (fun hT77 => ?_) (fun hF77 => ?_)
        · skip
          refine a_iinc3 eX0_firstAgainst_82 (by decide) aw_n2i ?_
          refine a_goto 18 eX0_firstAgainst_85 (by decide) ?_
          refine ih (i + 1) _ (by omega) (by omega) (fun q q1 q2 => ?_)
          by_cases e : q = i
          · subst e
            rintro ⟨g1, g2⟩
            have g3 := hsh.mpr g2
            omega
          · exact hno q q1 (by omega)
        · skip
          refine a_ild3 eX0_firstAgainst_80 ?_
          refine a_iret eX0_firstAgainst_81 rfl rfl ⟨Nat.zero_le _, Nat.zero_le _⟩ ?_
          refine hk i (Or.inr ⟨by omega, Or.inr ⟨by omega, by omega, ⟨by omega, hsh.mp (by omega)⟩, hno⟩⟩)

set_option maxHeartbeats 4000000 in
set_option maxRecDepth 100000 in
theorem c_X0_firstAgainst {l : Launch} {σ : aw_S} {Post : Option Value → aw_S → Prop} {a : Nat} (ha : isCity a) {tw cs : Bool} (hR : σ.2.2 = RF tw cs) {m : mS} (hC : cityC σ a m) (wC : wfCity m) (hB : bookC σ m) (wB : wfBook m) {j : Int} (hk : ∀ v, iscant m j v → Post (some (.int (jI v))) σ) (hr : (-2147483648 ≤ j ∧ j ≤ 2147483647))  : AE l yX0_firstAgainst cX0_firstAgainst 5 (some .int) 2 43 0 0 SH SH σ [.ref 64, .ref a, .int (jI j)] Post := by
  show AW l yX0_firstAgainst cX0_firstAgainst 5 (some .int) 2 43 0 0 SH Post SH 0 0 σ 0 [some (.ref 64), some (.ref a), some (.int (jI j)), none, none] []
  obtain ⟨c1, c2, c3, c4, c5, c6, c7, c8⟩ := id hC
  obtain ⟨y1, y2, y3, y4, y5, y6, y7, y8⟩ := id wC
  have ha2 : a ≤ 13 := by rcases ha with rfl | rfl <;> omega
  obtain ⟨b1, b2⟩ := id hB
  obtain ⟨z1, z2⟩ := id wB
  refine a_ild2 eX0_firstAgainst_0 ?_
  refine a_iconst eX0_firstAgainst_1 ?_
  refine a_ald0 eX0_firstAgainst_2 ?_
  refine a_getI 0 eX0_firstAgainst_3 fl_X0_35 rfl rfl sh_64 ?_
  refine a_eqtop (y0 := m 0 6) (by exact b1) ?_
  refine a_iconst eX0_firstAgainst_6 ?_
  refine a_isub eX0_firstAgainst_7 ?_
  refine a_cN3 eX0_firstAgainst_8 ln_X0_47 mS_X9_within mt_X9_within rfl rfl rfl rfl rfl rfl rfl (c_X9_within (by omega) (fun hT8 => ?_) (fun hF8 => ?_))
  · skip
    dsimp only [Option.toList, List.cons_append, List.nil_append]
    refine a_if_ne 16 eX0_firstAgainst_11 (by decide) (by omega) (fun _ => ?_) (fun h => absurd h (by decide))
    refine a_iconst eX0_firstAgainst_16 ?_
    refine a_ist3 eX0_firstAgainst_17 (by decide) aw_n2i ?_
    exact lp_agn ha hR hC wC hB wB hk (by omega) _ 0 none (Nat.le_refl _) (by omega) (fun q q1 q2 => by omega)
  · skip
    dsimp only [Option.toList, List.cons_append, List.nil_append]
    refine a_if_ne 16 eX0_firstAgainst_11 (by decide) (by omega) (fun h => absurd h (by decide)) (fun _ => ?_)
    refine a_iconst eX0_firstAgainst_14 ?_
    refine a_iret eX0_firstAgainst_15 rfl rfl ⟨Nat.zero_le _, Nat.zero_le _⟩ ?_
    exact hk (-1) (Or.inl ⟨by omega, rfl⟩)

set_option maxHeartbeats 4000000 in
set_option maxRecDepth 100000 in
theorem c_X9_cant {l : Launch} {σ : aw_S} {Post : Option Value → aw_S → Prop} {tw cs : Bool} (hR : σ.2.2 = RF tw cs) {t : Nat} (hct : isCity t) (hrt : RF tw cs 0 1 = some t) {m : mS} (hC : cityC σ t m) (wC : wfCity m) (hB : bookC σ m) (wB : wfBook m) {j : Int} (hr : (-2147483648 ≤ j ∧ j ≤ 2147483647)) (hk : ∀ v, iscant m j v → Post (some (.int (jI v))) σ) : AE l yX9_cant cX9_cant 2 (some .int) 3 67 0 0 SH SH σ [.ref 0, .int (jI j)] Post := by
  show AW l yX9_cant cX9_cant 2 (some .int) 3 67 0 0 SH Post SH 0 0 σ 0 [some (.ref 0), some (.int (jI j))] []
  refine a_ald0 eX9_cant_0 ?_
  refine a_getR 8 64 eX9_cant_1 fl_X9_62 rfl rfl sh_0 ((congrFun (congrFun hR _) _).trans rf_0_8) ?_
  refine a_ald0 eX9_cant_4 ?_
  refine a_getR 1 t eX9_cant_5 fl_X9_19 rfl rfl sh_0 ((congrFun (congrFun hR _) _).trans hrt) ?_
  refine a_ild1 eX9_cant_8 ?_
  refine a_cV2 eX9_cant_9 lk_X9_305 mV_X0_firstAgainst sh_64 ⟨_, rfl, rfl⟩ mt_X0_firstAgainst rfl rfl rfl rfl rfl rfl (c_X0_firstAgainst hct hR hC wC hB wB (fun v hv => ?_) (by omega))
  dsimp only [Option.toList, List.cons_append, List.nil_append]
  refine a_iret eX9_cant_12 rfl rfl ⟨Nat.zero_le _, Nat.zero_le _⟩ ?_
  exact hk v hv

set_option maxHeartbeats 4000000 in
set_option maxRecDepth 100000 in
theorem lp_posI {l : Launch} {σ : aw_S} {Post : Option Value → aw_S → Prop} {tw cs : Bool} (hR : σ.2.2 = RF tw cs) {m : mS} (hB : bookM σ m) (wB : wfBook m) {j c : Int} (hj : 0 ≤ j ∧ j < m 0 6) (hc : 0 ≤ c ∧ c ≤ 15) (hk : ∀ v, isFst (fun k => m (400 + j) (3 + k) = c) (m (400 + j) 2) v → Post (some (.int (jI v))) σ)  : ∀ (n : Nat) (k : Int), ((m (400 + j) 2 - k).toNat ≤ n) → (0 ≤ k ∧ k ≤ m (400 + j) 2) → (∀ q : Int, 0 ≤ q → q < k → ¬ m (400 + j) (3 + q) = c) → AW l yX10_posIn cX10_posIn 4 (some .int) 0 0 0 0 SH Post SH 0 0 (σ) 2 [some (.ref 171), some (.int (jI j)), some (.int (jI c)), some (.int (jI k))] [] := by
  intro n
  induction n with
  | zero =>
    intro k hm hk0 hno
    obtain ⟨b1, b2⟩ := id hB
    obtain ⟨z1, z2⟩ := id wB
    obtain ⟨p1, p2, p3, p4⟩ := b2 j (by omega) (by omega)
    obtain ⟨r1, r2, r3, r4, r5⟩ := z2 j (by omega) (by omega)
    refine a_ild3 eX10_posIn_2 ?_
    refine a_ald0 eX10_posIn_3 ?_
    refine a_getR 33 190 eX10_posIn_4 fl_X10_66 rfl rfl sh_171 ((congrFun (congrFun hR _) _).trans rf_171_33) ?_
    refine a_ild1 eX10_posIn_7 ?_
    refine a_iald eX10_posIn_8 sh_190 rfl (by omega) ?_
    refine a_eqtop (y0 := m (400 + j) 2) (by exact p3) ?_
    refine a_icmp_ge 35 eX10_posIn_9 (by decide) (by omega) (fun hT9 => ?_) (fun hF9 => ?_)
    · skip
      refine a_iconst eX10_posIn_35 ?_
      refine a_iret eX10_posIn_36 rfl rfl ⟨Nat.zero_le _, Nat.zero_le _⟩ ?_
      exact hk (-1) (Or.inl ⟨rfl, fun q q1 q2 => hno q q1 (by omega)⟩)
    · skip
      exfalso; omega
  | succ n ih =>
    intro k hm hk0 hno
    obtain ⟨b1, b2⟩ := id hB
    obtain ⟨z1, z2⟩ := id wB
    obtain ⟨p1, p2, p3, p4⟩ := b2 j (by omega) (by omega)
    obtain ⟨r1, r2, r3, r4, r5⟩ := z2 j (by omega) (by omega)
    refine a_ild3 eX10_posIn_2 ?_
    refine a_ald0 eX10_posIn_3 ?_
    refine a_getR 33 190 eX10_posIn_4 fl_X10_66 rfl rfl sh_171 ((congrFun (congrFun hR _) _).trans rf_171_33) ?_
    refine a_ild1 eX10_posIn_7 ?_
    refine a_iald eX10_posIn_8 sh_190 rfl (by omega) ?_
    refine a_eqtop (y0 := m (400 + j) 2) (by exact p3) ?_
    refine a_icmp_ge 35 eX10_posIn_9 (by decide) (by omega) (fun hT9 => ?_) (fun hF9 => ?_)
    · skip
      refine a_iconst eX10_posIn_35 ?_
      refine a_iret eX10_posIn_36 rfl rfl ⟨Nat.zero_le _, Nat.zero_le _⟩ ?_
      exact hk (-1) (Or.inl ⟨rfl, fun q q1 q2 => hno q q1 (by omega)⟩)
    · skip
      have pk := p4 k (by omega) (by omega)
      have rk := r4 k (by omega) (by omega)
      refine a_ald0 eX10_posIn_12 ?_
      refine a_getR 34 191 eX10_posIn_13 fl_X10_69 rfl rfl sh_171 ((congrFun (congrFun hR _) _).trans rf_171_34) ?_
      refine a_bipush eX10_posIn_16 (by decide) ?_
      refine a_ild1 eX10_posIn_18 ?_
      refine a_imul eX10_posIn_19 ?_
      refine a_ild3 eX10_posIn_20 ?_
      refine a_iadd eX10_posIn_21 ?_
      refine a_iald eX10_posIn_22 sh_191 rfl (by omega) ?_
      refine a_eqtop (y0 := m (400 + j) (3 + k)) (by exact pk) ?_
      refine a_ild2 eX10_posIn_23 ?_
      refine a_icmp_ne 29 eX10_posIn_24 (by decide) (by omega) (fun hT24 => ?_) (fun hF24 => ?_)
      · skip
        refine a_iinc3 eX10_posIn_29 (by decide) aw_n2i ?_
        refine a_goto 2 eX10_posIn_32 (by decide) ?_
        refine ih (k + 1) (by omega) (by omega) (fun q q1 q2 => ?_)
        by_cases e : q = k
        · subst e; omega
        · exact hno q q1 (by omega)
      · skip
        refine a_ild3 eX10_posIn_27 ?_
        refine a_iret eX10_posIn_28 rfl rfl ⟨Nat.zero_le _, Nat.zero_le _⟩ ?_
        exact hk k (Or.inr ⟨by omega, by omega, by omega, hno⟩)

set_option maxHeartbeats 4000000 in
set_option maxRecDepth 100000 in
theorem c_X10_posIn {l : Launch} {σ : aw_S} {Post : Option Value → aw_S → Prop} {tw cs : Bool} (hR : σ.2.2 = RF tw cs) {m : mS} (hB : bookM σ m) (wB : wfBook m) {j c : Int} (hj : 0 ≤ j ∧ j < m 0 6) (hc : 0 ≤ c ∧ c ≤ 15) (hk : ∀ v, isFst (fun k => m (400 + j) (3 + k) = c) (m (400 + j) 2) v → Post (some (.int (jI v))) σ)  : AE l yX10_posIn cX10_posIn 4 (some .int) 0 0 0 0 SH SH σ [.ref 171, .int (jI j), .int (jI c)] Post := by
  show AW l yX10_posIn cX10_posIn 4 (some .int) 0 0 0 0 SH Post SH 0 0 σ 0 [some (.ref 171), some (.int (jI j)), some (.int (jI c)), none] []
  obtain ⟨b1, b2⟩ := id hB
  obtain ⟨z1, z2⟩ := id wB
  obtain ⟨p1, p2, p3, p4⟩ := b2 j (by omega) (by omega)
  obtain ⟨r1, r2, r3, r4, r5⟩ := z2 j (by omega) (by omega)
  refine a_iconst eX10_posIn_0 ?_
  refine a_ist3 eX10_posIn_1 (by decide) aw_n2i ?_
  exact lp_posI hR hB wB hj hc hk _ 0 (Nat.le_refl _) (by omega) (fun q q1 q2 => by omega)

set_option maxHeartbeats 4000000 in
set_option maxRecDepth 100000 in
theorem lp_cnI {l : Launch} {σ : aw_S} {Post : Option Value → aw_S → Prop} {tw cs : Bool} (hR : σ.2.2 = RF tw cs) {m : mS} (hM : cityM σ m) (wC : wfCity m) (hB : bookM σ m) (wB : wfBook m) {j : Int} (hk : ∀ v, iscant m j v → Post (some (.int (jI v))) σ) (hj : 0 ≤ j ∧ j < m 0 6) {i : Int} (hi : 0 ≤ i ∧ i < j) (hno : ∀ q : Int, 0 ≤ q → q < i → ¬ agn m j q) (hd : m (400 + j) 1 - m (400 + i) 1 < aw_ap (m 1 (m (400 + i) 0)) (m 1 (m (400 + j) 0))) (hkk : ¬ shrd m i j → ∀ lx : Option Value, AW l yX10_cant cX10_cant 4 (some .int) 1 23 0 0 SH Post SH 0 0 (σ) 105 [some (.ref 171), some (.int (jI j)), some (.int (jI i)), lx] [])  : ∀ (n : Nat) (k : Int), ((m (400 + i) 2 - k).toNat ≤ n) → (0 ≤ k ∧ k ≤ m (400 + i) 2) → (∀ q l : Int, 0 ≤ q → q < k → 0 ≤ l → l < m (400 + j) 2 → ¬ m (400 + i) (3 + q) = m (400 + j) (3 + l)) → AW l yX10_cant cX10_cant 4 (some .int) 1 23 0 0 SH Post SH 0 0 (σ) 67 [some (.ref 171), some (.int (jI j)), some (.int (jI i)), some (.int (jI k))] [] := by
  intro n
  induction n with
  | zero =>
    intro k hm hk0 hn2
    obtain ⟨c1, c2, c3, c4, c5, c6, c7⟩ := id hM
    obtain ⟨w1, w2, w3, w4, w5, w6, w7, w8⟩ := id wC
    obtain ⟨b1, b2⟩ := id hB
    obtain ⟨z1, z2⟩ := id wB
    obtain ⟨p1, p2, p3, p4⟩ := b2 i (by omega) (by omega)
    obtain ⟨r1, r2, r3, r4, r5⟩ := z2 i (by omega) (by omega)
    refine a_ild3 eX10_cant_67 ?_
    refine a_ald0 eX10_cant_68 ?_
    refine a_getR 33 190 eX10_cant_69 fl_X10_66 rfl rfl sh_171 ((congrFun (congrFun hR _) _).trans rf_171_33) ?_
    refine a_ild2 eX10_cant_72 ?_
    refine a_iald eX10_cant_73 sh_190 rfl (by omega) ?_
    refine a_eqtop (y0 := m (400 + i) 2) (by exact p3) ?_
    refine a_icmp_ge 105 eX10_cant_74 (by decide) (by omega) (fun hT74 => ?_) (fun hF74 => ?_)
    · skip
      refine hkk ?_ _
      rintro ⟨q, l, ⟨q1, q2⟩, ⟨l1, l2⟩, e⟩
      exact hn2 q l q1 (by omega) l1 l2 e
    · skip
      exfalso; omega
  | succ n ih =>
    intro k hm hk0 hn2
    obtain ⟨c1, c2, c3, c4, c5, c6, c7⟩ := id hM
    obtain ⟨w1, w2, w3, w4, w5, w6, w7, w8⟩ := id wC
    obtain ⟨b1, b2⟩ := id hB
    obtain ⟨z1, z2⟩ := id wB
    obtain ⟨p1, p2, p3, p4⟩ := b2 i (by omega) (by omega)
    obtain ⟨r1, r2, r3, r4, r5⟩ := z2 i (by omega) (by omega)
    refine a_ild3 eX10_cant_67 ?_
    refine a_ald0 eX10_cant_68 ?_
    refine a_getR 33 190 eX10_cant_69 fl_X10_66 rfl rfl sh_171 ((congrFun (congrFun hR _) _).trans rf_171_33) ?_
    refine a_ild2 eX10_cant_72 ?_
    refine a_iald eX10_cant_73 sh_190 rfl (by omega) ?_
    refine a_eqtop (y0 := m (400 + i) 2) (by exact p3) ?_
    refine a_icmp_ge 105 eX10_cant_74 (by decide) (by omega) (fun hT74 => ?_) (fun hF74 => ?_)
    · skip
      refine hkk ?_ _
      rintro ⟨q, l, ⟨q1, q2⟩, ⟨l1, l2⟩, e⟩
      exact hn2 q l q1 (by omega) l1 l2 e
    · skip
      have pk := p4 k (by omega) (by omega)
      have rk := r4 k (by omega) (by omega)
      refine a_ald0 eX10_cant_77 ?_
      refine a_ild1 eX10_cant_78 ?_
      refine a_ald0 eX10_cant_79 ?_
      refine a_getR 34 191 eX10_cant_80 fl_X10_69 rfl rfl sh_171 ((congrFun (congrFun hR _) _).trans rf_171_34) ?_
      refine a_bipush eX10_cant_83 (by decide) ?_
      refine a_ild2 eX10_cant_85 ?_
      refine a_imul eX10_cant_86 ?_
      refine a_ild3 eX10_cant_87 ?_
      refine a_iadd eX10_cant_88 ?_
      refine a_iald eX10_cant_89 sh_191 rfl (by omega) ?_
      refine a_eqtop (y0 := m (400 + i) (3 + k)) (by exact pk) ?_
      refine a_cV2 eX10_cant_90 lk_X10_365 mV_X10_posIn sh_171 ⟨_, rfl, rfl⟩ mt_X10_posIn rfl rfl rfl rfl rfl rfl (c_X10_posIn hR hB wB hj (by omega) (fun v hv => ?_))
      dsimp only [Option.toList, List.cons_append, List.nil_append]
      have hvb := isFst_b hv
      have hvm := (z2 j (by omega) (by omega)).2.2.1
      have hv := aw_mb hv
      refine a_iconst eX10_cant_93 ?_
      refine a_icmp_eq 99 eX10_cant_94 (by decide) (by omega) (fun hT94 => ?_) (fun hF94 => ?_)
      · skip
        refine a_iinc3 eX10_cant_99 (by decide) aw_n2i ?_
        refine a_goto 67 eX10_cant_102 (by decide) ?_
        refine ih (k + 1) (by omega) (by omega) (fun q l q1 q2 l1 l2 => ?_)
        by_cases e : q = k
        · subst e
          rcases aw_ub hv with ⟨g1, g2⟩ | ⟨g1, g2, g3, g4⟩
          · exact fun z => g2 l l1 l2 z.symm
          · omega
        · exact hn2 q l q1 (by omega) l1 l2
      · skip
        refine a_ild2 eX10_cant_97 ?_
        refine a_iret eX10_cant_98 rfl rfl ⟨Nat.zero_le _, Nat.zero_le _⟩ ?_
        rcases aw_ub hv with ⟨g1, g2⟩ | ⟨g1, g2, g3, g4⟩
        · omega
        · exact hk i (Or.inr ⟨hj, Or.inr ⟨by omega, by omega, ⟨hd, ⟨k, v, ⟨by omega, by omega⟩, ⟨g1, g2⟩, g3.symm⟩⟩, hno⟩⟩)

set_option maxHeartbeats 4000000 in
set_option maxRecDepth 100000 in
theorem lp_cnO {l : Launch} {σ : aw_S} {Post : Option Value → aw_S → Prop} {tw cs : Bool} (hR : σ.2.2 = RF tw cs) {m : mS} (hM : cityM σ m) (wC : wfCity m) (hB : bookM σ m) (wB : wfBook m) {j : Int} (hk : ∀ v, iscant m j v → Post (some (.int (jI v))) σ) (hj : 0 ≤ j ∧ j < m 0 6)  : ∀ (n : Nat) (i : Int) (lx : Option Value), ((j - i).toNat ≤ n) → (0 ≤ i ∧ i ≤ j) → (∀ q : Int, 0 ≤ q → q < i → ¬ agn m j q) → AW l yX10_cant cX10_cant 4 (some .int) 1 23 0 0 SH Post SH 0 0 (σ) 18 [some (.ref 171), some (.int (jI j)), some (.int (jI i)), lx] [] := by
  intro n
  induction n with
  | zero =>
    intro i lx hm hi hno
    obtain ⟨c1, c2, c3, c4, c5, c6, c7⟩ := id hM
    obtain ⟨w1, w2, w3, w4, w5, w6, w7, w8⟩ := id wC
    obtain ⟨b1, b2⟩ := id hB
    obtain ⟨z1, z2⟩ := id wB
    obtain ⟨p1, p2, p3, p4⟩ := b2 j (by omega) (by omega)
    obtain ⟨r1, r2, r3, r4, r5⟩ := z2 j (by omega) (by omega)
    refine a_ild2 eX10_cant_18 ?_
    refine a_ild1 eX10_cant_19 ?_
    refine a_icmp_ge 111 eX10_cant_20 (by decide) (by omega) (fun hT20 => ?_) (fun hF20 => ?_)
    · skip
      refine a_iconst eX10_cant_111 ?_
      refine a_iret eX10_cant_112 rfl rfl ⟨Nat.zero_le _, Nat.zero_le _⟩ ?_
      exact hk (-1) (Or.inr ⟨hj, Or.inl ⟨rfl, fun q q1 q2 => hno q q1 (by omega)⟩⟩)
    · skip
      exfalso; omega
  | succ n ih =>
    intro i lx hm hi hno
    obtain ⟨c1, c2, c3, c4, c5, c6, c7⟩ := id hM
    obtain ⟨w1, w2, w3, w4, w5, w6, w7, w8⟩ := id wC
    obtain ⟨b1, b2⟩ := id hB
    obtain ⟨z1, z2⟩ := id wB
    obtain ⟨p1, p2, p3, p4⟩ := b2 j (by omega) (by omega)
    obtain ⟨r1, r2, r3, r4, r5⟩ := z2 j (by omega) (by omega)
    refine a_ild2 eX10_cant_18 ?_
    refine a_ild1 eX10_cant_19 ?_
    refine a_icmp_ge 111 eX10_cant_20 (by decide) (by omega) (fun hT20 => ?_) (fun hF20 => ?_)
    · skip
      refine a_iconst eX10_cant_111 ?_
      refine a_iret eX10_cant_112 rfl rfl ⟨Nat.zero_le _, Nat.zero_le _⟩ ?_
      exact hk (-1) (Or.inr ⟨hj, Or.inl ⟨rfl, fun q q1 q2 => hno q q1 (by omega)⟩⟩)
    · skip
      obtain ⟨s1, s2, s3, s4⟩ := b2 i (by omega) (by omega)
      obtain ⟨t1, t2, t3, t4, t5⟩ := z2 i (by omega) (by omega)
      have ca := c2 (m (400 + i) 0) (by omega) (by omega)
      have cb := c2 (m (400 + j) 0) (by omega) (by omega)
      have ya := w2 (m (400 + i) 0) (by omega) (by omega)
      have yb := w2 (m (400 + j) 0) (by omega) (by omega)
      have hab := aw_ap_b (a := m 1 (m (400 + i) 0)) (b := m 1 (m (400 + j) 0)) (by omega) (by omega)
      refine a_ald0 eX10_cant_23 ?_
      refine a_getR 32 189 eX10_cant_24 fl_X10_63 rfl rfl sh_171 ((congrFun (congrFun hR _) _).trans rf_171_32) ?_
      refine a_ild1 eX10_cant_27 ?_
      refine a_iald eX10_cant_28 sh_189 rfl (by omega) ?_
      refine a_eqtop (y0 := m (400 + j) 1) (by exact p2) ?_
      refine a_ald0 eX10_cant_29 ?_
      refine a_getR 32 189 eX10_cant_30 fl_X10_63 rfl rfl sh_171 ((congrFun (congrFun hR _) _).trans rf_171_32) ?_
      refine a_ild2 eX10_cant_33 ?_
      refine a_iald eX10_cant_34 sh_189 rfl (by omega) ?_
      refine a_eqtop (y0 := m (400 + i) 1) (by exact s2) ?_
      refine a_isub eX10_cant_35 ?_
      refine a_ald0 eX10_cant_36 ?_
      refine a_ald0 eX10_cant_37 ?_
      refine a_getR 31 188 eX10_cant_38 fl_X10_60 rfl rfl sh_171 ((congrFun (congrFun hR _) _).trans rf_171_31) ?_
      refine a_ild2 eX10_cant_41 ?_
      refine a_iald eX10_cant_42 sh_188 rfl (by omega) ?_
      refine a_eqtop (y0 := m (400 + i) 0) (by exact s1) ?_
      refine a_cV1 eX10_cant_43 lk_X10_279 mV_X10_place sh_171 ⟨_, rfl, rfl⟩ mt_X10_place rfl rfl rfl rfl rfl (c_X10_place hR (by omega) ?_)
      dsimp only [Option.toList, List.cons_append, List.nil_append]
      refine a_eqtop (y0 := m 1 (m (400 + i) 0)) (by exact ca.1) ?_
      refine a_ald0 eX10_cant_46 ?_
      refine a_ald0 eX10_cant_47 ?_
      refine a_getR 31 188 eX10_cant_48 fl_X10_60 rfl rfl sh_171 ((congrFun (congrFun hR _) _).trans rf_171_31) ?_
      refine a_ild1 eX10_cant_51 ?_
      refine a_iald eX10_cant_52 sh_188 rfl (by omega) ?_
      refine a_eqtop (y0 := m (400 + j) 0) (by exact p1) ?_
      refine a_cV1 eX10_cant_53 lk_X10_279 mV_X10_place sh_171 ⟨_, rfl, rfl⟩ mt_X10_place rfl rfl rfl rfl rfl (c_X10_place hR (by omega) ?_)
      dsimp only [Option.toList, List.cons_append, List.nil_append]
      refine a_eqtop (y0 := m 1 (m (400 + j) 0)) (by exact cb.1) ?_
      refine a_cS2 eX10_cant_56 lk_X10_296 mS_X10_apart mt_X10_apart rfl rfl rfl rfl rfl rfl (c_X10_apart (by omega) ?_)
      dsimp only [Option.toList, List.cons_append, List.nil_append]
      refine a_icmp_lt 65 eX10_cant_59 (by decide) (by omega) (fun hT59 => ?_) (fun hF59 => ?_)
      · skip
        refine a_iconst eX10_cant_65 ?_
        refine a_ist3 eX10_cant_66 (by decide) aw_n2i ?_
        refine lp_cnI hR hM wC hB wB hk hj (i := i) (by omega) hno (by omega) (fun hns lx => ?_) _ 0 (Nat.le_refl _) (by omega) (fun q l q1 q2 l1 l2 => by omega)
        refine a_iinc2 eX10_cant_105 (by decide) aw_n2i ?_
        refine a_goto 18 eX10_cant_108 (by decide) ?_
        refine ih (i + 1) _ (by omega) (by omega) (fun q q1 q2 => ?_)
        by_cases e : q = i
        · subst e
          rintro ⟨g1, g2⟩
          first
            | omega
            | exact hns g2
        · exact hno q q1 (by omega)
      · skip
        refine a_goto 105 eX10_cant_62 (by decide) ?_
        refine a_iinc2 eX10_cant_105 (by decide) aw_n2i ?_
        refine a_goto 18 eX10_cant_108 (by decide) ?_
        refine ih (i + 1) _ (by omega) (by omega) (fun q q1 q2 => ?_)
        by_cases e : q = i
        · subst e
          rintro ⟨g1, g2⟩
          first
            | omega
            | exact hns g2
        · exact hno q q1 (by omega)

set_option maxHeartbeats 4000000 in
set_option maxRecDepth 100000 in
theorem c_X10_cant {l : Launch} {σ : aw_S} {Post : Option Value → aw_S → Prop} {tw cs : Bool} (hR : σ.2.2 = RF tw cs) {m : mS} (hM : cityM σ m) (wC : wfCity m) (hB : bookM σ m) (wB : wfBook m) {j : Int} (hk : ∀ v, iscant m j v → Post (some (.int (jI v))) σ) (hr : (-2147483648 ≤ j ∧ j ≤ 2147483647))  : AE l yX10_cant cX10_cant 4 (some .int) 1 23 0 0 SH SH σ [.ref 171, .int (jI j)] Post := by
  show AW l yX10_cant cX10_cant 4 (some .int) 1 23 0 0 SH Post SH 0 0 σ 0 [some (.ref 171), some (.int (jI j)), none, none] []
  obtain ⟨c1, c2, c3, c4, c5, c6, c7⟩ := id hM
  obtain ⟨w1, w2, w3, w4, w5, w6, w7, w8⟩ := id wC
  obtain ⟨b1, b2⟩ := id hB
  obtain ⟨z1, z2⟩ := id wB
  refine a_ild1 eX10_cant_0 ?_
  refine a_iconst eX10_cant_1 ?_
  refine a_ald0 eX10_cant_2 ?_
  refine a_getI 30 eX10_cant_3 fl_X10_252 rfl rfl sh_171 ?_
  refine a_eqtop (y0 := m 0 6) (by exact b1) ?_
  refine a_iconst eX10_cant_6 ?_
  refine a_isub eX10_cant_7 ?_
  refine a_cS3 eX10_cant_8 lk_X10_128 mS_X10_in mt_X10_in rfl rfl rfl rfl rfl rfl rfl (c_X10_in (by omega) (fun hT8 => ?_) (fun hF8 => ?_))
  · skip
    dsimp only [Option.toList, List.cons_append, List.nil_append]
    refine a_if_ne 16 eX10_cant_11 (by decide) (by omega) (fun _ => ?_) (fun h => absurd h (by decide))
    refine a_iconst eX10_cant_16 ?_
    refine a_ist2 eX10_cant_17 (by decide) aw_n2i ?_
    exact lp_cnO hR hM wC hB wB hk (by omega) _ 0 none (Nat.le_refl _) (by omega) (fun q q1 q2 => by omega)
  · skip
    dsimp only [Option.toList, List.cons_append, List.nil_append]
    refine a_if_ne 16 eX10_cant_11 (by decide) (by omega) (fun h => absurd h (by decide)) (fun _ => ?_)
    refine a_iconst eX10_cant_14 ?_
    refine a_iret eX10_cant_15 rfl rfl ⟨Nat.zero_le _, Nat.zero_le _⟩ ?_
    exact hk (-1) (Or.inl ⟨by omega, rfl⟩)
