def tb (h t : Nat) : Nat := h / 2 ^ t % 2
theorem tb_b (h t : Nat) : tb h t < 2 := Nat.mod_lt _ (by decide)
theorem tb_i (h t : Nat) : h.testBit t = true ↔ tb h t = 1 := by
  have h1 := bt_div h t
  have e : ((h / 2 ^ t : Nat) : Int) = (h : Int) / 2 ^ t := by rw [Int.natCast_ediv, Int.natCast_pow]; rfl
  rw [← e] at h1
  rw [h1]
  unfold tb
  omega
theorem tb_f {h t : Nat} : h.testBit t = false ↔ tb h t = 0 := by
  rw [← Bool.not_eq_true, tb_i]
  have := tb_b h t
  omega
theorem jtb1 {h t : Nat} (hh : h ≤ 2147483647) (ht : t < 32) : jI (h : Int) >>> (jI (t : Int) &&& 31) = jI ((h / 2 ^ t : Nat) : Int) := by
  rw [jI_shr (by omega) (by omega), Int.toNat_natCast]
  congr 1
theorem jtb2 (h t : Nat) : jI ((h / 2 ^ t : Nat) : Int) &&& jI 1 = jI ((tb h t : Nat) : Int) := by
  rw [jI_and1 (Int.natCast_nonneg _)]
  unfold tb
  congr 1
theorem lsH_stay {P : Nat → Int} {h t : Nat} (h1 : lsH P h t = -2) : ∀ d : Nat, lsH P h (t + d) = -2
  | 0 => h1
  | d + 1 => by
    have ih := lsH_stay h1 d
    show (if lsH P h (t + d) = -2 then -2 else _) = -2
    exact if_pos ih
theorem lsH_s (P : Nat → Int) (h t : Nat) : lsH P h (t + 1) = if lsH P h t = -2 then -2 else if h.testBit t = false then (if P t < lsH P h t then -2 else P t) else lsH P h t := rfl
theorem lsH_b {P : Nat → Int} {h s : Nat} (hP : ∀ t : Nat, t < s → 0 ≤ P t ∧ P t ≤ 5) : ∀ t : Nat, t ≤ s → -2 ≤ lsH P h t ∧ lsH P h t ≤ 5
  | 0, _ => by show (-2 : Int) ≤ -1 ∧ (-1 : Int) ≤ 5; omega
  | t + 1, ht => by
    have ih := lsH_b hP (h := h) t (by omega)
    have := hP t (by omega)
    rw [lsH_s]
    split
    · omega
    · split
      · split <;> omega
      · exact ih
theorem popN_mono (M : Nat) : ∀ {k q : Nat}, q ≤ k → popN M q ≤ popN M k
  | 0, q, h => by rw [show q = 0 by omega]; exact Nat.le_refl _
  | k + 1, q, h => by
    by_cases z : q = k + 1
    · rw [z]; exact Nat.le_refl _
    · have := popN_mono M (k := k) (q := q) (by omega)
      rw [popN_t]
      omega
theorem popN_lts {M k q : Nat} (h : q < k) (h1 : M.testBit q = true) : popN M q < popN M k := by
  have h2 := popN_mono M (k := k) (q := q + 1) (by omega)
  rw [popN_t, if_pos h1] at h2
  omega
theorem pin_b {m : mS} {i j : Int} {k : Nat} (h : 0 ≤ m (400 + j) 2) : pin m i j k = -1 ∨ (0 ≤ pin m i j k ∧ pin m i j k < m (400 + j) 2) := isFst_b (pin_f k h)
theorem pin_iff {m : mS} {i j q : Int} {k : Nat} (h : 0 ≤ m (400 + j) 2) (hd : ∀ x y : Int, 0 ≤ x → x < m (400 + j) 2 → 0 ≤ y → y < m (400 + j) 2 → m (400 + j) (3 + x) = m (400 + j) (3 + y) → x = y) (hq : 0 ≤ q ∧ q < m (400 + j) 2) :
    m (400 + i) (3 + (k : Int)) = m (400 + j) (3 + q) ↔ pin m i j k = q := by
  rcases pin_f (m := m) (i := i) (j := j) k h with ⟨a1, a2⟩ | ⟨a1, a2, a3, a4⟩
  · constructor
    · intro z; exact absurd z.symm (a2 q hq.1 hq.2)
    · intro z; omega
  · constructor
    · intro z; exact hd _ _ a1 a2 hq.1 hq.2 (a3.trans z)
    · intro z; subst z; exact a3.symm
def fr83 (σ σ' : aw_S) : Prop := (∀ (a : Nat) (q : Int), a ≠ 82 → a ≠ 83 → σ'.1 a q = σ.1 a q) ∧ σ'.2 = σ.2
def frJ (σ σ' : aw_S) : Prop := (∀ (a : Nat) (q : Int), a ≠ 82 → a ≠ 83 → ¬ (a = 64 ∧ 1 ≤ q ∧ q ≤ 3) → σ'.1 a q = σ.1 a q) ∧ σ'.2 = σ.2
def cmn (σ : aw_S) (m : mS) (i j : Int) (k : Nat) : Prop := ∀ q : Nat, q < k → pin m i j q ≠ -1 → σ.1 83 (popN (jM m i j) q : Int) = pin m i j q ∧ σ.1 82 (popN (jM m i j) q : Int) = m (400 + i) (3 + (q : Int))
set_option maxHeartbeats 4000000 in
set_option maxRecDepth 100000 in
theorem lp_nxt {l : Launch} {σ : aw_S} {Post : Option Value → aw_S → Prop} {tw cs : Bool} (hR : σ.2.2 = RF tw cs) {m : mS} (hwC : wfCity m) (hB : bookC σ m) (wB : wfBook m) {i : Int} (hr : (-2147483648 ≤ i ∧ i ≤ 2147483647)) (hk : ∀ v, ((¬ (0 ≤ i ∧ i < m 0 6) ∧ v = -1) ∨ ((0 ≤ i ∧ i < m 0 6) ∧ isNxt m i v)) → Post (some (.int (jI v))) σ) (hi : 0 ≤ i ∧ i < m 0 6)  : ∀ (n : Nat) (q : Int), ((m 0 6 - q).toNat ≤ n) → (i < q ∧ q ≤ m 0 6) → (∀ k : Int, i < k → k < q → m (400 + k) 0 ≠ m (400 + i) 0) → AW l yX0_nextOfRank cX0_nextOfRank 3 (some .int) 1 22 0 0 SH Post SH 0 0 (σ) 20 [some (.ref 64), some (.int (jI i)), some (.int (jI q))] [] := by
  intro n
  induction n with
  | zero =>
    intro q hm hq hno
    obtain ⟨b1, b2⟩ := id hB
    obtain ⟨z1, z2⟩ := id wB
    have p1 := b2 i (by omega) (by omega)
    have r1 := z2 i (by omega) (by omega)
    have zC := hwC.1
    refine a_ild2 eX0_nextOfRank_20 ?_
    refine a_ald0 eX0_nextOfRank_21 ?_
    refine a_getI 0 eX0_nextOfRank_22 fl_X0_35 rfl rfl sh_64 ?_
    refine a_eqtop (y0 := m 0 6) (by exact b1) ?_
    refine a_icmp_ge 51 eX0_nextOfRank_25 (by decide) (by omega) (fun hT25 => ?_) (fun hF25 => ?_)
    · skip
      refine a_iconst eX0_nextOfRank_51 ?_
      refine a_iret eX0_nextOfRank_52 rfl rfl ⟨Nat.zero_le _, Nat.zero_le _⟩ ?_
      exact hk (-1) (Or.inr ⟨hi, Or.inl ⟨rfl, fun k k1 k2 => hno k k1 (by omega)⟩⟩)
    · skip
      exfalso; omega
  | succ n ih =>
    intro q hm hq hno
    obtain ⟨b1, b2⟩ := id hB
    obtain ⟨z1, z2⟩ := id wB
    have p1 := b2 i (by omega) (by omega)
    have r1 := z2 i (by omega) (by omega)
    have zC := hwC.1
    refine a_ild2 eX0_nextOfRank_20 ?_
    refine a_ald0 eX0_nextOfRank_21 ?_
    refine a_getI 0 eX0_nextOfRank_22 fl_X0_35 rfl rfl sh_64 ?_
    refine a_eqtop (y0 := m 0 6) (by exact b1) ?_
    refine a_icmp_ge 51 eX0_nextOfRank_25 (by decide) (by omega) (fun hT25 => ?_) (fun hF25 => ?_)
    · skip
      refine a_iconst eX0_nextOfRank_51 ?_
      refine a_iret eX0_nextOfRank_52 rfl rfl ⟨Nat.zero_le _, Nat.zero_le _⟩ ?_
      exact hk (-1) (Or.inr ⟨hi, Or.inl ⟨rfl, fun k k1 k2 => hno k k1 (by omega)⟩⟩)
    · skip
      have p2 := b2 q (by omega) (by omega)
      have r2 := z2 q (by omega) (by omega)
      refine a_ald0 eX0_nextOfRank_28 ?_
      refine a_getR 4 65 eX0_nextOfRank_29 fl_X0_11 rfl rfl sh_64 ((congrFun (congrFun hR _) _).trans rf_64_4) ?_
      refine a_ild2 eX0_nextOfRank_32 ?_
      refine a_iald eX0_nextOfRank_33 sh_65 rfl (by omega) ?_
      refine a_eqtop (y0 := m (400 + q) 0) (by exact p2.1) ?_
      refine a_ald0 eX0_nextOfRank_34 ?_
      refine a_getR 4 65 eX0_nextOfRank_35 fl_X0_11 rfl rfl sh_64 ((congrFun (congrFun hR _) _).trans rf_64_4) ?_
      refine a_ild1 eX0_nextOfRank_38 ?_
      refine a_iald eX0_nextOfRank_39 sh_65 rfl (by omega) ?_
      refine a_eqtop (y0 := m (400 + i) 0) (by exact p1.1) ?_
      refine a_icmp_ne 45 eX0_nextOfRank_40 (by decide) (by omega) (fun hT40 => ?_) (fun hF40 => ?_)
      · skip
        refine a_iinc2 eX0_nextOfRank_45 (by decide) aw_n2i ?_
        refine a_goto 20 eX0_nextOfRank_48 (by decide) ?_
        refine ih (q + 1) (by omega) (by omega) (fun k k1 k2 => ?_)
        by_cases e : k = q
        · subst e; omega
        · exact hno k k1 (by omega)
      · skip
        refine a_ild2 eX0_nextOfRank_43 ?_
        refine a_iret eX0_nextOfRank_44 rfl rfl ⟨Nat.zero_le _, Nat.zero_le _⟩ ?_
        exact hk q (Or.inr ⟨hi, Or.inr ⟨by omega, by omega, by omega, hno⟩⟩)

set_option maxHeartbeats 4000000 in
set_option maxRecDepth 100000 in
theorem c_X0_nextOfRank {l : Launch} {σ : aw_S} {Post : Option Value → aw_S → Prop} {tw cs : Bool} (hR : σ.2.2 = RF tw cs) {m : mS} (hwC : wfCity m) (hB : bookC σ m) (wB : wfBook m) {i : Int} (hr : (-2147483648 ≤ i ∧ i ≤ 2147483647)) (hk : ∀ v, ((¬ (0 ≤ i ∧ i < m 0 6) ∧ v = -1) ∨ ((0 ≤ i ∧ i < m 0 6) ∧ isNxt m i v)) → Post (some (.int (jI v))) σ)  : AE l yX0_nextOfRank cX0_nextOfRank 3 (some .int) 1 22 0 0 SH SH σ [.ref 64, .int (jI i)] Post := by
  show AW l yX0_nextOfRank cX0_nextOfRank 3 (some .int) 1 22 0 0 SH Post SH 0 0 σ 0 [some (.ref 64), some (.int (jI i)), none] []
  obtain ⟨b1, b2⟩ := id hB
  obtain ⟨z1, z2⟩ := id wB
  refine a_ild1 eX0_nextOfRank_0 ?_
  refine a_iconst eX0_nextOfRank_1 ?_
  refine a_ald0 eX0_nextOfRank_2 ?_
  refine a_getI 0 eX0_nextOfRank_3 fl_X0_35 rfl rfl sh_64 ?_
  refine a_eqtop (y0 := m 0 6) (by exact b1) ?_
  refine a_iconst eX0_nextOfRank_6 ?_
  refine a_isub eX0_nextOfRank_7 ?_
  refine a_cN3 eX0_nextOfRank_8 ln_X0_47 mS_X9_within mt_X9_within rfl rfl rfl rfl rfl rfl rfl (c_X9_within (by omega) (fun hT8 => ?_) (fun hF8 => ?_))
  · skip
    dsimp only [Option.toList, List.cons_append, List.nil_append]
    refine a_if_ne 16 eX0_nextOfRank_11 (by decide) (by omega) (fun _ => ?_) (fun h => absurd h (by decide))
    refine a_ild1 eX0_nextOfRank_16 ?_
    refine a_iconst eX0_nextOfRank_17 ?_
    refine a_iadd eX0_nextOfRank_18 ?_
    refine a_ist2 eX0_nextOfRank_19 (by decide) aw_n2i ?_
    exact lp_nxt hR hwC hB wB hr hk (by omega) _ (i + 1) (Nat.le_refl _) (by omega) (fun k k1 k2 => by omega)
  · skip
    dsimp only [Option.toList, List.cons_append, List.nil_append]
    refine a_if_ne 16 eX0_nextOfRank_11 (by decide) (by omega) (fun h => absurd h (by decide)) (fun _ => ?_)
    refine a_iconst eX0_nextOfRank_14 ?_
    refine a_iret eX0_nextOfRank_15 rfl rfl ⟨Nat.zero_le _, Nat.zero_le _⟩ ?_
    exact hk (-1) (Or.inl ⟨by omega, rfl⟩)

set_option maxHeartbeats 4000000 in
set_option maxRecDepth 100000 in
theorem lp_fcI {l : Launch} {σ : aw_S} {Post : Option Value → aw_S → Prop} {tw cs : Bool} (hR : σ.2.2 = RF tw cs) {m : mS} (hB : bookC σ m) (wB : wfBook m) {i j : Int} (hi : 0 ≤ i ∧ i < m 0 6) (hj : 0 ≤ j ∧ j < m 0 6) {k : Nat} (hkn : (k : Int) < m (400 + i) 2) (hk : ∀ σ2, fr83 σ σ2 → cmn σ2 m i j (k + 1) → ∀ lx : Option Value, AW l yX0_findCommon cX0_findCommon 6 (some .int) 0 0 0 0 SH Post SH 0 0 (σ2) 83 [some (.ref 64), some (.int (jI i)), some (.int (jI j)), some (.int (jI ((popN (jM m i j) (k + 1) : Nat) : Int))), some (.int (jI (k : Int))), lx] [])  : ∀ (n : Nat) (q : Int) (σ1 : aw_S) (s : Int), ((m (400 + j) 2 - q).toNat ≤ n) → (0 ≤ q ∧ q ≤ m (400 + j) 2) → (fr83 σ σ1) → (cmn σ1 m i j k) → ((pin m i j k = -1 ∨ q ≤ pin m i j k) → s = (popN (jM m i j) k : Int)) → (0 ≤ pin m i j k → pin m i j k < q → s = (popN (jM m i j) k : Int) + 1 ∧ σ1.1 83 (popN (jM m i j) k : Int) = pin m i j k ∧ σ1.1 82 (popN (jM m i j) k : Int) = m (400 + i) (3 + (k : Int))) → AW l yX0_findCommon cX0_findCommon 6 (some .int) 0 0 0 0 SH Post SH 0 0 (σ1) 19 [some (.ref 64), some (.int (jI i)), some (.int (jI j)), some (.int (jI s)), some (.int (jI (k : Int))), some (.int (jI q))] [] := by
  intro n
  induction n with
  | zero =>
    intro q σ1 s hm hq f1 hcm hA hBB
    obtain ⟨b1, b2⟩ := id hB
    obtain ⟨z1, z2⟩ := id wB
    obtain ⟨p1, p2, p3, p4, -⟩ := b2 i (by omega) (by omega)
    obtain ⟨r1, r2, r3, r4, r5⟩ := z2 i (by omega) (by omega)
    obtain ⟨P1, P2, P3, P4, -⟩ := b2 j (by omega) (by omega)
    obtain ⟨R1, R2, R3, R4, R5⟩ := z2 j (by omega) (by omega)
    have hR : σ1.2.2 = RF tw cs := by rw [f1.2]; exact hR
    have e67i : σ1.1 67 i = m (400 + i) 2 := (f1.1 _ _ (by omega) (by omega)).trans p3
    have e67j : σ1.1 67 j = m (400 + j) 2 := (f1.1 _ _ (by omega) (by omega)).trans P3
    have htb : ∀ t : Nat, (jM m i j).testBit t = true ↔ (t < (m (400 + i) 2).toNat ∧ pin m i j t ≠ -1) := fun t => mskF_t m i j t _
    have hpb := pin_b (m := m) (i := i) (j := j) (k := k) (by omega)
    have hpt := popN_t (jM m i j) k
    have hpl := popN_le (jM m i j) k
    have htk := htb k
    refine a_ild5 eX0_findCommon_19 ?_
    refine a_ald0 eX0_findCommon_21 ?_
    refine a_getR 6 67 eX0_findCommon_22 fl_X0_18 rfl rfl sh_64 ((congrFun (congrFun hR _) _).trans rf_64_6) ?_
    refine a_ild2 eX0_findCommon_25 ?_
    refine a_iald eX0_findCommon_26 sh_67 rfl (by omega) ?_
    refine a_eqtop (y0 := m (400 + j) 2) (by exact e67j) ?_
    refine a_icmp_ge 83 eX0_findCommon_27 (by decide) (by omega) (fun hT27 => ?_) (fun hF27 => ?_)
    · skip
      have hfin : s = ((popN (jM m i j) (k + 1) : Nat) : Int) ∧ cmn σ1 m i j (k + 1) := by
        by_cases z : pin m i j k = -1
        · have hf : ¬ (jM m i j).testBit k = true := fun w => (htk.mp w).2 z
          rw [hpt, if_neg hf]
          refine ⟨hA (Or.inl z), fun t t1 t2 => hcm t ?_ t2⟩
          rcases Nat.lt_or_ge t k with w | w
          · exact w
          · exact absurd (show pin m i j t = -1 by rw [show t = k by omega]; exact z) t2
        · have hf : (jM m i j).testBit k = true := htk.mpr ⟨by omega, z⟩
          rw [hpt, if_pos hf]
          obtain ⟨g1, g2, g3⟩ := hBB (by omega) (by omega)
          refine ⟨by omega, fun t t1 t2 => ?_⟩
          by_cases w : t = k
          · subst w; exact ⟨g2, g3⟩
          · exact hcm t (by omega) t2
      rw [hfin.1]
      exact hk σ1 f1 hfin.2 _
    · skip
      exfalso; omega
  | succ n ih =>
    intro q σ1 s hm hq f1 hcm hA hBB
    obtain ⟨b1, b2⟩ := id hB
    obtain ⟨z1, z2⟩ := id wB
    obtain ⟨p1, p2, p3, p4, -⟩ := b2 i (by omega) (by omega)
    obtain ⟨r1, r2, r3, r4, r5⟩ := z2 i (by omega) (by omega)
    obtain ⟨P1, P2, P3, P4, -⟩ := b2 j (by omega) (by omega)
    obtain ⟨R1, R2, R3, R4, R5⟩ := z2 j (by omega) (by omega)
    have hR : σ1.2.2 = RF tw cs := by rw [f1.2]; exact hR
    have e67i : σ1.1 67 i = m (400 + i) 2 := (f1.1 _ _ (by omega) (by omega)).trans p3
    have e67j : σ1.1 67 j = m (400 + j) 2 := (f1.1 _ _ (by omega) (by omega)).trans P3
    have htb : ∀ t : Nat, (jM m i j).testBit t = true ↔ (t < (m (400 + i) 2).toNat ∧ pin m i j t ≠ -1) := fun t => mskF_t m i j t _
    have hpb := pin_b (m := m) (i := i) (j := j) (k := k) (by omega)
    have hpt := popN_t (jM m i j) k
    have hpl := popN_le (jM m i j) k
    have htk := htb k
    refine a_ild5 eX0_findCommon_19 ?_
    refine a_ald0 eX0_findCommon_21 ?_
    refine a_getR 6 67 eX0_findCommon_22 fl_X0_18 rfl rfl sh_64 ((congrFun (congrFun hR _) _).trans rf_64_6) ?_
    refine a_ild2 eX0_findCommon_25 ?_
    refine a_iald eX0_findCommon_26 sh_67 rfl (by omega) ?_
    refine a_eqtop (y0 := m (400 + j) 2) (by exact e67j) ?_
    refine a_icmp_ge 83 eX0_findCommon_27 (by decide) (by omega) (fun hT27 => ?_) (fun hF27 => ?_)
    · skip
      have hfin : s = ((popN (jM m i j) (k + 1) : Nat) : Int) ∧ cmn σ1 m i j (k + 1) := by
        by_cases z : pin m i j k = -1
        · have hf : ¬ (jM m i j).testBit k = true := fun w => (htk.mp w).2 z
          rw [hpt, if_neg hf]
          refine ⟨hA (Or.inl z), fun t t1 t2 => hcm t ?_ t2⟩
          rcases Nat.lt_or_ge t k with w | w
          · exact w
          · exact absurd (show pin m i j t = -1 by rw [show t = k by omega]; exact z) t2
        · have hf : (jM m i j).testBit k = true := htk.mpr ⟨by omega, z⟩
          rw [hpt, if_pos hf]
          obtain ⟨g1, g2, g3⟩ := hBB (by omega) (by omega)
          refine ⟨by omega, fun t t1 t2 => ?_⟩
          by_cases w : t = k
          · subst w; exact ⟨g2, g3⟩
          · exact hcm t (by omega) t2
      rw [hfin.1]
      exact hk σ1 f1 hfin.2 _
    · skip
      have hpi := pin_iff (m := m) (i := i) (j := j) (q := q) (k := k) (by omega) R5 (by omega)
      have rk := r4 (k : Int) (by omega) (by omega)
      have Rq := R4 q (by omega) (by omega)
      have ek : σ1.1 (70 + i.toNat) (k : Int) = m (400 + i) (3 + (k : Int)) := (f1.1 _ _ (by omega) (by omega)).trans (p4 _ (by omega) (by omega))
      have eq2 : σ1.1 (70 + j.toNat) q = m (400 + j) (3 + q) := (f1.1 _ _ (by omega) (by omega)).trans (P4 _ (by omega) (by omega))
      refine a_ald0 eX0_findCommon_30 ?_
      refine a_getR 8 69 eX0_findCommon_31 fl_X0_26 rfl rfl sh_64 ((congrFun (congrFun hR _) _).trans rf_64_8) ?_
      refine a_ild1 eX0_findCommon_34 ?_
      refine a_aald _ eX0_findCommon_35 sh_69 rfl rfl rfl (by omega) ((congrFun (congrFun hR _) _).trans (rf_seen (by omega))) ?_
      refine a_ild4 eX0_findCommon_36 ?_
      refine a_iald eX0_findCommon_38 (sh_seen (by omega)) rfl (by omega) ?_
      refine a_eqtop (y0 := m (400 + i) (3 + (k : Int))) (by exact ek) ?_
      refine a_ald0 eX0_findCommon_39 ?_
      refine a_getR 8 69 eX0_findCommon_40 fl_X0_26 rfl rfl sh_64 ((congrFun (congrFun hR _) _).trans rf_64_8) ?_
      refine a_ild2 eX0_findCommon_43 ?_
      refine a_aald _ eX0_findCommon_44 sh_69 rfl rfl rfl (by omega) ((congrFun (congrFun hR _) _).trans (rf_seen (by omega))) ?_
      refine a_ild5 eX0_findCommon_45 ?_
      refine a_iald eX0_findCommon_47 (sh_seen (by omega)) rfl (by omega) ?_
      refine a_eqtop (y0 := m (400 + j) (3 + q)) (by exact eq2) ?_
      refine a_icmp_ne 77 eX0_findCommon_48 (by decide) (by omega) (fun hT48 => ?_) (fun hF48 => ?_)
      · skip
        refine a_iinc5 eX0_findCommon_77 (by decide) aw_n2i ?_
        refine a_goto 19 eX0_findCommon_80 (by decide) ?_
        refine ih (q + 1) _ _ (by omega) (by omega) f1 hcm (fun z => hA (by omega)) (fun z1 z2 => hBB z1 (by omega))
      · skip
        have hpq := hpi.mp (by omega)
        have hs0 := hA (by omega)
        refine a_ald0 eX0_findCommon_51 ?_
        refine a_getR 9 82 eX0_findCommon_52 fl_X0_29 rfl rfl sh_64 ((congrFun (congrFun hR _) _).trans rf_64_9) ?_
        refine a_ild3 eX0_findCommon_55 ?_
        refine a_ald0 eX0_findCommon_56 ?_
        refine a_getR 8 69 eX0_findCommon_57 fl_X0_26 rfl rfl sh_64 ((congrFun (congrFun hR _) _).trans rf_64_8) ?_
        refine a_ild1 eX0_findCommon_60 ?_
        refine a_aald _ eX0_findCommon_61 sh_69 rfl rfl rfl (by omega) ((congrFun (congrFun hR _) _).trans (rf_seen (by omega))) ?_
        refine a_ild4 eX0_findCommon_62 ?_
        refine a_iald eX0_findCommon_64 (sh_seen (by omega)) rfl (by omega) ?_
        refine a_eqtop (y0 := m (400 + i) (3 + (k : Int))) (by exact ek) ?_
        refine a_iast eX0_findCommon_65 sh_82 rfl (by omega) ?_
        refine a_ald0 eX0_findCommon_66 ?_
        refine a_getR 10 83 eX0_findCommon_67 fl_X0_32 rfl rfl sh_64 ((congrFun (congrFun hR _) _).trans rf_64_10) ?_
        refine a_ild3 eX0_findCommon_70 ?_
        refine a_ild5 eX0_findCommon_71 ?_
        refine a_iast eX0_findCommon_73 sh_83 rfl (by omega) ?_
        refine a_iinc3 eX0_findCommon_74 (by decide) aw_n2i ?_
        refine a_iinc5 eX0_findCommon_77 (by decide) aw_n2i ?_
        refine a_goto 19 eX0_findCommon_80 (by decide) ?_
        have hs := hA (by omega)
        subst hs
        refine ih (q + 1) _ _ (by omega) (by omega) ⟨fun a x h1 h2 => by simp only [rd_si]; rw [if_neg (by omega), if_neg (by omega)]; exact f1.1 a x h1 h2, f1.2⟩ (fun t t1 t2 => ?_) (fun z => by omega) (fun z1 z2 => ⟨by omega, ?_, ?_⟩)
        · have h9 := popN_lts (M := jM m i j) (k := k) t1 ((htb t).mpr ⟨by omega, t2⟩)
          have h8 := hcm t t1 t2
          refine ⟨?_, ?_⟩
          · rw [rd_si_ni (by omega), rd_si_ne (by omega)]; exact h8.1
          · rw [rd_si_ne (by omega), rd_si_ni (by omega)]; exact h8.2
        · rw [rd_si_eq]; omega
        · rw [rd_si_ne (by omega), rd_si_eq]

set_option maxHeartbeats 4000000 in
set_option maxRecDepth 100000 in
theorem lp_fcO {l : Launch} {σ : aw_S} {Post : Option Value → aw_S → Prop} {tw cs : Bool} (hR : σ.2.2 = RF tw cs) {m : mS} (hB : bookC σ m) (wB : wfBook m) {i j : Int} (hi : 0 ≤ i ∧ i < m 0 6) (hj : 0 ≤ j ∧ j < m 0 6) (hk : ∀ σ2, fr83 σ σ2 → cmn σ2 m i j (m (400 + i) 2).toNat → Post (some (.int (jI ((popN (jM m i j) (m (400 + i) 2).toNat : Nat) : Int)))) σ2)  : ∀ (n : Nat) (k : Nat) (σ1 : aw_S) (lx : Option Value), ((m (400 + i) 2 - (k : Int)).toNat ≤ n) → ((k : Int) ≤ m (400 + i) 2) → (fr83 σ σ1) → (cmn σ1 m i j k) → AW l yX0_findCommon cX0_findCommon 6 (some .int) 0 0 0 0 SH Post SH 0 0 (σ1) 5 [some (.ref 64), some (.int (jI i)), some (.int (jI j)), some (.int (jI ((popN (jM m i j) k : Nat) : Int))), some (.int (jI (k : Int))), lx] [] := by
  intro n
  induction n with
  | zero =>
    intro k σ1 lx hm hkn f1 hcm
    obtain ⟨b1, b2⟩ := id hB
    obtain ⟨z1, z2⟩ := id wB
    obtain ⟨p1, p2, p3, p4, -⟩ := b2 i (by omega) (by omega)
    obtain ⟨r1, r2, r3, r4, r5⟩ := z2 i (by omega) (by omega)
    obtain ⟨P1, P2, P3, P4, -⟩ := b2 j (by omega) (by omega)
    obtain ⟨R1, R2, R3, R4, R5⟩ := z2 j (by omega) (by omega)
    have hR : σ1.2.2 = RF tw cs := by rw [f1.2]; exact hR
    have e67i : σ1.1 67 i = m (400 + i) 2 := (f1.1 _ _ (by omega) (by omega)).trans p3
    have e67j : σ1.1 67 j = m (400 + j) 2 := (f1.1 _ _ (by omega) (by omega)).trans P3
    have hB1 : bookC σ1 m := bookC_cong hB z1 (fun a q q1 q2 q3 => f1.1 a q (by omega) (by omega)) (fun t ht q => f1.1 _ q (by omega) (by omega))
    refine a_ild4 eX0_findCommon_5 ?_
    refine a_ald0 eX0_findCommon_7 ?_
    refine a_getR 6 67 eX0_findCommon_8 fl_X0_18 rfl rfl sh_64 ((congrFun (congrFun hR _) _).trans rf_64_6) ?_
    refine a_ild1 eX0_findCommon_11 ?_
    refine a_iald eX0_findCommon_12 sh_67 rfl (by omega) ?_
    refine a_eqtop (y0 := m (400 + i) 2) (by exact e67i) ?_
    refine a_icmp_ge 89 eX0_findCommon_13 (by decide) (by omega) (fun hT13 => ?_) (fun hF13 => ?_)
    · skip
      refine a_ild3 eX0_findCommon_89 ?_
      refine a_iret eX0_findCommon_90 rfl rfl ⟨Nat.zero_le _, Nat.zero_le _⟩ ?_
      rw [show (m (400 + i) 2).toNat = k by omega] at hk
      exact hk σ1 f1 hcm
    · skip
      exfalso; omega
  | succ n ih =>
    intro k σ1 lx hm hkn f1 hcm
    obtain ⟨b1, b2⟩ := id hB
    obtain ⟨z1, z2⟩ := id wB
    obtain ⟨p1, p2, p3, p4, -⟩ := b2 i (by omega) (by omega)
    obtain ⟨r1, r2, r3, r4, r5⟩ := z2 i (by omega) (by omega)
    obtain ⟨P1, P2, P3, P4, -⟩ := b2 j (by omega) (by omega)
    obtain ⟨R1, R2, R3, R4, R5⟩ := z2 j (by omega) (by omega)
    have hR : σ1.2.2 = RF tw cs := by rw [f1.2]; exact hR
    have e67i : σ1.1 67 i = m (400 + i) 2 := (f1.1 _ _ (by omega) (by omega)).trans p3
    have e67j : σ1.1 67 j = m (400 + j) 2 := (f1.1 _ _ (by omega) (by omega)).trans P3
    have hB1 : bookC σ1 m := bookC_cong hB z1 (fun a q q1 q2 q3 => f1.1 a q (by omega) (by omega)) (fun t ht q => f1.1 _ q (by omega) (by omega))
    refine a_ild4 eX0_findCommon_5 ?_
    refine a_ald0 eX0_findCommon_7 ?_
    refine a_getR 6 67 eX0_findCommon_8 fl_X0_18 rfl rfl sh_64 ((congrFun (congrFun hR _) _).trans rf_64_6) ?_
    refine a_ild1 eX0_findCommon_11 ?_
    refine a_iald eX0_findCommon_12 sh_67 rfl (by omega) ?_
    refine a_eqtop (y0 := m (400 + i) 2) (by exact e67i) ?_
    refine a_icmp_ge 89 eX0_findCommon_13 (by decide) (by omega) (fun hT13 => ?_) (fun hF13 => ?_)
    · skip
      refine a_ild3 eX0_findCommon_89 ?_
      refine a_iret eX0_findCommon_90 rfl rfl ⟨Nat.zero_le _, Nat.zero_le _⟩ ?_
      rw [show (m (400 + i) 2).toNat = k by omega] at hk
      exact hk σ1 f1 hcm
    · skip
      refine a_iconst eX0_findCommon_16 ?_
      refine a_ist5 eX0_findCommon_17 (by decide) aw_n2i ?_
      refine lp_fcI (σ := σ1) hR hB1 wB hi hj (k := k) (by omega) (fun σ2 f2 hcm2 lx => ?_) _ 0 σ1 _ (Nat.le_refl _) (by omega) ⟨fun _ _ _ _ => rfl, rfl⟩ hcm (fun _ => rfl) (fun z1 z2 => by omega)
      refine a_iinc4 eX0_findCommon_83 (by decide) aw_n2i ?_
      refine a_goto 5 eX0_findCommon_86 (by decide) ?_
      have ih1 := ih (k + 1) σ2 lx (by omega) (by omega) ⟨fun a x h1 h2 => (f2.1 a x h1 h2).trans (f1.1 a x h1 h2), f2.2.trans f1.2⟩ hcm2
      rw [show (((k + 1 : Nat) : Nat) : Int) = (k : Int) + 1 by omega] at ih1
      exact ih1

set_option maxHeartbeats 4000000 in
set_option maxRecDepth 100000 in
theorem c_X0_findCommon {l : Launch} {σ : aw_S} {Post : Option Value → aw_S → Prop} {tw cs : Bool} (hR : σ.2.2 = RF tw cs) {m : mS} (hB : bookC σ m) (wB : wfBook m) {i j : Int} (hi : 0 ≤ i ∧ i < m 0 6) (hj : 0 ≤ j ∧ j < m 0 6) (hk : ∀ σ2, fr83 σ σ2 → cmn σ2 m i j (m (400 + i) 2).toNat → Post (some (.int (jI ((popN (jM m i j) (m (400 + i) 2).toNat : Nat) : Int)))) σ2)  : AE l yX0_findCommon cX0_findCommon 6 (some .int) 0 0 0 0 SH SH σ [.ref 64, .int (jI i), .int (jI j)] Post := by
  show AW l yX0_findCommon cX0_findCommon 6 (some .int) 0 0 0 0 SH Post SH 0 0 σ 0 [some (.ref 64), some (.int (jI i)), some (.int (jI j)), none, none, none] []
  obtain ⟨b1, b2⟩ := id hB
  obtain ⟨z1, z2⟩ := id wB
  obtain ⟨p1, p2, p3, p4, -⟩ := b2 i (by omega) (by omega)
  obtain ⟨r1, r2, r3, r4, r5⟩ := z2 i (by omega) (by omega)
  obtain ⟨P1, P2, P3, P4, -⟩ := b2 j (by omega) (by omega)
  obtain ⟨R1, R2, R3, R4, R5⟩ := z2 j (by omega) (by omega)
  refine a_iconst eX0_findCommon_0 ?_
  refine a_ist3 eX0_findCommon_1 (by decide) aw_n2i ?_
  refine a_iconst eX0_findCommon_2 ?_
  refine a_ist4 eX0_findCommon_3 (by decide) aw_n2i ?_
  exact lp_fcO hR hB wB hi hj hk _ 0 σ none (Nat.le_refl _) (by omega) ⟨fun _ _ _ _ => rfl, rfl⟩ (fun t t1 t2 => by omega)

set_option maxHeartbeats 4000000 in
set_option maxRecDepth 100000 in
theorem lp_ord {l : Launch} {σ : aw_S} {Post : Option Value → aw_S → Prop} {tw cs : Bool} (hR : σ.2.2 = RF tw cs) {P : Nat → Int} {h s : Nat} (hP : ∀ t : Nat, t < s → σ.1 83 (t : Int) = P t ∧ 0 ≤ P t ∧ P t ≤ 5) (hh : h < 64) (hs6 : s ≤ 6) (h1 : lsH P h s ≠ -2 → Post (some (.int (jI 1))) σ) (h0 : ¬ lsH P h s ≠ -2 → Post (some (.int (jI 0))) σ)  : ∀ (n : Nat) (t : Nat), ((s - t) ≤ n) → (t ≤ s) → (lsH P h t ≠ -2) → AW l yX0_isOrderedWithout cX0_isOrderedWithout 5 (some .boolean) 0 0 0 0 SH Post SH 0 0 (σ) 5 [some (.ref 64), some (.int (jI (h : Int))), some (.int (jI (s : Int))), some (.int (jI (lsH P h t))), some (.int (jI (t : Int)))] [] := by
  intro n
  induction n with
  | zero =>
    intro t hm ht hl
    have hb := lsH_b (h := h) (fun t ht => (hP t ht).2) t ht
    have htb := tb_b h t
    refine a_ild4 eX0_isOrderedWithout_5 ?_
    refine a_ild2 eX0_isOrderedWithout_7 ?_
    refine a_icmp_ge 47 eX0_isOrderedWithout_8 (by decide) (by omega) (fun hT8 => ?_) (fun hF8 => ?_)
    · skip
      refine a_iconst eX0_isOrderedWithout_47 ?_
      refine a_zret eX0_isOrderedWithout_48 rfl (by first | exact Or.inl rfl | exact Or.inr rfl | omega) rfl ⟨Nat.zero_le _, Nat.zero_le _⟩ ?_
      exact h1 (by rw [show s = t by omega]; exact hl)
    · skip
      exfalso; omega
  | succ n ih =>
    intro t hm ht hl
    have hb := lsH_b (h := h) (fun t ht => (hP t ht).2) t ht
    have htb := tb_b h t
    refine a_ild4 eX0_isOrderedWithout_5 ?_
    refine a_ild2 eX0_isOrderedWithout_7 ?_
    refine a_icmp_ge 47 eX0_isOrderedWithout_8 (by decide) (by omega) (fun hT8 => ?_) (fun hF8 => ?_)
    · skip
      refine a_iconst eX0_isOrderedWithout_47 ?_
      refine a_zret eX0_isOrderedWithout_48 rfl (by first | exact Or.inl rfl | exact Or.inr rfl | omega) rfl ⟨Nat.zero_le _, Nat.zero_le _⟩ ?_
      exact h1 (by rw [show s = t by omega]; exact hl)
    · skip
      have hPt := hP t (by omega)
      refine a_ild1 eX0_isOrderedWithout_11 ?_
      refine a_ild4 eX0_isOrderedWithout_12 ?_
      refine a_ishr ((h / 2 ^ t : Nat) : Int) eX0_isOrderedWithout_14 (jtb1 (by omega) (by omega)) ?_
      refine a_iconst eX0_isOrderedWithout_15 ?_
      refine a_iand ((tb h t : Nat) : Int) eX0_isOrderedWithout_16 (jtb2 h t) ?_
      refine a_if_ne 41 eX0_isOrderedWithout_17 (by decide) (by omega) (fun hT17 => ?_) (fun hF17 => ?_)
      · skip
        refine a_iinc4 eX0_isOrderedWithout_41 (by decide) aw_n2i ?_
        refine a_goto 5 eX0_isOrderedWithout_44 (by decide) ?_
        have e9 : lsH P h (t + 1) = lsH P h t := by rw [lsH_s, if_neg hl, if_neg (fun z => by have := tb_f.mp z; omega)]
        have ih1 := ih (t + 1) (by omega) (by omega) (by rw [e9]; omega)
        rw [show (((t + 1 : Nat) : Nat) : Int) = (t : Int) + 1 by omega, e9] at ih1
        exact ih1
      · skip
        refine a_ald0 eX0_isOrderedWithout_20 ?_
        refine a_getR 10 83 eX0_isOrderedWithout_21 fl_X0_32 rfl rfl sh_64 ((congrFun (congrFun hR _) _).trans rf_64_10) ?_
        refine a_ild4 eX0_isOrderedWithout_24 ?_
        refine a_iald eX0_isOrderedWithout_26 sh_83 rfl (by omega) ?_
        refine a_eqtop (y0 := P t) (by exact hPt.1) ?_
        refine a_ild3 eX0_isOrderedWithout_27 ?_
        refine a_icmp_ge 33 eX0_isOrderedWithout_28 (by decide) (by omega) (fun hT28 => ?_) (fun hF28 => ?_)
        · skip
          refine a_ald0 eX0_isOrderedWithout_33 ?_
          refine a_getR 10 83 eX0_isOrderedWithout_34 fl_X0_32 rfl rfl sh_64 ((congrFun (congrFun hR _) _).trans rf_64_10) ?_
          refine a_ild4 eX0_isOrderedWithout_37 ?_
          refine a_iald eX0_isOrderedWithout_39 sh_83 rfl (by omega) ?_
          refine a_eqtop (y0 := P t) (by exact hPt.1) ?_
          refine a_ist3 eX0_isOrderedWithout_40 (by decide) aw_n2i ?_
          refine a_iinc4 eX0_isOrderedWithout_41 (by decide) aw_n2i ?_
          refine a_goto 5 eX0_isOrderedWithout_44 (by decide) ?_
          have e9 : lsH P h (t + 1) = P t := by rw [lsH_s, if_neg hl, if_pos (tb_f.mpr (by omega)), if_neg (by omega)]
          have ih1 := ih (t + 1) (by omega) (by omega) (by rw [e9]; omega)
          rw [show (((t + 1 : Nat) : Nat) : Int) = (t : Int) + 1 by omega, e9] at ih1
          exact ih1
        · skip
          refine a_iconst eX0_isOrderedWithout_31 ?_
          refine a_zret eX0_isOrderedWithout_32 rfl (by first | exact Or.inl rfl | exact Or.inr rfl | omega) rfl ⟨Nat.zero_le _, Nat.zero_le _⟩ ?_
          refine h0 (fun z => z ?_)
          have e9 : lsH P h (t + 1) = -2 := by rw [lsH_s, if_neg hl, if_pos (tb_f.mpr (by omega)), if_pos (by omega)]
          have := lsH_stay e9 (s - (t + 1))
          rw [show t + 1 + (s - (t + 1)) = s by omega] at this
          exact this

set_option maxHeartbeats 4000000 in
set_option maxRecDepth 100000 in
theorem c_X0_isOrderedWithout {l : Launch} {σ : aw_S} {Post : Option Value → aw_S → Prop} {tw cs : Bool} (hR : σ.2.2 = RF tw cs) {P : Nat → Int} {h s : Nat} (hP : ∀ t : Nat, t < s → σ.1 83 (t : Int) = P t ∧ 0 ≤ P t ∧ P t ≤ 5) (hh : h < 64) (hs6 : s ≤ 6) (h1 : lsH P h s ≠ -2 → Post (some (.int (jI 1))) σ) (h0 : ¬ lsH P h s ≠ -2 → Post (some (.int (jI 0))) σ)  : AE l yX0_isOrderedWithout cX0_isOrderedWithout 5 (some .boolean) 0 0 0 0 SH SH σ [.ref 64, .int (jI (h : Int)), .int (jI (s : Int))] Post := by
  show AW l yX0_isOrderedWithout cX0_isOrderedWithout 5 (some .boolean) 0 0 0 0 SH Post SH 0 0 σ 0 [some (.ref 64), some (.int (jI (h : Int))), some (.int (jI (s : Int))), none, none] []
  refine a_iconst eX0_isOrderedWithout_0 ?_
  refine a_ist3 eX0_isOrderedWithout_1 (by decide) aw_n2i ?_
  refine a_iconst eX0_isOrderedWithout_2 ?_
  refine a_ist4 eX0_isOrderedWithout_3 (by decide) aw_n2i ?_
  exact lp_ord hR hP hh hs6 h1 h0 _ 0 (Nat.le_refl _) (by omega) (by show (-1 : Int) ≠ -2; decide)

set_option maxHeartbeats 4000000 in
set_option maxRecDepth 100000 in
theorem lp_cof {l : Launch} {σ : aw_S} {Post : Option Value → aw_S → Prop} {tw cs : Bool} (hR : σ.2.2 = RF tw cs) {C : Nat → Nat} {h s : Nat} (hC : ∀ t : Nat, t < s → σ.1 82 (t : Int) = (C t : Int) ∧ C t ≤ 15) (hh : h < 64) (hs6 : s ≤ 6) (hk : Post (some (.int (jI ((btG C h s : Nat) : Int)))) σ)  : ∀ (n : Nat) (t : Nat), ((s - t) ≤ n) → (t ≤ s) → AW l yX0_cabsOf cX0_cabsOf 5 (some .int) 0 0 0 0 SH Post SH 0 0 (σ) 5 [some (.ref 64), some (.int (jI (h : Int))), some (.int (jI (s : Int))), some (.int (jI ((btG C h t : Nat) : Int))), some (.int (jI (t : Int)))] [] := by
  intro n
  induction n with
  | zero =>
    intro t hm ht
    have htb := tb_b h t
    refine a_ild4 eX0_cabsOf_5 ?_
    refine a_ild2 eX0_cabsOf_7 ?_
    refine a_icmp_ge 39 eX0_cabsOf_8 (by decide) (by omega) (fun hT8 => ?_) (fun hF8 => ?_)
    · skip
      refine a_ild3 eX0_cabsOf_39 ?_
      refine a_iret eX0_cabsOf_40 rfl rfl ⟨Nat.zero_le _, Nat.zero_le _⟩ ?_
      rw [show t = s by omega]
      exact hk
    · skip
      exfalso; omega
  | succ n ih =>
    intro t hm ht
    have htb := tb_b h t
    refine a_ild4 eX0_cabsOf_5 ?_
    refine a_ild2 eX0_cabsOf_7 ?_
    refine a_icmp_ge 39 eX0_cabsOf_8 (by decide) (by omega) (fun hT8 => ?_) (fun hF8 => ?_)
    · skip
      refine a_ild3 eX0_cabsOf_39 ?_
      refine a_iret eX0_cabsOf_40 rfl rfl ⟨Nat.zero_le _, Nat.zero_le _⟩ ?_
      rw [show t = s by omega]
      exact hk
    · skip
      have hCt := hC t (by omega)
      refine a_ild1 eX0_cabsOf_11 ?_
      refine a_ild4 eX0_cabsOf_12 ?_
      refine a_ishr ((h / 2 ^ t : Nat) : Int) eX0_cabsOf_14 (jtb1 (by omega) (by omega)) ?_
      refine a_iconst eX0_cabsOf_15 ?_
      refine a_iand ((tb h t : Nat) : Int) eX0_cabsOf_16 (jtb2 h t) ?_
      refine a_iconst eX0_cabsOf_17 ?_
      refine a_icmp_ne 33 eX0_cabsOf_18 (by decide) (by omega) (fun hT18 => ?_) (fun hF18 => ?_)
      · skip
        refine a_iinc4 eX0_cabsOf_33 (by decide) aw_n2i ?_
        refine a_goto 5 eX0_cabsOf_36 (by decide) ?_
        have e9 : btG C h (t + 1) = btG C h t := if_neg (fun z => by have := (tb_i h t).mp z; omega)
        have ih1 := ih (t + 1) (by omega) (by omega)
        rw [show (((t + 1 : Nat) : Nat) : Int) = (t : Int) + 1 by omega, e9] at ih1
        exact ih1
      · skip
        refine a_ild3 eX0_cabsOf_21 ?_
        refine a_iconst eX0_cabsOf_22 ?_
        refine a_ald0 eX0_cabsOf_23 ?_
        refine a_getR 9 82 eX0_cabsOf_24 fl_X0_29 rfl rfl sh_64 ((congrFun (congrFun hR _) _).trans rf_64_9) ?_
        refine a_ild4 eX0_cabsOf_27 ?_
        refine a_iald eX0_cabsOf_29 sh_82 rfl (by omega) ?_
        refine a_eqtop (y0 := ((C t : Nat) : Int)) (by exact hCt.1) ?_
        refine a_ishl (2 ^ C t) eX0_cabsOf_30 (by rw [pw_shl (by omega), Int.toNat_natCast]) ?_
        refine a_ior ((btG C h t ||| 2 ^ C t : Nat) : Int) eX0_cabsOf_31 (by have h9 := aw_or16 (btG C h t) (k := ((C t : Nat) : Int)) (by omega); rw [Int.toNat_natCast] at h9; exact h9) ?_
        refine a_ist3 eX0_cabsOf_32 (by decide) aw_n2i ?_
        refine a_iinc4 eX0_cabsOf_33 (by decide) aw_n2i ?_
        refine a_goto 5 eX0_cabsOf_36 (by decide) ?_
        have e9 : btG C h (t + 1) = btG C h t ||| 2 ^ C t := if_pos ((tb_i h t).mpr (by omega))
        have ih1 := ih (t + 1) (by omega) (by omega)
        rw [show (((t + 1 : Nat) : Nat) : Int) = (t : Int) + 1 by omega, e9] at ih1
        exact ih1

set_option maxHeartbeats 4000000 in
set_option maxRecDepth 100000 in
theorem c_X0_cabsOf {l : Launch} {σ : aw_S} {Post : Option Value → aw_S → Prop} {tw cs : Bool} (hR : σ.2.2 = RF tw cs) {C : Nat → Nat} {h s : Nat} (hC : ∀ t : Nat, t < s → σ.1 82 (t : Int) = (C t : Int) ∧ C t ≤ 15) (hh : h < 64) (hs6 : s ≤ 6) (hk : Post (some (.int (jI ((btG C h s : Nat) : Int)))) σ)  : AE l yX0_cabsOf cX0_cabsOf 5 (some .int) 0 0 0 0 SH SH σ [.ref 64, .int (jI (h : Int)), .int (jI (s : Int))] Post := by
  show AW l yX0_cabsOf cX0_cabsOf 5 (some .int) 0 0 0 0 SH Post SH 0 0 σ 0 [some (.ref 64), some (.int (jI (h : Int))), some (.int (jI (s : Int))), none, none] []
  refine a_iconst eX0_cabsOf_0 ?_
  refine a_ist3 eX0_cabsOf_1 (by decide) aw_n2i ?_
  refine a_iconst eX0_cabsOf_2 ?_
  refine a_ist4 eX0_cabsOf_3 (by decide) aw_n2i ?_
  exact lp_cof hR hC hh hs6 hk _ 0 (Nat.le_refl _) (by omega)
