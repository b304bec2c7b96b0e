/-! ===== the book of readings ===== -/
theorem aw_or16 (B : Nat) {k : Int} (h : 0 ≤ k ∧ k ≤ 16) : jI (B : Int) ||| jI (2 ^ k.toNat) = jI ((B ||| 2 ^ k.toNat : Nat) : Int) := by
  have e : (2 : Int) ^ k.toNat = ((2 ^ k.toNat : Nat) : Int) := by rw [Int.natCast_pow]; rfl
  rw [e]
  exact jI_or (Int.natCast_nonneg _) (Int.natCast_nonneg _)
def dcnt (x : Nat) : Nat := if h : x = 0 then 0 else dcnt (x / 17) + 1
termination_by x
decreasing_by omega
theorem dcnt_0 : dcnt 0 = 0 := by rw [dcnt]; exact dif_pos rfl
theorem dcnt_s {x : Nat} (h : 0 < x) : dcnt x = dcnt (x / 17) + 1 := by
  conv => lhs; rw [dcnt]
  exact dif_neg (by omega)
theorem dcnt_le : ∀ n x : Nat, x ≤ n → dcnt x ≤ x := by
  intro n
  induction n with
  | zero => intro x h; rw [show x = 0 by omega, dcnt_0]; exact Nat.le_refl 0
  | succ n ih =>
    intro x h
    by_cases q : x = 0
    · rw [q, dcnt_0]; exact Nat.le_refl 0
    · rw [dcnt_s (by omega)]
      have := ih (x / 17) (by omega)
      omega
/-- the digit at j, from the right -/
def dg (x j : Nat) : Nat := x / 17 ^ j % 17
theorem dg_s (x j : Nat) : x / 17 ^ (j + 1) = x / 17 ^ j / 17 := by rw [Nat.pow_succ, Nat.div_div_eq_div_mul]
def rdm (x : Nat) : Nat → Nat
  | 0 => 0
  | j + 1 => rdm x j ||| 2 ^ (dg x j - 1)
def rdok (cabs : Int) (x j : Nat) : Prop := ∀ i : Nat, i < j → (1 ≤ dg x i ∧ (dg x i : Int) ≤ cabs) ∧ (rdm x i).testBit (dg x i - 1) = false
theorem rdok_s {cabs : Int} {x j : Nat} (h : rdok cabs x j) (h1 : 1 ≤ dg x j ∧ (dg x j : Int) ≤ cabs) (h2 : (rdm x j).testBit (dg x j - 1) = false) : rdok cabs x (j + 1) := fun i hi => by
  by_cases q : i = j
  · subst q; exact ⟨h1, h2⟩
  · exact h i (by omega)
theorem rdm_b (x : Nat) : ∀ j : Nat, rdm x j < 65536
  | 0 => by show 0 < 65536; omega
  | j + 1 => by
    have h1 : dg x j < 17 := Nat.mod_lt _ (by decide)
    have h2 : 2 ^ (dg x j - 1) < 2 ^ 16 := Nat.pow_lt_pow_right (by decide) (by omega)
    exact Nat.or_lt_two_pow (n := 16) (rdm_b x j) h2
theorem rdm_t (x : Nat) (c : Nat) : ∀ j : Nat, (rdm x j).testBit c = true ↔ ∃ i : Nat, i < j ∧ dg x i - 1 = c
  | 0 => by
    show (0 : Nat).testBit c = true ↔ _
    rw [Nat.zero_testBit]
    constructor
    · intro h; exact absurd h (by decide)
    · rintro ⟨i, h, -⟩; omega
  | j + 1 => by
    show (rdm x j ||| 2 ^ (dg x j - 1)).testBit c = true ↔ _
    rw [bt_or_pow, Bool.or_eq_true, rdm_t x c j, decide_eq_true_eq]
    constructor
    · rintro (⟨i, h1, h2⟩ | h)
      · exact ⟨i, by omega, h2⟩
      · exact ⟨j, by omega, h.symm⟩
    · rintro ⟨i, h1, h2⟩
      by_cases q : i = j
      · subst q; exact Or.inr h2.symm
      · exact Or.inl ⟨i, by omega, h2⟩
/-- the class holds the book -/
def bookC (σ : aw_S) (m : mS) : Prop :=
  σ.1 64 0 = m 0 6 ∧ ∀ i : Int, 0 ≤ i → i < m 0 6 → σ.1 65 i = m (400 + i) 0 ∧ σ.1 66 i = m (400 + i) 1 ∧ σ.1 67 i = m (400 + i) 2 ∧
    (∀ k : Int, 0 ≤ k → k < m (400 + i) 2 → σ.1 (70 + i.toNat) k = m (400 + i) (3 + k)) ∧
    aw_bx (∃ B : Nat, B < 65536 ∧ σ.1 68 i = (B : Int) ∧ ∀ c : Nat, B.testBit c = true ↔ ∃ k : Int, 0 ≤ k ∧ k < m (400 + i) 2 ∧ m (400 + i) (3 + k) = (c : Int))
/-- the reference holds the book -/
def bookM (σ : aw_S) (m : mS) : Prop :=
  σ.1 171 30 = m 0 6 ∧ ∀ i : Int, 0 ≤ i → i < m 0 6 → σ.1 188 i = m (400 + i) 0 ∧ σ.1 189 i = m (400 + i) 1 ∧ σ.1 190 i = m (400 + i) 2 ∧
    (∀ k : Int, 0 ≤ k → k < m (400 + i) 2 → σ.1 191 (6 * i + k) = m (400 + i) (3 + k))
def wfBook (m : mS) : Prop :=
  (0 ≤ m 0 6 ∧ m 0 6 ≤ 12) ∧ ∀ i : Int, 0 ≤ i → i < m 0 6 → (0 ≤ m (400 + i) 0 ∧ m (400 + i) 0 < m 0 0) ∧ (0 ≤ m (400 + i) 1 ∧ m (400 + i) 1 ≤ 2147483647) ∧ (0 ≤ m (400 + i) 2 ∧ m (400 + i) 2 ≤ 6) ∧
    (∀ k : Int, 0 ≤ k → k < m (400 + i) 2 → 0 ≤ m (400 + i) (3 + k) ∧ m (400 + i) (3 + k) ≤ 15) ∧
    (∀ j k : Int, 0 ≤ j → j < m (400 + i) 2 → 0 ≤ k → k < m (400 + i) 2 → m (400 + i) (3 + j) = m (400 + i) (3 + k) → j = k)
def lmin (m : mS) : Int := if m 0 6 = 0 then 0 else m (400 + (m 0 6 - 1)) 1
def vread (m : mS) (r mi x : Int) : Prop := (0 ≤ r ∧ r < m 0 0) ∧ m 0 6 < 12 ∧ lmin m ≤ mi ∧ 0 ≤ x ∧ dcnt x.toNat ≤ 6 ∧ rdok (m 0 4) x.toNat (dcnt x.toNat)
/-- the reading's row -/
def rrow (r mi : Int) (x : Nat) : Int → Int := fun j => if j = 0 then r else if j = 1 then mi else if j = 2 then (dcnt x : Int) else (dg x (dcnt x - 1 - (j - 3).toNat) : Int) - 1
def mread (m : mS) (r mi x : Int) : mS := upr (up m 0 6 (m 0 6 + 1)) (400 + m 0 6) (rrow r mi x.toNat)
theorem rrow_3 {r mi : Int} {x : Nat} {k : Int} (h : 0 ≤ k) : rrow r mi x (3 + k) = (dg x (dcnt x - 1 - k.toNat) : Int) - 1 := by
  unfold rrow
  rw [if_neg (by omega), if_neg (by omega), if_neg (by omega), show 3 + k - 3 = k by omega]
theorem mread_e {m : mS} {r mi x a j : Int} (h1 : a ≠ 400 + m 0 6) (h2 : ¬ (a = 0 ∧ j = 6)) : mread m r mi x a j = m a j := by
  unfold mread
  rw [upr_ne h1, up_ne h2]
theorem mread_6 {m : mS} {r mi x : Int} (h : 0 ≤ m 0 6) : mread m r mi x 0 6 = m 0 6 + 1 := by
  unfold mread
  rw [upr_ne (by omega)]
  exact up_eq
theorem mread_r {m : mS} {r mi x j : Int} : mread m r mi x (400 + m 0 6) j = rrow r mi x.toNat j := upr_eq
theorem wfBook_read {m : mS} {N r mi x : Int} (w : wfBook m) (wD : wfDay m 0 N) (h : vread m r mi x) (hm : mi ≤ 2147483647) : wfBook (mread m r mi x) := by
  obtain ⟨w1, w2⟩ := w
  obtain ⟨v1, v2, v3, v4, v5, v6⟩ := h
  have h4 := wD.2.1
  have hl : 0 ≤ lmin m := by
    unfold lmin
    split
    · omega
    · have := (w2 (m 0 6 - 1) (by omega) (by omega)).2.1; omega
  refine ⟨by rw [mread_6 (by omega)]; omega, fun i i1 i2 => ?_⟩
  rw [mread_6 (by omega)] at i2
  have e0 : mread m r mi x 0 0 = m 0 0 := mread_e (by omega) (by omega)
  rw [e0]
  by_cases q : i = m 0 6
  · subst q
    have r0 : rrow r mi x.toNat 0 = r := rfl
    have r1 : rrow r mi x.toNat 1 = mi := rfl
    have r2 : rrow r mi x.toNat 2 = (dcnt x.toNat : Int) := rfl
    simp only [mread_r, r0, r1, r2]
    have hd : ∀ k : Int, 0 ≤ k → k < (dcnt x.toNat : Int) → ∃ i : Nat, i = dcnt x.toNat - 1 - k.toNat ∧ i < dcnt x.toNat ∧ rrow r mi x.toNat (3 + k) = (dg x.toNat i : Int) - 1 := fun k k1 k2 => ⟨_, rfl, by omega, rrow_3 k1⟩
    refine ⟨v1, by omega, by omega, fun k k1 k2 => ?_, fun j k j1 j2 k1 k2 e => ?_⟩
    · obtain ⟨i, -, q2, q3⟩ := hd k k1 k2
      have := (v6 i q2).1
      rw [q3]
      omega
    · obtain ⟨i, p1, p2, p3⟩ := hd j j1 j2
      obtain ⟨i', q1, q2, q3⟩ := hd k k1 k2
      rw [p3, q3] at e
      have a1 := (v6 i p2).1
      have a2 := (v6 i' q2).1
      have ed : dg x.toNat i - 1 = dg x.toNat i' - 1 := by omega
      rcases Nat.lt_trichotomy i i' with z | z | z
      · have := (rdm_t x.toNat (dg x.toNat i' - 1) i').mpr ⟨i, z, ed⟩
        rw [(v6 i' q2).2] at this
        cases this
      · omega
      · have := (rdm_t x.toNat (dg x.toNat i - 1) i).mpr ⟨i', z, ed.symm⟩
        rw [(v6 i p2).2] at this
        cases this
  · have e1 : ∀ j, mread m r mi x (400 + i) j = m (400 + i) j := fun j => mread_e (by omega) (by omega)
    simp only [e1]
    exact w2 i i1 (by omega)
theorem bookC_read {σ σ' : aw_S} {m : mS} {r mi x : Int} (h : bookC σ m) (w : 0 ≤ m 0 6) (h0 : σ'.1 64 0 = m 0 6 + 1)
    (he : ∀ (a : Nat) (j : Int), 65 ≤ a → a ≤ 68 → j ≠ m 0 6 → σ'.1 a j = σ.1 a j) (he2 : ∀ (a : Nat) (j : Int), 70 ≤ a → a ≤ 81 → a ≠ 70 + (m 0 6).toNat → σ'.1 a j = σ.1 a j) (h12 : m 0 6 < 12)
    (h1 : σ'.1 65 (m 0 6) = r) (h2 : σ'.1 66 (m 0 6) = mi) (h3 : σ'.1 67 (m 0 6) = (dcnt x.toNat : Int)) (h4 : σ'.1 68 (m 0 6) = (rdm x.toNat (dcnt x.toNat) : Int))
    (h5 : ∀ k : Int, 0 ≤ k → k < (dcnt x.toNat : Int) → σ'.1 (70 + (m 0 6).toNat) k = (dg x.toNat (dcnt x.toNat - 1 - k.toNat) : Int) - 1) (hok : rdok 16 x.toNat (dcnt x.toNat)) : bookC σ' (mread m r mi x) := by
  obtain ⟨b1, b2⟩ := h
  refine ⟨by rw [mread_6 w]; exact h0, fun i i1 i2 => ?_⟩
  rw [mread_6 w] at i2
  by_cases q : i = m 0 6
  · subst q
    have r0 : rrow r mi x.toNat 0 = r := rfl
    have r1 : rrow r mi x.toNat 1 = mi := rfl
    have r2 : rrow r mi x.toNat 2 = (dcnt x.toNat : Int) := rfl
    simp only [mread_r, r0, r1, r2]
    refine ⟨h1, h2, h3, fun k k1 k2 => by rw [h5 k k1 k2, rrow_3 k1], aw_mb ⟨_, rdm_b _ _, h4, fun c => (rdm_t _ _ _).trans ⟨?_, ?_⟩⟩⟩
    · rintro ⟨i, q1, q2⟩
      refine ⟨((dcnt x.toNat - 1 - i : Nat) : Int), by omega, by omega, ?_⟩
      rw [rrow_3 (by omega), show dcnt x.toNat - 1 - (((dcnt x.toNat - 1 - i : Nat) : Int)).toNat = i by omega]
      have := (hok i q1).1
      omega
    · rintro ⟨k, k1, k2, k3⟩
      rw [rrow_3 k1] at k3
      have := (hok (dcnt x.toNat - 1 - k.toNat) (by omega)).1
      exact ⟨dcnt x.toNat - 1 - k.toNat, by omega, by omega⟩
  · have e1 : ∀ j, mread m r mi x (400 + i) j = m (400 + i) j := fun j => mread_e (by omega) (by omega)
    simp only [e1]
    rw [he 65 i (by omega) (by omega) q, he 66 i (by omega) (by omega) q, he 67 i (by omega) (by omega) q, he 68 i (by omega) (by omega) q]
    obtain ⟨q1, q2, q3, q4, q5⟩ := b2 i i1 (by omega)
    exact ⟨q1, q2, q3, fun k k1 k2 => by rw [he2 _ _ (by omega) (by omega) (by omega)]; exact q4 k k1 k2, q5⟩
theorem bookC_cong {σ σ' : aw_S} {m : mS} (h : bookC σ m) (w : 0 ≤ m 0 6 ∧ m 0 6 ≤ 12) (he : ∀ (a : Nat) (j : Int), 64 ≤ a → a ≤ 68 → (a = 64 → j = 0) → σ'.1 a j = σ.1 a j)
    (he2 : ∀ i : Nat, (i : Int) < m 0 6 → ∀ j, σ'.1 (70 + i) j = σ.1 (70 + i) j) : bookC σ' m := by
  obtain ⟨b1, b2⟩ := h
  refine ⟨by rw [he _ _ (by omega) (by omega) (by omega)]; exact b1, fun i i1 i2 => ?_⟩
  rw [he 65 i (by omega) (by omega) (by omega), he 66 i (by omega) (by omega) (by omega), he 67 i (by omega) (by omega) (by omega), he 68 i (by omega) (by omega) (by omega)]
  obtain ⟨q1, q2, q3, q4, q5⟩ := b2 i i1 i2
  exact ⟨q1, q2, q3, fun k k1 k2 => by rw [he2 _ (by omega)]; exact q4 k k1 k2, q5⟩
/-- the class: the book's cells alone have changed -/
def frB (σ σ' : aw_S) : Prop := (∀ (a : Nat) (j : Int), ¬ (64 ≤ a ∧ a ≤ 83) → σ'.1 a j = σ.1 a j) ∧ σ'.2 = σ.2
theorem sh_seen {i : Int} (hi : 0 ≤ i ∧ i < ((12 : Nat) : Int)) : SH[(70 + i.toNat)]? = some (.inr (0, 6)) := aw_fin (P := fun i => SH[(70 + i.toNat)]? = some (.inr (0, 6))) (by decide) hi
theorem rf_seen {i : Int} (hi : 0 ≤ i ∧ i < ((12 : Nat) : Int)) {tw cs : Bool} : RF tw cs 69 i = some (70 + i.toNat) := aw_fin (P := fun i => RF tw cs 69 i = some (70 + i.toNat)) (by cases tw <;> cases cs <;> decide) hi
/-- the reference: the book's cells alone have changed -/
def frBM (σ σ' : aw_S) : Prop := (∀ (a : Nat) (j : Int), ¬ (188 ≤ a ∧ a ≤ 191) → ¬ (a = 171 ∧ j = 30) → σ'.1 a j = σ.1 a j) ∧ σ'.2 = σ.2
theorem bookM_read {σ σ' : aw_S} {m : mS} {r mi x : Int} (h : bookM σ m) (w : wfBook m) (h0 : σ'.1 171 30 = m 0 6 + 1)
    (he : ∀ (a : Nat) (j : Int), 188 ≤ a → a ≤ 190 → j ≠ m 0 6 → σ'.1 a j = σ.1 a j) (he2 : ∀ j : Int, j < 6 * m 0 6 → σ'.1 191 j = σ.1 191 j)
    (h1 : σ'.1 188 (m 0 6) = r) (h2 : σ'.1 189 (m 0 6) = mi) (h3 : σ'.1 190 (m 0 6) = (dcnt x.toNat : Int))
    (h5 : ∀ k : Int, 0 ≤ k → k < (dcnt x.toNat : Int) → σ'.1 191 (6 * m 0 6 + k) = (dg x.toNat (dcnt x.toNat - 1 - k.toNat) : Int) - 1) : bookM σ' (mread m r mi x) := by
  obtain ⟨b1, b2⟩ := h
  have w1 := w.1
  refine ⟨by rw [mread_6 w1.1]; exact h0, fun i i1 i2 => ?_⟩
  rw [mread_6 w1.1] at i2
  by_cases q : i = m 0 6
  · subst q
    have r0 : rrow r mi x.toNat 0 = r := rfl
    have r1 : rrow r mi x.toNat 1 = mi := rfl
    have r2 : rrow r mi x.toNat 2 = (dcnt x.toNat : Int) := rfl
    simp only [mread_r, r0, r1, r2]
    exact ⟨h1, h2, h3, fun k k1 k2 => by rw [h5 k k1 k2, rrow_3 k1]⟩
  · have e1 : ∀ j, mread m r mi x (400 + i) j = m (400 + i) j := fun j => mread_e (by omega) (by omega)
    simp only [e1]
    rw [he 188 i (by omega) (by omega) q, he 189 i (by omega) (by omega) q, he 190 i (by omega) (by omega) q]
    obtain ⟨q1, q2, q3, q4⟩ := b2 i i1 (by omega)
    have w2 := (w.2 i i1 (by omega)).2.2.1
    exact ⟨q1, q2, q3, fun k k1 k2 => by rw [he2 _ (by omega)]; exact q4 k k1 k2⟩
theorem bookM_cong {σ σ' : aw_S} {m : mS} (h : bookM σ m) (w : wfBook m) (h0 : σ'.1 171 30 = σ.1 171 30) (he : ∀ (a : Nat) (j : Int), 188 ≤ a → a ≤ 190 → σ'.1 a j = σ.1 a j) (he2 : ∀ j : Int, j < 6 * m 0 6 → σ'.1 191 j = σ.1 191 j) : bookM σ' m := by
  obtain ⟨b1, b2⟩ := h
  refine ⟨by rw [h0]; exact b1, fun i i1 i2 => ?_⟩
  rw [he 188 i (by omega) (by omega), he 189 i (by omega) (by omega), he 190 i (by omega) (by omega)]
  obtain ⟨q1, q2, q3, q4⟩ := b2 i i1 i2
  have w2 := (w.2 i i1 i2).2.2.1
  exact ⟨q1, q2, q3, fun k k1 k2 => by rw [he2 _ (by omega)]; exact q4 k k1 k2⟩
/-! first place where P holds below n; NONE if there's none -/
def isFst (P : Int → Prop) (n v : Int) : Prop := (v = -1 ∧ ∀ i : Int, 0 ≤ i → i < n → ¬ P i) ∨ (0 ≤ v ∧ v < n ∧ P v ∧ ∀ i : Int, 0 ≤ i → i < v → ¬ P i)
theorem isFst_u {P : Int → Prop} {n v w : Int} (h1 : isFst P n v) (h2 : isFst P n w) : v = w := by
  rcases h1 with ⟨a1, a2⟩ | ⟨a1, a2, a3, a4⟩ <;> rcases h2 with ⟨b1, b2⟩ | ⟨b1, b2, b3, b4⟩
  · omega
  · exact absurd b3 (a2 w b1 b2)
  · exact absurd a3 (b2 v a1 a2)
  · rcases Int.lt_trichotomy v w with q | q | q
    · exact absurd a3 (b4 v a1 q)
    · exact q
    · exact absurd b3 (a4 w b1 q)
theorem isFst_b {P : Int → Prop} {n v : Int} (h : isFst P n v) : v = -1 ∨ (0 ≤ v ∧ v < n) := by
  rcases h with ⟨a1, a2⟩ | ⟨a1, a2, a3, a4⟩
  · exact Or.inl a1
  · exact Or.inr ⟨a1, a2⟩
/-- a reading against an earlier one: a cab in both, and less time between than the way takes -/
def shrd (m : mS) (i j : Int) : Prop := ∃ k l : Int, (0 ≤ k ∧ k < m (400 + i) 2) ∧ (0 ≤ l ∧ l < m (400 + j) 2) ∧ m (400 + i) (3 + k) = m (400 + j) (3 + l)
def agn (m : mS) (j i : Int) : Prop := m (400 + j) 1 - m (400 + i) 1 < aw_ap (m 1 (m (400 + i) 0)) (m 1 (m (400 + j) 0)) ∧ shrd m i j
def iscant (m : mS) (j v : Int) : Prop := (¬ (0 ≤ j ∧ j < m 0 6) ∧ v = -1) ∨ ((0 ≤ j ∧ j < m 0 6) ∧ isFst (agn m j) j v)
theorem iscant_u {m : mS} {j v w : Int} (h1 : iscant m j v) (h2 : iscant m j w) : v = w := by
  rcases h1 with ⟨a1, a2⟩ | ⟨a1, a2⟩ <;> rcases h2 with ⟨b1, b2⟩ | ⟨b1, b2⟩
  · omega
  · exact absurd b1 a1
  · exact absurd a1 b1
  · exact isFst_u a2 b2
theorem shrd_bits {A B : Nat} {m : mS} {i j : Int} (hA : ∀ c : Nat, A.testBit c = true ↔ ∃ k : Int, 0 ≤ k ∧ k < m (400 + i) 2 ∧ m (400 + i) (3 + k) = (c : Int)) (hB : ∀ c : Nat, B.testBit c = true ↔ ∃ k : Int, 0 ≤ k ∧ k < m (400 + j) 2 ∧ m (400 + j) (3 + k) = (c : Int))
    (h0 : ∀ k : Int, 0 ≤ k → k < m (400 + i) 2 → 0 ≤ m (400 + i) (3 + k)) : A &&& B ≠ 0 ↔ shrd m i j := by
  constructor
  · intro h
    obtain ⟨c, hc⟩ := bit_of_nz h
    rw [Nat.testBit_and, Bool.and_eq_true] at hc
    obtain ⟨k, k1, k2, k3⟩ := (hA c).mp hc.1
    obtain ⟨l, l1, l2, l3⟩ := (hB c).mp hc.2
    exact ⟨k, l, ⟨k1, k2⟩, ⟨l1, l2⟩, k3.trans l3.symm⟩
  · rintro ⟨k, l, ⟨k1, k2⟩, ⟨l1, l2⟩, e⟩
    have h := h0 k k1 k2
    refine nz_of_bit (k := (m (400 + i) (3 + k)).toNat) ?_
    rw [Nat.testBit_and, Bool.and_eq_true]
    exact ⟨(hA _).mpr ⟨k, k1, k2, by omega⟩, (hB _).mpr ⟨l, l1, l2, by omega⟩⟩
