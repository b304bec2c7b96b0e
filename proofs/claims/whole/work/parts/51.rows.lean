/-! ===== rows: one comes in, one leaves ===== -/
theorem pig : ∀ (M n : Nat) (f : Nat → Nat), (∀ k, k < n → f k < M) → (∀ i j, i < n → j < n → f i = f j → i = j) → n ≤ M
  | 0, n, f, h1, _ => by
    cases n with
    | zero => exact Nat.le_refl 0
    | succ n => exact absurd (h1 0 (by omega)) (by omega)
  | M + 1, n, f, h1, h2 => by
    by_cases h : ∃ k, k < n ∧ f k = M
    · obtain ⟨k0, hk0, hf⟩ := h
      have h3 := pig M (n - 1) (fun k => if k < k0 then f k else f (k + 1)) (fun k hk => by
        show (if k < k0 then f k else f (k + 1)) < M
        split
        · next q =>
          have a1 := h1 k (by omega)
          have a2 : f k ≠ M := fun e => by have := h2 k k0 (by omega) hk0 (e.trans hf.symm); omega
          omega
        · next q =>
          have a1 := h1 (k + 1) (by omega)
          have a2 : f (k + 1) ≠ M := fun e => by have := h2 (k + 1) k0 (by omega) hk0 (e.trans hf.symm); omega
          omega) (fun i j hi hj e => by
        have e2 : (if i < k0 then f i else f (i + 1)) = (if j < k0 then f j else f (j + 1)) := e
        split at e2 <;> split at e2
        · exact h2 i j (by omega) (by omega) e2
        · have := h2 i (j + 1) (by omega) (by omega) e2; omega
        · have := h2 (i + 1) j (by omega) (by omega) e2; omega
        · have := h2 (i + 1) (j + 1) (by omega) (by omega) e2; omega)
      omega
    · have h3 := pig M n f (fun k hk => by
        have a1 := h1 k hk
        have a2 : f k ≠ M := fun e => h ⟨k, hk, e⟩
        omega) h2
      omega
/-- distinct numbers below M, none of them c: fewer than M -/
theorem pig_c {s M c : Int} {f : Int → Int} (hM : 0 ≤ c ∧ c < M) (h0 : 0 ≤ s) (h1 : ∀ k : Int, 0 ≤ k → k < s → (0 ≤ f k ∧ f k < M) ∧ f k ≠ c) (h2 : ∀ k j : Int, 0 ≤ k → k < s → 0 ≤ j → j < s → f k = f j → k = j) : s < M := by
  have h := pig (M.toNat - 1) s.toNat (fun k => if (f (k : Int)).toNat < c.toNat then (f (k : Int)).toNat else (f (k : Int)).toNat - 1) (fun k hk => by
    have a := h1 (k : Int) (by omega) (by omega)
    show (if (f (k : Int)).toNat < c.toNat then (f (k : Int)).toNat else (f (k : Int)).toNat - 1) < M.toNat - 1
    obtain ⟨⟨a1, a2⟩, a3⟩ := a
    split <;> omega) (fun i j hi hj e => by
    have a := h1 (i : Int) (by omega) (by omega)
    have b := h1 (j : Int) (by omega) (by omega)
    have e2 : (if (f (i : Int)).toNat < c.toNat then (f (i : Int)).toNat else (f (i : Int)).toNat - 1) = (if (f (j : Int)).toNat < c.toNat then (f (j : Int)).toNat else (f (j : Int)).toNat - 1) := e
    have e3 : f (i : Int) = f (j : Int) := by
      split at e2 <;> split at e2 <;> omega
    have := h2 (i : Int) (j : Int) (by omega) (by omega) (by omega) (by omega) e3
    omega)
  omega
def mrow (m : mS) (r k c : Int) : mS := fun a j => if a = 200 + r then (if j < k then m a j else if j = k then c else m a (j - 1)) else if a = 10 ∧ j = r then m 10 r + 1 else m a j
def mrem (m : mS) (r k : Int) : mS := fun a j => if a = 200 + r then (if j < k then m a j else m a (j + 1)) else if a = 10 ∧ j = r then m 10 r - 1 else m a j
theorem mrow_r {m : mS} {r k c j : Int} : mrow m r k c (200 + r) j = if j < k then m (200 + r) j else if j = k then c else m (200 + r) (j - 1) := if_pos rfl
theorem mrow_s {m : mS} {r k c : Int} (h : 0 ≤ r) : mrow m r k c 10 r = m 10 r + 1 := by unfold mrow; rw [if_neg (by omega), if_pos ⟨rfl, rfl⟩]
theorem mrow_ne {m : mS} {r k c a j : Int} (h1 : a ≠ 200 + r) (h2 : ¬ (a = 10 ∧ j = r)) : mrow m r k c a j = m a j := by unfold mrow; rw [if_neg h1, if_neg h2]
theorem mrem_r {m : mS} {r k j : Int} : mrem m r k (200 + r) j = if j < k then m (200 + r) j else m (200 + r) (j + 1) := if_pos rfl
theorem mrem_s {m : mS} {r k : Int} (h : 0 ≤ r) : mrem m r k 10 r = m 10 r - 1 := by unfold mrem; rw [if_neg (by omega), if_pos ⟨rfl, rfl⟩]
theorem mrem_ne {m : mS} {r k a j : Int} (h1 : a ≠ 200 + r) (h2 : ¬ (a = 10 ∧ j = r)) : mrem m r k a j = m a j := by unfold mrem; rw [if_neg h1, if_neg h2]
/-- a row and its length, changed as a whole: model m' against m -/
def rowD (m m' : mS) (r s : Int) (g : Int → Int) : Prop := m' 10 r = s ∧ (∀ j : Int, 0 ≤ j → j < s → m' (200 + r) j = g j) ∧ ∀ a j : Int, a ≠ 200 + r → ¬ (a = 10 ∧ j = r) → m' a j = m a j
theorem rowD_ins {m : mS} {r k c : Int} (hr : 0 ≤ r) : rowD m (mrow m r k c) r (m 10 r + 1) (fun j => if j < k then m (200 + r) j else if j = k then c else m (200 + r) (j - 1)) :=
  ⟨mrow_s hr, fun j _ _ => mrow_r, fun a j h1 h2 => mrow_ne h1 h2⟩
theorem rowD_rem {m : mS} {r k : Int} (hr : 0 ≤ r) : rowD m (mrem m r k) r (m 10 r - 1) (fun j => if j < k then m (200 + r) j else m (200 + r) (j + 1)) :=
  ⟨mrem_s hr, fun j _ _ => mrem_r, fun a j h1 h2 => mrem_ne h1 h2⟩
theorem rowD_frm {m m' : mS} {r s : Int} {g : Int → Int} (hr : 0 ≤ r ∧ r < 6) (h : rowD m m' r s g) : frm m m' := fun a j h1 h2 h3 => h.2.2 a j (by omega) (by omega)
theorem dayC_row {σ σ' : aw_S} {m m' : mS} {r s : Int} {g : Int → Int} (hr : 0 ≤ r ∧ r < 6) (h16 : m 0 4 ≤ 16) (hD : rowD m m' r s g) (h : dayC σ 21 0 m) (ho : ∀ (a : Nat) (j : Int), a ≠ 21 + 3 + r.toNat → ¬ (a = 21 + 9 ∧ j = r) → σ'.1 a j = σ.1 a j) (h1 : σ'.1 (21 + 9) r = s) (h2 : ∀ j : Int, 0 ≤ j → j < s → σ'.1 (21 + 3 + r.toNat) j = g j) : dayC σ' 21 0 m' := by
  obtain ⟨d1, d2, d3, d4, d5, d6, d7⟩ := h
  obtain ⟨q1, q2, q3⟩ := hD
  have e4 : m' 0 4 = m 0 4 := q3 0 4 (by omega) (by omega)
  have e5 : m' 0 5 = m 0 5 := q3 0 5 (by omega) (by omega)
  refine ⟨?_, ?_, ?_, fun x x1 x2 => ?_, fun e f x1 x2 f1 f2 => ?_, fun x k x1 x2 k1 k2 => ?_, fun i w i1 i2 w1 w2 => ?_⟩
  · rw [q3 0 3 (by omega) (by omega), ho _ _ (by omega) (by omega)]; exact d1
  · rw [e4, ho _ _ (by omega) (by omega)]; exact d2
  · rw [e5, ho _ _ (by omega) (by omega)]; exact d3
  · rw [Int.zero_add, Int.zero_add, q3 11 x (by omega) (by omega), ho (21 + 10) _ (by omega) (by omega)]
    refine ⟨?_, (d4 x x1 x2).2⟩
    by_cases e : x = r
    · subst e; rw [h1, q1]
    · rw [q3 10 x (by omega) (by omega), ho _ _ (by omega) (by omega)]; exact (d4 x x1 x2).1
  · rw [e4] at x2
    rw [q3 _ _ (by omega) (by omega), ho _ _ (by omega) (by omega)]; exact d5 e f x1 x2 f1 f2
  · rw [Int.zero_add] at k2
    by_cases e : x = r
    · subst e
      rw [q1] at k2
      rw [Int.zero_add, h2 k k1 k2, q2 k k1 k2]
    · rw [q3 10 x (by omega) (by omega)] at k2
      rw [q3 _ _ (by omega) (by omega), ho _ _ (by omega) (by omega)]; exact d6 x k x1 x2 k1 k2
  · rw [e5] at i2
    have b5 : i < 40 ∨ 40 ≤ i := by omega
    rw [q3 _ _ (by omega) (by omega), ho _ _ (by omega) (by omega)]; exact d7 i w i1 i2 w1 w2
theorem dayM_row {σ σ' : aw_S} {m m' : mS} {r s : Int} {g : Int → Int} (hr : 0 ≤ r ∧ r < 6) (h16 : m 0 4 ≤ 16) (h18 : ∀ x : Int, 0 ≤ x → x < 6 → m 10 x ≤ 18) (hs : s ≤ 18) (hD : rowD m m' r s g) (h : dayM σ m) (ho : ∀ (a : Nat) (j : Int), ¬ (a = 183 ∧ 18 * r ≤ j ∧ j < 18 * r + 18) → ¬ (a = 184 ∧ j = r) → σ'.1 a j = σ.1 a j) (h1 : σ'.1 184 r = s) (h2 : ∀ j : Int, 0 ≤ j → j < s → σ'.1 183 (18 * r + j) = g j) : dayM σ' m' := by
  obtain ⟨d1, d2, d3, d4, d5, d6, d7⟩ := h
  obtain ⟨q1, q2, q3⟩ := hD
  have e4 : m' 0 4 = m 0 4 := q3 0 4 (by omega) (by omega)
  have e5 : m' 0 5 = m 0 5 := q3 0 5 (by omega) (by omega)
  have e182 : σ'.1 182 = σ.1 182 := funext (fun j => ho _ _ (by omega) (by omega))
  refine ⟨?_, ?_, ?_, fun x x1 x2 => ?_, fun e x1 x2 => ?_, fun x k x1 x2 k1 k2 => ?_, fun i w i1 i2 w1 w2 => ?_⟩
  · rw [q3 0 3 (by omega) (by omega), ho _ _ (by omega) (by omega)]; exact d1
  · rw [e4, ho _ _ (by omega) (by omega)]; exact d2
  · rw [e5, ho _ _ (by omega) (by omega)]; exact d3
  · rw [Int.zero_add, Int.zero_add, q3 11 x (by omega) (by omega), ho 186 _ (by omega) (by omega)]
    refine ⟨?_, (d4 x x1 x2).2⟩
    by_cases e : x = r
    · subst e; rw [h1, q1]
    · rw [q3 10 x (by omega) (by omega), ho _ _ (by omega) (by omega)]; exact (d4 x x1 x2).1
  · rw [e4] at x2
    rw [e182, show m' (0 + 100 + e) = m (0 + 100 + e) from funext (fun j => q3 _ _ (by omega) (by omega))]
    exact d5 e x1 x2
  · rw [Int.zero_add] at k2
    by_cases e : x = r
    · subst e
      rw [q1] at k2
      rw [Int.zero_add, h2 k k1 k2, q2 k k1 k2]
    · rw [q3 10 x (by omega) (by omega)] at k2
      have := h18 x x1 x2
      rw [q3 _ _ (by omega) (by omega), ho _ _ (by omega) (by omega)]; exact d6 x k x1 x2 k1 k2
  · rw [e5] at i2
    rw [q3 _ _ (by omega) (by omega), ho _ _ (by omega) (by omega)]; exact d7 i w i1 i2 w1 w2
