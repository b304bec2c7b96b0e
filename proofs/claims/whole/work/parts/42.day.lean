/-! ===== the day, on both sides; b: 0 today, 1000 (k + 1) image k ===== -/
def dayC (σ : aw_S) (d : Nat) (b : Int) (m : mS) : Prop :=
  σ.1 d 0 = m b 3 ∧ σ.1 d 1 = m b 4 ∧ σ.1 d 6 = m b 5 ∧
  (∀ r : Int, 0 ≤ r → r < 6 → σ.1 (d + 9) r = m (b + 10) r ∧ σ.1 (d + 10) r = m (b + 11) r) ∧
  (∀ c f : Int, 0 ≤ c → c < m b 4 → 0 ≤ f → f < 11 → σ.1 (d + 12 + c.toNat) f = m (b + 100 + c) f) ∧
  (∀ r k : Int, 0 ≤ r → r < 6 → 0 ≤ k → k < m (b + 10) r → σ.1 (d + 3 + r.toNat) k = m (b + 200 + r) k) ∧
  (∀ i w : Int, 0 ≤ i → i < m b 5 → 0 ≤ w → w < 5 → σ.1 (d + 11) (5 * i + w) = m (b + 300 + i) w)
/-- a cab's row in the reference (fields from the place q on) against the model's -/
def cabM (g : Int → Int) (q : Int) (x : Int → Int) : Prop :=
  g q = x 1 ∧ g (q + 9) = x 0 ∧ (x 1 = 0 ∨ x 1 = 3 → g (q + 1) = x 2) ∧ (x 1 = 1 ∨ x 1 = 2 → g (q + 2) = x 3) ∧ (x 1 = 1 ∨ x 1 = 3 → g (q + 3) = x 4) ∧
  g (q + 4) = x 5 ∧ g (q + 5) = x 6 ∧ g (q + 6) = x 7 ∧ g (q + 7) = x 8 ∧ g (q + 8) = x 9 ∧ g (q + 10) = x 10
def dayG (mn nc np : Int) (cab stand stands people pass : Int → Int) (b : Int) (m : mS) : Prop :=
  mn = m b 3 ∧ nc = m b 4 ∧ np = m b 5 ∧ (∀ r : Int, 0 ≤ r → r < 6 → stands r = m (b + 10) r ∧ people r = m (b + 11) r) ∧
  (∀ c : Int, 0 ≤ c → c < m b 4 → cabM cab (11 * c) (m (b + 100 + c))) ∧
  (∀ r k : Int, 0 ≤ r → r < 6 → 0 ≤ k → k < m (b + 10) r → stand (18 * r + k) = m (b + 200 + r) k) ∧
  (∀ i w : Int, 0 ≤ i → i < m b 5 → 0 ≤ w → w < 5 → pass (5 * i + w) = m (b + 300 + i) w)
def dayM (σ : aw_S) (m : mS) : Prop := dayG (σ.1 171 21) (σ.1 171 22) (σ.1 171 26) (σ.1 182) (σ.1 183) (σ.1 184) (σ.1 186) (σ.1 185) 0 m
/-- what holds of a cab; N: calls so far -/
def wfCab (m : mS) (b N : Int) (c : Int) (x : Int → Int) : Prop :=
  (0 ≤ x 0 ∧ x 0 ≤ 3) ∧ (0 ≤ x 1 ∧ x 1 ≤ 3) ∧ (0 ≤ x 2 ∧ x 2 ≤ 99) ∧
  ((x 1 = 1 ∨ x 1 = 2) → 0 ≤ x 3 ∧ x 3 < m 0 0) ∧ ((x 1 = 0 ∨ x 1 = 3) → x 3 = -1) ∧
  ((x 1 = 1 ∨ x 1 = 3) → 0 ≤ x 4 ∧ x 4 ≤ m b 3 + 240) ∧ ((x 1 = 0 ∨ x 1 = 2) → x 4 = -1) ∧
  (x 1 = 2 → x 2 = m 1 (x 3)) ∧
  (-1 ≤ x 5 ∧ x 5 < 6) ∧ (-1 ≤ x 6 ∧ x 6 ≤ 300 * N + 240) ∧ (0 ≤ x 7 ∧ x 7 ≤ 300000 * N) ∧ (0 ≤ x 8 ∧ x 8 ≤ 300 * N) ∧
  (x 9 = -1 ∨ (x 1 = 2 ∧ 0 ≤ x 9 ∧ x 9 < m 0 0 ∧ x 9 ≠ x 3)) ∧ (x 10 = 0 ∨ x 10 = 1)
def wfDay (m : mS) (b N : Int) : Prop :=
  (0 ≤ m b 3 ∧ m b 3 ≤ 300 * N) ∧ (0 ≤ m b 4 ∧ m b 4 ≤ 16) ∧ (0 ≤ m b 5 ∧ m b 5 ≤ 40) ∧
  (∀ r : Int, 0 ≤ r → r < 6 → (0 ≤ m (b + 10) r ∧ m (b + 10) r ≤ 16) ∧ (0 ≤ m (b + 11) r ∧ m (b + 11) r ≤ 20) ∧ (m 0 0 ≤ r → m (b + 10) r = 0) ∧ (r < m 0 0 → m (b + 10) r ≤ m 2 r + m 3 r)) ∧
  (∀ c : Int, 0 ≤ c → c < m b 4 → wfCab m b N c (m (b + 100 + c))) ∧
  (∀ r k : Int, 0 ≤ r → r < 6 → 0 ≤ k → k < m (b + 10) r → (0 ≤ m (b + 200 + r) k ∧ m (b + 200 + r) k < m b 4) ∧ m (b + 100 + m (b + 200 + r) k) 1 = 2 ∧ m (b + 100 + m (b + 200 + r) k) 3 = r) ∧
  (∀ r k j : Int, 0 ≤ r → r < 6 → 0 ≤ k → k < m (b + 10) r → 0 ≤ j → j < m (b + 10) r → m (b + 200 + r) k = m (b + 200 + r) j → k = j) ∧
  (∀ c : Int, 0 ≤ c → c < m b 4 → m (b + 100 + c) 1 = 2 → aw_bx (∃ k : Int, 0 ≤ k ∧ k < m (b + 10) (m (b + 100 + c) 3) ∧ m (b + 200 + m (b + 100 + c) 3) k = c))
