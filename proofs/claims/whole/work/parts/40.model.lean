/-! ===== the model's state: rows of whole numbers =====
 0: ranks, lets, coin, minute, cabs, passes, readings, size of the text; 1 place, 2 line, 3 feeder of a rank; 4 rank, 5 zone, 6 from, 7 to of a let; 8 fare; 9 short; 10 standing, 11 people of a rank; 12 the text's bytes; 13 q, 14 minutes, 15 to of a chance; 16 images taken;
 100 + c: a cab (zone, state, place, rank, due, ticket's rank, its end, gain, waited, wished, by ticket); 200 + r: a row; 300 + i: a pass; 400 + i: a reading (rank, minute, many, 3 + k: a cab); 1000 (k + 1) + x: the day's row x in image k -/
abbrev mS : Type := Int → Int → Int
def up (m : mS) (a i v : Int) : mS := fun b j => if b = a ∧ j = i then v else m b j
theorem up_eq {m : mS} {a i v : Int} : up m a i v a i = v := if_pos ⟨rfl, rfl⟩
theorem up_ne {m : mS} {a i v b j : Int} (h : ¬ (b = a ∧ j = i)) : up m a i v b j = m b j := if_neg h
theorem up_def {m : mS} {a i v b j : Int} : up m a i v b j = if b = a ∧ j = i then v else m b j := rfl
/-- the city, as the class has it at name a -/
def cityC (σ : aw_S) (a : Nat) (m : mS) : Prop :=
  σ.1 a 0 = m 0 0 ∧ (∀ r : Int, 0 ≤ r → r < m 0 0 → σ.1 (a + 1) r = m 1 r ∧ σ.1 (a + 2) r = m 2 r ∧ σ.1 (a + 3) r = m 3 r) ∧
  σ.1 a 4 = m 0 1 ∧ (∀ k : Int, 0 ≤ k → k < m 0 1 → σ.1 (a + 5) k = m 5 k ∧ σ.1 (a + 6) k = m 6 k ∧ σ.1 (a + 7) k = m 7 k) ∧
  (∀ r : Int, 0 ≤ r → r < m 0 0 → (0 ≤ σ.1 (a + 4) r ∧ σ.1 (a + 4) r ≤ 255) ∧ ∀ k : Nat, (σ.1 (a + 4) r).toNat.testBit k = true ↔ ((k : Int) < m 0 1 ∧ m 4 (k : Int) = r)) ∧
  (0 < m 0 0 → σ.1 a 9 = m 8 0 ∧ σ.1 a 10 = m 8 1 ∧ σ.1 a 11 = m 8 2 ∧ σ.1 a 12 = m 8 3 ∧ σ.1 a 15 = m 0 2) ∧ σ.1 a 13 = m 9 0 ∧ σ.1 a 14 = m 9 1
/-- the city, as the reference has it -/
def cityM (σ : aw_S) (m : mS) : Prop :=
  σ.1 171 14 = m 0 0 ∧ (∀ r : Int, 0 ≤ r → r < m 0 0 → σ.1 178 (3 * r) = m 1 r ∧ σ.1 178 (3 * r + 1) = m 2 r ∧ σ.1 178 (3 * r + 2) = m 3 r) ∧
  σ.1 171 16 = m 0 1 ∧ (∀ k : Int, 0 ≤ k → k < m 0 1 → σ.1 179 (4 * k) = m 4 k ∧ σ.1 179 (4 * k + 1) = m 5 k ∧ σ.1 179 (4 * k + 2) = m 6 k ∧ σ.1 179 (4 * k + 3) = m 7 k) ∧
  (0 < m 0 0 → σ.1 180 0 = m 8 0 ∧ σ.1 180 1 = m 8 1 ∧ σ.1 180 2 = m 8 2 ∧ σ.1 180 3 = m 8 3 ∧ σ.1 171 20 = m 0 2) ∧ σ.1 181 0 = m 9 0 ∧ σ.1 181 1 = m 9 1
def wfCity (m : mS) : Prop :=
  (0 ≤ m 0 0 ∧ m 0 0 ≤ 6) ∧ (∀ r : Int, 0 ≤ r → r < m 0 0 → (0 ≤ m 1 r ∧ m 1 r ≤ 99) ∧ (1 ≤ m 2 r ∧ m 2 r ≤ 9) ∧ (0 ≤ m 3 r ∧ m 3 r ≤ 9)) ∧
  (∀ r s : Int, 0 ≤ r → r < m 0 0 → 0 ≤ s → s < m 0 0 → m 1 r = m 1 s → r = s) ∧
  (0 ≤ m 0 1 ∧ m 0 1 ≤ 8) ∧ (∀ k : Int, 0 ≤ k → k < m 0 1 → (0 ≤ m 4 k ∧ m 4 k < m 0 0) ∧ (0 ≤ m 5 k ∧ m 5 k ≤ 3) ∧ (0 ≤ m 6 k ∧ m 6 k ≤ 23) ∧ (0 ≤ m 7 k ∧ m 7 k ≤ 23)) ∧
  (0 < m 0 0 → (0 ≤ m 8 0 ∧ m 8 0 ≤ 999) ∧ (0 ≤ m 8 1 ∧ m 8 1 ≤ 999) ∧ (1 ≤ m 8 2 ∧ m 8 2 ≤ 99) ∧ (0 ≤ m 8 3 ∧ m 8 3 ≤ 99) ∧ (1 ≤ m 0 2 ∧ m 0 2 ≤ 50)) ∧ (0 ≤ m 9 0 ∧ m 9 0 ≤ 99) ∧ (0 ≤ m 9 1 ∧ m 9 1 ≤ 240)
/-- who may stand: the LETS of the rank that aren't lifted -/
def mayst (m : mS) (r z h : Int) (L : Nat) : Prop :=
  (∃ k : Int, 0 ≤ k ∧ k < m 0 1 ∧ m 4 k = r ∧ L.testBit k.toNat = false ∧ (m 5 k = z ∧ m 6 k ≤ h ∧ h ≤ m 7 k)) ∨ ¬ ∃ k : Int, 0 ≤ k ∧ k < m 0 1 ∧ m 4 k = r ∧ L.testBit k.toNat = false
def mprice (m : mS) (mi v : Int) : Int := aw_price (m 8 0) (m 8 1) (m 8 2) (m 8 3) (m 0 2) mi v
theorem mayst_of_ls {σ : aw_S} {a : Nat} {m : mS} {r z h : Int} {L S : Nat} (hC : cityC σ a m) (hr : 0 ≤ r ∧ r < m 0 0) (hS : ∀ k : Nat, S.testBit k = true ↔ ((k : Int) < σ.1 a 4 ∧ aw_hit σ a (k : Int) z h)) :
    aw_ls (σ.1 (a + 4) r).toNat L S ↔ mayst m r z h L := by
  obtain ⟨c1, c2, c3, c4, c5, c6, c7⟩ := hC
  have hb := (c5 r hr.1 hr.2).2
  unfold aw_ls mayst
  have e1 : (∀ k, ¬ ((σ.1 (a + 4) r).toNat.testBit k = true ∧ L.testBit k = false)) ↔ ¬ ∃ k : Int, 0 ≤ k ∧ k < m 0 1 ∧ m 4 k = r ∧ L.testBit k.toNat = false := by
    constructor
    · rintro h1 ⟨k, k1, k2, k3, k4⟩
      have e : ((k.toNat : Nat) : Int) = k := Int.toNat_of_nonneg k1
      exact h1 k.toNat ⟨(hb k.toNat).mpr (by rw [e]; exact ⟨k2, k3⟩), k4⟩
    · rintro h1 k ⟨k1, k2⟩
      obtain ⟨k3, k4⟩ := (hb k).mp k1
      exact h1 ⟨(k : Int), Int.natCast_nonneg k, k3, k4, by simpa using k2⟩
  have e2 : (∃ k, ((σ.1 (a + 4) r).toNat.testBit k = true ∧ L.testBit k = false) ∧ S.testBit k = true) ↔ ∃ k : Int, 0 ≤ k ∧ k < m 0 1 ∧ m 4 k = r ∧ L.testBit k.toNat = false ∧ (m 5 k = z ∧ m 6 k ≤ h ∧ h ≤ m 7 k) := by
    constructor
    · rintro ⟨k, ⟨k1, k2⟩, k3⟩
      obtain ⟨k4, k5⟩ := (hb k).mp k1
      obtain ⟨-, k6⟩ := (hS k).mp k3
      obtain ⟨q1, q2, q3⟩ := c4 (k : Int) (Int.natCast_nonneg k) k4
      unfold aw_hit at k6
      rw [q1, q2, q3] at k6
      exact ⟨(k : Int), Int.natCast_nonneg k, k4, k5, by simpa using k2, k6⟩
    · rintro ⟨k, k1, k2, k3, k4, k5⟩
      have e : ((k.toNat : Nat) : Int) = k := Int.toNat_of_nonneg k1
      obtain ⟨q1, q2, q3⟩ := c4 k k1 k2
      refine ⟨k.toNat, ⟨(hb k.toNat).mpr (by rw [e]; exact ⟨k2, k3⟩), k4⟩, (hS k.toNat).mpr ?_⟩
      rw [e, c3]
      unfold aw_hit
      rw [q1, q2, q3]
      exact ⟨k2, k5⟩
  rw [e1, e2]
  exact Or.comm
