/-! ===== a ring turned: the places of those in it are freed, then taken in the order of the cabs ===== -/
def ffr (g : Int → Int) : Nat → Int
  | 0 => -1
  | n + 1 => if ffr g n = -1 then (if g (n : Int) = -1 then (n : Int) else -1) else ffr g n
theorem ffr_f (g : Int → Int) : ∀ n : Nat, isFst (fun k => g k = -1) (n : Int) (ffr g n)
  | 0 => Or.inl ⟨rfl, fun i h1 h2 => by omega⟩
  | n + 1 => by
    have ih := ffr_f g n
    show isFst _ _ (if ffr g n = -1 then (if g (n : Int) = -1 then (n : Int) else -1) else ffr g n)
    rcases ih with ⟨a1, a2⟩ | ⟨a1, a2, a3, a4⟩
    · rw [if_pos a1]
      by_cases q : g (n : Int) = -1
      · rw [if_pos q]
        exact Or.inr ⟨by omega, by omega, q, fun i h1 h2 => a2 i h1 h2⟩
      · rw [if_neg q]
        refine Or.inl ⟨rfl, fun i h1 h2 => ?_⟩
        by_cases z : i = (n : Int)
        · subst z; exact q
        · exact a2 i h1 (by omega)
    · rw [if_neg (by omega)]
      exact Or.inr ⟨a1, by omega, a3, a4⟩
/-- how many are free -/
def cnF (g : Int → Int) : Nat → Int
  | 0 => 0
  | n + 1 => cnF g n + (if g (n : Int) = -1 then 1 else 0)
theorem cnF_pos {g : Int → Int} : ∀ n : Nat, 0 < cnF g n → ∃ k : Int, 0 ≤ k ∧ k < (n : Int) ∧ g k = -1
  | 0, h => by have : cnF g 0 = 0 := rfl; omega
  | n + 1, h => by
    have e : cnF g (n + 1) = cnF g n + (if g (n : Int) = -1 then 1 else 0) := rfl
    by_cases q : g (n : Int) = -1
    · exact ⟨n, by omega, by omega, q⟩
    · rw [e, if_neg q] at h
      obtain ⟨k, k1, k2, k3⟩ := cnF_pos (g := g) n (by omega)
      exact ⟨k, k1, by omega, k3⟩
theorem cnF_nn (g : Int → Int) : ∀ n : Nat, 0 ≤ cnF g n
  | 0 => Int.le_refl _
  | n + 1 => by
    have := cnF_nn g n
    show 0 ≤ cnF g n + (if g (n : Int) = -1 then 1 else 0)
    split <;> omega
theorem cnF_0 {g : Int → Int} : ∀ n : Nat, cnF g n = 0 → ∀ k : Int, 0 ≤ k → k < (n : Int) → g k ≠ -1
  | 0, _, k, k1, k2 => by omega
  | n + 1, h, k, k1, k2 => by
    have e : cnF g (n + 1) = cnF g n + (if g (n : Int) = -1 then 1 else 0) := rfl
    have hn := cnF_nn g n
    rw [e] at h
    by_cases q : g (n : Int) = -1
    · rw [if_pos q] at h; omega
    · rw [if_neg q] at h
      by_cases z : k = (n : Int)
      · rw [z]; exact q
      · exact cnF_0 n (by omega) k k1 (by omega)
theorem cnF_up {g : Int → Int} {k v : Int} (hk : g k = -1) (hv : v ≠ -1) : ∀ n : Nat, cnF (uf g k v) n = cnF g n - (if 0 ≤ k ∧ k < (n : Int) then 1 else 0)
  | 0 => by rw [if_neg (by omega)]; rfl
  | n + 1 => by
    have ih := cnF_up hk hv n
    show cnF (uf g k v) n + (if uf g k v (n : Int) = -1 then 1 else 0) = cnF g n + (if g (n : Int) = -1 then 1 else 0) - _
    rw [ih]
    by_cases q : (n : Int) = k
    · rw [q, uf_eq, if_neg hv, if_pos hk, if_neg (show ¬ (0 ≤ k ∧ k < k) by omega), if_pos (show 0 ≤ k ∧ k < ((n + 1 : Nat) : Int) by omega)]; omega
    · rw [uf_ne q]
      by_cases z : 0 ≤ k ∧ k < (n : Int)
      · rw [if_pos z, if_pos (show 0 ≤ k ∧ k < ((n + 1 : Nat) : Int) by omega)]; omega
      · rw [if_neg z, if_neg (show ¬ (0 ≤ k ∧ k < ((n + 1 : Nat) : Int)) by omega)]; omega
theorem cnF_cg {g g' : Int → Int} : ∀ n : Nat, (∀ k : Int, 0 ≤ k → k < (n : Int) → g k = g' k) → cnF g n = cnF g' n
  | 0, _ => rfl
  | n + 1, h => by
    show cnF g n + (if g (n : Int) = -1 then 1 else 0) = cnF g' n + (if g' (n : Int) = -1 then 1 else 0)
    rw [cnF_cg n (fun k k1 k2 => h k k1 (by omega)), h (n : Int) (by omega) (by omega)]
/-- a sum along a row without repeats is the sum over those in it -/
def smR (row h : Int → Int) : Nat → Int
  | 0 => 0
  | k + 1 => smR row h k + h (row (k : Int))
def smC (p : Int → Bool) (h : Int → Int) : Nat → Int
  | 0 => 0
  | c + 1 => smC p h c + (if p (c : Int) = true then h (c : Int) else 0)
theorem smC_cg {p p' : Int → Bool} {h : Int → Int} : ∀ n : Nat, (∀ c : Int, 0 ≤ c → c < (n : Int) → p c = p' c) → smC p h n = smC p' h n
  | 0, _ => rfl
  | n + 1, e => by
    show smC p h n + _ = smC p' h n + _
    rw [smC_cg n (fun c c1 c2 => e c c1 (by omega)), e (n : Int) (by omega) (by omega)]
theorem smC_add {p : Int → Bool} {h : Int → Int} {x : Int} (hx : p x = false) : ∀ n : Nat, smC (fun c => p c || decide (c = x)) h n = smC p h n + (if 0 ≤ x ∧ x < (n : Int) then h x else 0)
  | 0 => by rw [if_neg (by omega)]; rfl
  | n + 1 => by
    have ih := smC_add hx (h := h) n
    show smC (fun c => p c || decide (c = x)) h n + (if (p (n : Int) || decide ((n : Int) = x)) = true then h (n : Int) else 0) = smC p h n + (if p (n : Int) = true then h (n : Int) else 0) + _
    rw [ih]
    by_cases q : (n : Int) = x
    · rw [q, hx, if_neg (show ¬ (0 ≤ x ∧ x < x) by omega), if_pos (show 0 ≤ x ∧ x < ((n + 1 : Nat) : Int) by omega)]
      simp
    · rw [show decide ((n : Int) = x) = false by simp [q], Bool.or_false]
      by_cases z : 0 ≤ x ∧ x < (n : Int)
      · rw [if_pos z, if_pos (show 0 ≤ x ∧ x < ((n + 1 : Nat) : Int) by omega)]; omega
      · rw [if_neg z, if_neg (show ¬ (0 ≤ x ∧ x < ((n + 1 : Nat) : Int)) by omega)]; omega
def imR (row : Int → Int) : Nat → Int → Bool
  | 0 => fun _ => false
  | k + 1 => fun c => imR row k c || decide (c = row (k : Int))
theorem imR_t (row : Int → Int) (c : Int) : ∀ k : Nat, imR row k c = true ↔ ∃ j : Int, 0 ≤ j ∧ j < (k : Int) ∧ row j = c
  | 0 => by
    show false = true ↔ _
    exact ⟨fun h => absurd h (by decide), fun ⟨j, h1, h2, _⟩ => by omega⟩
  | k + 1 => by
    show (imR row k c || decide (c = row (k : Int))) = true ↔ _
    rw [Bool.or_eq_true, imR_t row c k, decide_eq_true_eq]
    constructor
    · rintro (⟨j, h1, h2, h3⟩ | h)
      · exact ⟨j, h1, by omega, h3⟩
      · exact ⟨k, by omega, by omega, h.symm⟩
    · rintro ⟨j, h1, h2, h3⟩
      by_cases q : j = (k : Int)
      · subst q; exact Or.inr h3.symm
      · exact Or.inl ⟨j, h1, by omega, h3⟩
theorem smR_C {row h : Int → Int} {n : Nat} : ∀ k : Nat, (∀ j : Int, 0 ≤ j → j < (k : Int) → 0 ≤ row j ∧ row j < (n : Int)) → (∀ i j : Int, 0 ≤ i → i < (k : Int) → 0 ≤ j → j < (k : Int) → row i = row j → i = j) → smR row h k = smC (imR row k) h n
  | 0, _, _ => by
    have : ∀ n : Nat, smC (imR row 0) h n = 0 := by
      intro n
      induction n with
      | zero => rfl
      | succ n ih => show smC _ h n + (if false = true then _ else 0) = 0; rw [ih]; rfl
    rw [this]; rfl
  | k + 1, h1, h2 => by
    have ih := smR_C (h := h) (n := n) k (fun j j1 j2 => h1 j j1 (by omega)) (fun i j i1 i2 j1 j2 e => h2 i j i1 (by omega) j1 (by omega) e)
    have hx : imR row k (row (k : Int)) = false := Bool.eq_false_iff.mpr (fun z => by
      obtain ⟨j, j1, j2, j3⟩ := (imR_t row _ k).mp z
      have := h2 j (k : Int) j1 (by omega) (by omega) (by omega) j3
      omega)
    show smR row h k + h (row (k : Int)) = smC (fun c => imR row k c || decide (c = row (k : Int))) h n
    have := h1 (k : Int) (by omega) (by omega)
    rw [smC_add hx, ih, if_pos (by omega)]
theorem smC_sm {p : Int → Bool} {S : Nat} {g : Nat → Int} : ∀ n : Nat, (∀ c : Nat, c < n → (if p (c : Int) = true then xb S c else 0) = (if S.testBit c = true then g c else 0)) → smC p (fun c => xb S c.toNat) n = sm S g n
  | 0, _ => rfl
  | n + 1, h => by
    show smC p _ n + (if p (n : Int) = true then xb S ((n : Int)).toNat else 0) = sm S g n + (if S.testBit n = true then g n else 0)
    rw [smC_sm n (fun c hc => h c (by omega)), Int.toNat_natCast, h n (by omega)]
/-! the model's steps -/
def clr (m : mS) (S : Nat) (c : Int) : mS := fun a j => if (200 ≤ a ∧ a < 206) ∧ (0 ≤ j ∧ j < m 10 (a - 200)) ∧ m a j < c ∧ S.testBit (m a j).toNat = true then -1 else m a j
def xtn (m : mS) (c r : Int) : Int → Int := fun f => if f = 3 then r else if f = 2 then m 1 r else if f = 9 then -1 else if f = 10 then 0 else m (100 + c) f
def tk (m : mS) (c : Int) : mS := upr (up m (200 + m (100 + c) 9) (ffr (m (200 + m (100 + c) 9)) (m 10 (m (100 + c) 9)).toNat) c) (100 + c) (xtn m c (m (100 + c) 9))
def tks (m : mS) (S : Nat) : Nat → mS
  | 0 => clr m S (m 0 4)
  | c + 1 => if S.testBit c = true then tk (tks m S c) (c : Int) else tks m S c
def inW (m : mS) (r : Int) : Nat → Int := fun c => if wsm m c = r then 1 else 0
def inR (m : mS) (r : Int) : Nat → Int := fun c => if rkm m c = r then 1 else 0
/-- what holds while places are taken -/
def Q (m : mS) (S : Nat) (c : Nat) (m' : mS) : Prop :=
  (∀ a j : Int, ¬ (200 ≤ a ∧ a < 206) → ¬ (∃ d : Nat, a = 100 + (d : Int) ∧ d < c ∧ S.testBit d = true) → m' a j = m a j) ∧
  (∀ d : Nat, d < c → S.testBit d = true → ∀ f : Int, m' (100 + (d : Int)) f = xtn m (d : Int) (wsm m d) f) ∧
  (∀ r k : Int, 0 ≤ r → r < 6 → 0 ≤ k → k < m 10 r → m' (200 + r) k = -1 ∨ ((0 ≤ m' (200 + r) k ∧ m' (200 + r) k < m 0 4) ∧ m' (100 + m' (200 + r) k) 1 = 2 ∧ m' (100 + m' (200 + r) k) 3 = r ∧ (S.testBit (m' (200 + r) k).toNat = true → m' (200 + r) k < (c : Int)))) ∧
  (∀ r k j : Int, 0 ≤ r → r < 6 → 0 ≤ k → k < m 10 r → 0 ≤ j → j < m 10 r → m' (200 + r) k ≠ -1 → m' (200 + r) k = m' (200 + r) j → k = j) ∧
  (∀ e : Int, 0 ≤ e → e < m 0 4 → m (100 + e) 1 = 2 → (S.testBit e.toNat = false ∨ e < (c : Int)) → ∃ k : Int, 0 ≤ k ∧ k < m 10 (m' (100 + e) 3) ∧ m' (200 + m' (100 + e) 3) k = e) ∧
  (∀ r : Int, 0 ≤ r → r < 6 → cnF (m' (200 + r)) (m 10 r).toNat + sm S (inW m r) c = sm S (inW m r) (m 0 4).toNat)
theorem sm_bal (m : mS) (S : Nat) (r : Int) : ∀ n : Nat, bal (rkm m) (wsm m) S n r = sm S (inW m r) n - sm S (inR m r) n
  | 0 => rfl
  | n + 1 => by
    rw [bal_s, sm_bal m S r n]
    show _ = sm S (inW m r) n + (if S.testBit n = true then inW m r n else 0) - (sm S (inR m r) n + (if S.testBit n = true then inR m r n else 0))
    split
    · show _ = sm S (inW m r) n + (if wsm m n = r then 1 else 0) - (sm S (inR m r) n + (if rkm m n = r then 1 else 0))
      omega
    · omega
theorem Q_0 {m : mS} {N : Int} {S : Nat} (wC : wfCity m) (wD : wfDay m 0 N) (hp : isHp (rkm m) (wsm m) S (m 0 4).toNat) (hg : isRg (rkm m) (wsm m) S (m 0 4).toNat) : Q m S 0 (clr m S (m 0 4)) := by
  obtain ⟨v1, v2, v3, v4, v5, v6, v7, v8⟩ := wfDay_0 wD
  have hst : ∀ c : Nat, S.testBit c = true → (c : Int) < m 0 4 ∧ m (100 + (c : Int)) 1 = 2 := fun c hc => by
    have h1 := hp c hc
    have w5 := v5 (c : Int) (by omega) (by omega)
    unfold wfCab at w5
    have r9 : wsm m c = m (100 + (c : Int)) 9 := rfl
    refine ⟨by omega, ?_⟩
    rcases w5.2.2.2.2.2.2.2.2.2.2.2.2.1 with z | z
    · exact absurd (r9.trans z) h1.2
    · exact z.1
  have eo : ∀ a j : Int, ¬ (200 ≤ a ∧ a < 206) → clr m S (m 0 4) a j = m a j := fun a j h => if_neg (fun z => h z.1)
  have er : ∀ r k : Int, 0 ≤ r → r < 6 → 0 ≤ k → k < m 10 r → clr m S (m 0 4) (200 + r) k = if S.testBit (m (200 + r) k).toNat = true then -1 else m (200 + r) k := fun r k r1 r2 k1 k2 => by
    have h6 := v6 r k r1 r2 k1 k2
    unfold clr
    rw [show 200 + r - 200 = r by omega]
    by_cases q : S.testBit (m (200 + r) k).toNat = true
    · rw [if_pos q, if_pos ⟨by omega, by omega, h6.1.2, q⟩]
    · rw [if_neg q, if_neg (fun z => q z.2.2.2)]
  refine ⟨fun a j h1 _ => eo a j h1, fun d hd => by omega, fun r k r1 r2 k1 k2 => ?_, fun r k j r1 r2 k1 k2 j1 j2 hne e => ?_, fun e e1 e2 e3 e4 => ?_, fun r r1 r2 => ?_⟩
  · rw [er r k r1 r2 k1 k2]
    by_cases q : S.testBit (m (200 + r) k).toNat = true
    · rw [if_pos q]; exact Or.inl rfl
    · have h6 := v6 r k r1 r2 k1 k2
      rw [if_neg q]
      exact Or.inr ⟨h6.1, by rw [eo _ _ (by omega)]; exact h6.2.1, by rw [eo _ _ (by omega)]; exact h6.2.2, fun z => absurd z q⟩
  · rw [er r k r1 r2 k1 k2] at hne e
    rw [er r j r1 r2 j1 j2] at e
    have h6 := v6 r k r1 r2 k1 k2
    by_cases q : S.testBit (m (200 + r) k).toNat = true
    · rw [if_pos q] at hne; exact absurd rfl hne
    · rw [if_neg q] at e
      by_cases z : S.testBit (m (200 + r) j).toNat = true
      · rw [if_pos z] at e; omega
      · rw [if_neg z] at e; exact v7 r k j r1 r2 k1 k2 j1 j2 e
  · have w5 := v5 e e1 e2
    unfold wfCab at w5
    have h6 := wC.1
    have hr := w5.2.2.2.1 (Or.inr e3)
    obtain ⟨k, k1, k2, k3⟩ := aw_ub (v8 e e1 e2 e3)
    rw [eo _ _ (by omega)]
    refine ⟨k, k1, k2, ?_⟩
    rw [er _ k hr.1 (by omega) k1 k2, k3]
    rcases e4 with z | z
    · rw [z, if_neg (by decide)]
    · omega
  · have hb := hg r r1 r2
    rw [sm_bal] at hb
    have h4 := v4 r r1 r2
    have e1 : cnF (clr m S (m 0 4) (200 + r)) (m 10 r).toNat = smR (m (200 + r)) (fun c => xb S c.toNat) (m 10 r).toNat := by
      have : ∀ n : Nat, (n : Int) ≤ m 10 r → cnF (clr m S (m 0 4) (200 + r)) n = smR (m (200 + r)) (fun c => xb S c.toNat) n := by
        intro n
        induction n with
        | zero => intro _; rfl
        | succ n ih =>
          intro hn
          show cnF _ n + (if clr m S (m 0 4) (200 + r) (n : Int) = -1 then 1 else 0) = smR _ _ n + xb S (m (200 + r) (n : Int)).toNat
          rw [ih (by omega), er r (n : Int) r1 r2 (by omega) (by omega)]
          have h6 := (v6 r (n : Int) r1 r2 (by omega) (by omega)).1
          unfold xb
          by_cases q : S.testBit (m (200 + r) (n : Int)).toNat = true
          · rw [if_pos q, if_pos q, if_pos rfl]
          · rw [if_neg q, if_neg q, if_neg (by omega)]
      exact this _ (by omega)
    have e2 := smR_C (row := m (200 + r)) (h := fun c => xb S c.toNat) (n := (m 0 4).toNat) (m 10 r).toNat (fun j j1 j2 => by have := (v6 r j r1 r2 j1 (by omega)).1; omega) (fun i j i1 i2 j1 j2 e => v7 r i j r1 r2 i1 (by omega) j1 (by omega) e)
    have e3 : smC (imR (m (200 + r)) (m 10 r).toNat) (fun c => xb S c.toNat) (m 0 4).toNat = sm S (inR m r) (m 0 4).toNat := smC_sm _ (fun c hc => by
      unfold xb inR
      by_cases q : S.testBit c = true
      · rw [if_pos q, if_pos q]
        have hs := hst c q
        have w5 := v5 (c : Int) (by omega) (by omega)
        unfold wfCab at w5
        have r3 : rkm m c = m (100 + (c : Int)) 3 := rfl
        by_cases z : rkm m c = r
        · rw [if_pos z]
          obtain ⟨k, k1, k2, k3⟩ := aw_ub (v8 (c : Int) (by omega) (by omega) hs.2)
          rw [← r3, z] at k2 k3
          rw [if_pos ((imR_t _ _ _).mpr ⟨k, k1, by omega, k3⟩)]
        · rw [if_neg z, if_neg (fun w => by
            obtain ⟨k, k1, k2, k3⟩ := (imR_t _ _ _).mp w
            have := v6 r k r1 r2 k1 (by omega)
            rw [k3] at this
            exact z (r3.trans this.2.2))]
      · rw [if_neg q, if_neg q]
        split <;> rfl)
    show _ + (0 : Int) = _
    rw [e1, e2, e3]
    omega
theorem sm_mono {S : Nat} {g : Nat → Int} (h : ∀ c, 0 ≤ g c) : ∀ n k : Nat, k ≤ n → sm S g k ≤ sm S g n
  | 0, k, hk => by rw [show k = 0 by omega]; exact Int.le_refl _
  | n + 1, k, hk => by
    by_cases q : k = n + 1
    · rw [q]; exact Int.le_refl _
    · have := sm_mono (S := S) h n k (by omega)
      have hn := h n
      show sm S g k ≤ sm S g n + (if S.testBit n = true then g n else 0)
      split <;> omega
theorem inW_nn (m : mS) (r : Int) (c : Nat) : 0 ≤ inW m r c := by unfold inW; split <;> omega
theorem ok_ws {m : mS} {N : Int} {S d : Nat} (wC : wfCity m) (wD : wfDay m 0 N) (hp : isHp (rkm m) (wsm m) S (m 0 4).toNat) (h : S.testBit d = true) : 0 ≤ wsm m d ∧ wsm m d < 6 := (rk_ok wC wD (n := (m 0 4).toNat) (by have := (wfDay_0 wD).2.1; omega) d (hp d h).1 (hp d h).2).2.1
theorem Q_n {m m' : mS} {S c : Nat} (h : Q m S c m') (hc : S.testBit c = false) : Q m S (c + 1) m' := by
  obtain ⟨q0, q1, q2, q3, q4, q5⟩ := h
  have hne : ∀ d : Nat, d < c + 1 → S.testBit d = true → d < c := fun d hd hs => by
    rcases Nat.lt_or_ge d c with z | z
    · exact z
    · rw [show d = c by omega, hc] at hs; cases hs
  refine ⟨fun a j h1 h2 => q0 a j h1 (fun ⟨d, d1, d2, d3⟩ => h2 ⟨d, d1, by omega, d3⟩), fun d hd hs => q1 d (hne d hd hs) hs, fun r k r1 r2 k1 k2 => ?_, q3, fun e e1 e2 e3 e4 => q4 e e1 e2 e3 ?_, fun r r1 r2 => ?_⟩
  · rcases q2 r k r1 r2 k1 k2 with z | ⟨z1, z2, z3, z4⟩
    · exact Or.inl z
    · exact Or.inr ⟨z1, z2, z3, fun w => by have := z4 w; omega⟩
  · rcases e4 with z | z
    · exact Or.inl z
    · by_cases y : e = (c : Int)
      · left; rw [y, Int.toNat_natCast]; exact hc
      · right; omega
  · have e : sm S (inW m r) (c + 1) = sm S (inW m r) c := by
      show sm S (inW m r) c + (if S.testBit c = true then _ else 0) = _
      rw [hc, if_neg (by decide), Int.add_zero]
    rw [e]
    exact q5 r r1 r2
/-- what a step finds -/
theorem Q_at {m m' : mS} {N : Int} {S c : Nat} (wC : wfCity m) (wD : wfDay m 0 N) (hp : isHp (rkm m) (wsm m) S (m 0 4).toNat) (h : Q m S c m') (hc : S.testBit c = true) :
    ((c : Int) < m 0 4 ∧ m (100 + (c : Int)) 1 = 2) ∧ (0 ≤ wsm m c ∧ wsm m c < m 0 0) ∧ (∀ f, m' (100 + (c : Int)) f = m (100 + (c : Int)) f) ∧ (∀ r, m' 10 r = m 10 r) ∧ m' 0 4 = m 0 4 ∧ (∀ r, m' 1 r = m 1 r) ∧
    0 ≤ ffr (m' (200 + wsm m c)) (m 10 (wsm m c)).toNat ∧ ffr (m' (200 + wsm m c)) (m 10 (wsm m c)).toNat < m 10 (wsm m c) ∧ m' (200 + wsm m c) (ffr (m' (200 + wsm m c)) (m 10 (wsm m c)).toNat) = -1 := by
  obtain ⟨v1, v2, v3, v4, v5, v6, v7, v8⟩ := wfDay_0 wD
  obtain ⟨q0, q1, q2, q3, q4, q5⟩ := h
  have h1 := hp c hc
  have w5 := v5 (c : Int) (by omega) (by omega)
  unfold wfCab at w5
  have h6 := wC.1
  have r9 : wsm m c = m (100 + (c : Int)) 9 := rfl
  have hz : m (100 + (c : Int)) 1 = 2 ∧ 0 ≤ wsm m c ∧ wsm m c < m 0 0 := by
    rcases w5.2.2.2.2.2.2.2.2.2.2.2.2.1 with z | z
    · exact absurd (r9.trans z) h1.2
    · rw [r9]; exact ⟨z.1, z.2.1, z.2.2.1⟩
  have h4 := v4 (wsm m c) hz.2.1 (by omega)
  refine ⟨⟨by omega, hz.1⟩, hz.2, fun f => q0 _ _ (by omega) (fun ⟨d, d1, d2, _⟩ => by omega), fun r => q0 _ _ (by omega) (fun ⟨d, d1, d2, _⟩ => by omega), q0 _ _ (by omega) (fun ⟨d, d1, d2, _⟩ => by omega), fun r => q0 _ _ (by omega) (fun ⟨d, d1, d2, _⟩ => by omega), ?_⟩
  have hq := q5 (wsm m c) hz.2.1 (by omega)
  have hm := sm_mono (S := S) (inW_nn m (wsm m c)) (m 0 4).toNat (c + 1) (by omega)
  have e : sm S (inW m (wsm m c)) (c + 1) = sm S (inW m (wsm m c)) c + 1 := by
    show sm S (inW m (wsm m c)) c + (if S.testBit c = true then inW m (wsm m c) c else 0) = _
    rw [if_pos hc]
    unfold inW
    rw [if_pos rfl]
  obtain ⟨k, k1, k2, k3⟩ := cnF_pos (g := m' (200 + wsm m c)) (m 10 (wsm m c)).toNat (by omega)
  rcases ffr_f (m' (200 + wsm m c)) (m 10 (wsm m c)).toNat with ⟨a1, a2⟩ | ⟨a1, a2, a3, a4⟩
  · exact absurd k3 (a2 k k1 k2)
  · exact ⟨a1, by omega, a3⟩
theorem Q_s {m m' : mS} {N : Int} {S c : Nat} (wC : wfCity m) (wD : wfDay m 0 N) (hp : isHp (rkm m) (wsm m) S (m 0 4).toNat) (h : Q m S c m') (hc : S.testBit c = true) : Q m S (c + 1) (tk m' (c : Int)) := by
  obtain ⟨⟨a1, a2⟩, a3, a4, a5, a6, a7, a8, a9, a10⟩ := Q_at wC wD hp h hc
  obtain ⟨v1, v2, v3, v4, v5, v6, v7, v8⟩ := wfDay_0 wD
  obtain ⟨q0, q1, q2, q3, q4, q5⟩ := h
  have h6 := wC.1
  have r9 : m' (100 + (c : Int)) 9 = wsm m c := a4 9
  obtain ⟨r, hr⟩ : ∃ r, r = wsm m c := ⟨_, rfl⟩
  obtain ⟨k0, hk0⟩ : ∃ k, k = ffr (m' (200 + wsm m c)) (m 10 (wsm m c)).toNat := ⟨_, rfl⟩
  rw [← hk0] at a8 a9 a10
  rw [← hr] at a3 a9 a10 r9
  have T : ∀ a j : Int, tk m' (c : Int) a j = if a = 100 + (c : Int) then xtn m' (c : Int) r j else if a = 200 + r ∧ j = k0 then (c : Int) else m' a j := fun a j => by
    unfold tk upr up
    rw [r9, a5 r, hk0, ← hr]
  have Tr : ∀ x k : Int, 0 ≤ x → x < 6 → tk m' (c : Int) (200 + x) k = if x = r ∧ k = k0 then (c : Int) else m' (200 + x) k := fun x k x1 x2 => by
    rw [T, if_neg (by omega)]
    by_cases q : x = r ∧ k = k0
    · rw [if_pos q, if_pos ⟨by omega, q.2⟩]
    · rw [if_neg q, if_neg (fun z => q ⟨by omega, z.2⟩)]
  have Tc : ∀ e f : Int, 0 ≤ e → e < m 0 4 → tk m' (c : Int) (100 + e) f = if e = (c : Int) then xtn m' (c : Int) r f else m' (100 + e) f := fun e f e1 e2 => by
    rw [T]
    by_cases q : e = (c : Int)
    · rw [if_pos q, if_pos (by omega)]
    · rw [if_neg q, if_neg (by omega), if_neg (by omega)]
  have x1 : xtn m' (c : Int) r 1 = 2 := (a4 1).trans a2
  have x3 : xtn m' (c : Int) r 3 = r := rfl
  have hxe : ∀ f, xtn m' (c : Int) r f = xtn m (c : Int) (wsm m c) f := fun f => by unfold xtn; rw [a4, a7, hr]
  refine ⟨fun a j h1 h2 => ?_, fun d hd hs f => ?_, fun x k z1 z2 k1 k2 => ?_, fun x k j z1 z2 k1 k2 j1 j2 hne e => ?_, fun e e1 e2 e3 e4 => ?_, fun x z1 z2 => ?_⟩
  · rw [T, if_neg (fun z => h2 ⟨c, z, by omega, hc⟩), if_neg (by omega)]
    exact q0 a j h1 (fun ⟨d, d1, d2, d3⟩ => h2 ⟨d, d1, by omega, d3⟩)
  · by_cases z : d = c
    · subst z; rw [Tc _ _ (by omega) a1, if_pos rfl]; exact hxe f
    · have hd1 := (hp d hs).1
      rw [Tc _ _ (by omega) (by omega), if_neg (by omega)]
      exact q1 d (by omega) hs f
  · rw [Tr x k z1 z2]
    by_cases q : x = r ∧ k = k0
    · rw [if_pos q]
      refine Or.inr ⟨⟨by omega, a1⟩, ?_, ?_, fun _ => by omega⟩
      · rw [Tc _ _ (by omega) a1, if_pos rfl]; exact x1
      · rw [Tc _ _ (by omega) a1, if_pos rfl, x3]; exact q.1.symm
    · rw [if_neg q]
      rcases q2 x k z1 z2 k1 k2 with w | ⟨w1, w2, w3, w4⟩
      · exact Or.inl w
      · have hnc : m' (200 + x) k ≠ (c : Int) := fun y => by have := w4 (by rw [y, Int.toNat_natCast]; exact hc); omega
        refine Or.inr ⟨w1, ?_, ?_, fun y => by have := w4 y; omega⟩
        · rw [Tc _ _ w1.1 w1.2, if_neg hnc]; exact w2
        · rw [Tc _ _ w1.1 w1.2, if_neg hnc]; exact w3
  · rw [Tr x k z1 z2] at hne e
    rw [Tr x j z1 z2] at e
    have hnot : ∀ i : Int, 0 ≤ i → i < m 10 x → m' (200 + x) i ≠ (c : Int) := fun i i1 i2 y => by
      rcases q2 x i z1 z2 i1 i2 with w | ⟨w1, w2, w3, w4⟩
      · omega
      · have := w4 (by rw [y, Int.toNat_natCast]; exact hc); omega
    by_cases q : x = r ∧ k = k0
    · rw [if_pos q] at e
      by_cases y : x = r ∧ j = k0
      · omega
      · rw [if_neg y] at e; exact absurd e.symm (hnot j j1 j2)
    · rw [if_neg q] at e hne
      by_cases y : x = r ∧ j = k0
      · rw [if_pos y] at e; exact absurd e (hnot k k1 k2)
      · rw [if_neg y] at e; exact q3 x k j z1 z2 k1 k2 j1 j2 hne e
  · rw [Tc e 3 e1 e2]
    by_cases y : e = (c : Int)
    · rw [if_pos y, x3]
      refine ⟨k0, a8, a9, ?_⟩
      rw [Tr r k0 a3.1 (by omega), if_pos ⟨rfl, rfl⟩, y]
    · rw [if_neg y]
      obtain ⟨k, k1, k2, k3⟩ := q4 e e1 e2 e3 (by rcases e4 with z | z; exact Or.inl z; right; omega)
      have hrb : 0 ≤ m' (100 + e) 3 ∧ m' (100 + e) 3 < 6 := by
        by_cases w : ∃ d : Nat, 100 + e = 100 + (d : Int) ∧ d < c ∧ S.testBit d = true
        · obtain ⟨d, d1, d2, d3⟩ := w
          have hd := ok_ws wC wD hp d3
          have e9 := q1 d d2 d3 3
          rw [d1, e9]
          show 0 ≤ wsm m d ∧ wsm m d < 6
          omega
        · rw [q0 _ _ (by omega) w]
          have w5 := v5 e e1 e2
          unfold wfCab at w5
          have := w5.2.2.2.1 (Or.inr e3)
          omega
      refine ⟨k, k1, k2, ?_⟩
      rw [Tr _ k hrb.1 hrb.2, if_neg (fun z => by rw [z.1, z.2, a10] at k3; omega)]
      exact k3
  · have hq := q5 x z1 z2
    by_cases y : x = r
    · subst y
      have e1 : cnF (tk m' (c : Int) (200 + x)) (m 10 x).toNat = cnF (uf (m' (200 + x)) k0 (c : Int)) (m 10 x).toNat := cnF_cg _ (fun k k1 k2 => by
        rw [Tr x k z1 z2]
        unfold uf
        by_cases w : k = k0
        · rw [if_pos ⟨rfl, w⟩, if_pos w]
        · rw [if_neg (fun z => w z.2), if_neg w])
      have e2 := cnF_up (g := m' (200 + x)) (k := k0) (v := (c : Int)) a10 (by omega) (m 10 x).toNat
      have e3 : sm S (inW m x) (c + 1) = sm S (inW m x) c + 1 := by
        show sm S (inW m x) c + (if S.testBit c = true then inW m x c else 0) = _
        rw [if_pos hc]
        unfold inW
        rw [if_pos (by omega)]
      rw [e1, e2, e3, if_pos (by omega)]
      omega
    · have e1 : cnF (tk m' (c : Int) (200 + x)) (m 10 x).toNat = cnF (m' (200 + x)) (m 10 x).toNat := cnF_cg _ (fun k k1 k2 => by rw [Tr x k z1 z2, if_neg (fun z => y z.1)])
      have e3 : sm S (inW m x) (c + 1) = sm S (inW m x) c := by
        show sm S (inW m x) c + (if S.testBit c = true then inW m x c else 0) = _
        rw [if_pos hc]
        unfold inW
        rw [if_neg (by omega)]
        omega
      rw [e1, e3]
      exact hq
theorem Q_t {m : mS} {N : Int} {S : Nat} (wC : wfCity m) (wD : wfDay m 0 N) (hp : isHp (rkm m) (wsm m) S (m 0 4).toNat) (hg : isRg (rkm m) (wsm m) S (m 0 4).toNat) : ∀ c : Nat, Q m S c (tks m S c)
  | 0 => Q_0 wC wD hp hg
  | c + 1 => by
    have ih := Q_t wC wD hp hg c
    show Q m S (c + 1) (if S.testBit c = true then tk (tks m S c) (c : Int) else tks m S c)
    by_cases q : S.testBit c = true
    · rw [if_pos q]; exact Q_s wC wD hp ih q
    · rw [if_neg q]; exact Q_n ih (by simpa using q)
def mturn (m : mS) (S : Nat) : mS := tks m S (m 0 4).toNat
theorem frm_turn {m : mS} {N : Int} {S : Nat} (wC : wfCity m) (wD : wfDay m 0 N) (hp : isHp (rkm m) (wsm m) S (m 0 4).toNat) (hg : isRg (rkm m) (wsm m) S (m 0 4).toNat) : frm m (mturn m S) := fun a j h1 h2 h3 => by
  have v2 := (wfDay_0 wD).2.1
  exact (Q_t wC wD hp hg (m 0 4).toNat).1 a j (by omega) (fun ⟨d, d1, d2, _⟩ => by omega)
theorem wf_turn {m : mS} {N : Int} {S : Nat} (wC : wfCity m) (wD : wfDay m 0 N) (hp : isHp (rkm m) (wsm m) S (m 0 4).toNat) (hg : isRg (rkm m) (wsm m) S (m 0 4).toNat) : wfDay (mturn m S) 0 N := by
  have hQ : Q m S (m 0 4).toNat (mturn m S) := Q_t wC wD hp hg (m 0 4).toNat
  obtain ⟨q0, q1, q2, q3, q4, q5⟩ := hQ
  obtain ⟨v1, v2, v3, v4, v5, v6, v7, v8⟩ := wfDay_0 wD
  have h6 := wC.1
  obtain ⟨t, ht⟩ : ∃ t, t = mturn m S := ⟨_, rfl⟩
  rw [← ht] at q0 q1 q2 q3 q4 q5 ⊢
  have e0 : ∀ j, t 0 j = m 0 j := fun j => q0 0 j (by omega) (fun ⟨d, d1, d2, _⟩ => by omega)
  have e1 : ∀ j, t 1 j = m 1 j := fun j => q0 1 j (by omega) (fun ⟨d, d1, d2, _⟩ => by omega)
  have e2 : ∀ j, t 2 j = m 2 j := fun j => q0 2 j (by omega) (fun ⟨d, d1, d2, _⟩ => by omega)
  have e3 : ∀ j, t 3 j = m 3 j := fun j => q0 3 j (by omega) (fun ⟨d, d1, d2, _⟩ => by omega)
  have e10 : ∀ j, t 10 j = m 10 j := fun j => q0 10 j (by omega) (fun ⟨d, d1, d2, _⟩ => by omega)
  have e11 : ∀ j, t 11 j = m 11 j := fun j => q0 11 j (by omega) (fun ⟨d, d1, d2, _⟩ => by omega)
  have hfree : ∀ r k : Int, 0 ≤ r → r < 6 → 0 ≤ k → k < m 10 r → t (200 + r) k ≠ -1 := fun r k r1 r2 k1 k2 => by
    have h4 := v4 r r1 r2
    exact cnF_0 (m 10 r).toNat (by have := q5 r r1 r2; omega) k k1 (by omega)
  have hst : ∀ e : Int, 0 ≤ e → e < m 0 4 → t (100 + e) 1 = m (100 + e) 1 := fun e z1 z2 => by
    by_cases w : ∃ d : Nat, 100 + e = 100 + (d : Int) ∧ d < (m 0 4).toNat ∧ S.testBit d = true
    · obtain ⟨d, d1, d2, d3⟩ := w
      rw [d1, q1 d d2 d3]
      rfl
    · exact q0 _ _ (by omega) w
  unfold wfDay
  simp only [e0, e1, e2, e3, e10, e11, Int.zero_add, show (0 : Int) + 10 = 10 from rfl, show (0 : Int) + 11 = 11 from rfl]
  refine ⟨v1, v2, v3, v4, fun c z1 z2 => ?_, fun r k r1 r2 k1 k2 => ?_, fun r k j r1 r2 k1 k2 j1 j2 e => q3 r k j r1 r2 k1 k2 j1 j2 (hfree r k r1 r2 k1 k2) e, fun e z1 z2 z3 => aw_mb ?_⟩
  · have w5 := v5 c z1 z2
    by_cases w : ∃ d : Nat, 100 + c = 100 + (d : Int) ∧ d < (m 0 4).toNat ∧ S.testBit d = true
    · obtain ⟨d, d1, d2, d3⟩ := w
      have hcd : c = (d : Int) := by omega
      subst hcd
      have hws := ok_ws wC wD hp d3
      have hws2 : 0 ≤ wsm m d ∧ wsm m d < m 0 0 ∧ m (100 + (d : Int)) 1 = 2 := by
        have hh := (hp d d3).2
        have r9 : wsm m d = m (100 + (d : Int)) 9 := rfl
        unfold wfCab at w5
        rcases w5.2.2.2.2.2.2.2.2.2.2.2.2.1 with y | y
        · exact absurd (r9.trans y) hh
        · rw [r9]; exact ⟨y.2.1, y.2.2.1, y.1⟩
      have hp1 := (wC.2.1 (wsm m d) hws2.1 hws2.2.1).1
      have x0 := q1 d d2 d3 0
      have x1 := q1 d d2 d3 1
      have x2 := q1 d d2 d3 2
      have x3 := q1 d d2 d3 3
      have x4 := q1 d d2 d3 4
      have x5 := q1 d d2 d3 5
      have x6 := q1 d d2 d3 6
      have x7 := q1 d d2 d3 7
      have x8 := q1 d d2 d3 8
      have x9 := q1 d d2 d3 9
      have x10 := q1 d d2 d3 10
      have y0 : xtn m (d : Int) (wsm m d) 0 = m (100 + (d : Int)) 0 := rfl
      have y1 : xtn m (d : Int) (wsm m d) 1 = m (100 + (d : Int)) 1 := rfl
      have y2 : xtn m (d : Int) (wsm m d) 2 = m 1 (wsm m d) := rfl
      have y3 : xtn m (d : Int) (wsm m d) 3 = wsm m d := rfl
      have y4 : xtn m (d : Int) (wsm m d) 4 = m (100 + (d : Int)) 4 := rfl
      have y5 : xtn m (d : Int) (wsm m d) 5 = m (100 + (d : Int)) 5 := rfl
      have y6 : xtn m (d : Int) (wsm m d) 6 = m (100 + (d : Int)) 6 := rfl
      have y7 : xtn m (d : Int) (wsm m d) 7 = m (100 + (d : Int)) 7 := rfl
      have y8 : xtn m (d : Int) (wsm m d) 8 = m (100 + (d : Int)) 8 := rfl
      have y9 : xtn m (d : Int) (wsm m d) 9 = -1 := rfl
      have y10 : xtn m (d : Int) (wsm m d) 10 = 0 := rfl
      unfold wfCab at w5 ⊢
      rw [x0, x1, x2, x3, x4, x5, x6, x7, x8, x9, x10, y0, y1, y2, y3, y4, y5, y6, y7, y8, y9, y10, e0, e0, e1]
      obtain ⟨a0, a1, a2, a3, a4, a5, a6, a7, a8, a9, a10, a11, a12, a13⟩ := w5
      refine ⟨a0, a1, hp1, fun _ => ⟨hws2.1, hws2.2.1⟩, fun z => by omega, fun z => by omega, fun _ => a6 (Or.inr hws2.2.2), fun _ => rfl, a8, a9, a10, a11, Or.inl rfl, Or.inl rfl⟩
    · have ec : ∀ f, t (100 + c) f = m (100 + c) f := fun f => q0 _ _ (by omega) w
      unfold wfCab at w5 ⊢
      simp only [ec, e0, e1]
      exact w5
  · rcases q2 r k r1 r2 k1 k2 with z | ⟨z1, z2, z3, z4⟩
    · exact absurd z (hfree r k r1 r2 k1 k2)
    · exact ⟨z1, z2, z3⟩
  · rw [hst e z1 z2] at z3
    exact q4 e z1 z2 z3 (Or.inr (by omega))
