/-! ===== cabs brought: what holds while one more is brought at a time. Nodes: a rank that gives a; a rank that gets 6 + b ===== -/
def s6 (f : Int → Int) : Nat → Int
  | 0 => 0
  | k + 1 => s6 f k + f (k : Int)
theorem s6_cg {f g : Int → Int} : ∀ n : Nat, (∀ i : Int, 0 ≤ i → i < (n : Int) → f i = g i) → s6 f n = s6 g n
  | 0, _ => rfl
  | n + 1, h => by
    show s6 f n + f (n : Int) = s6 g n + g (n : Int)
    rw [s6_cg n (fun i i1 i2 => h i i1 (by omega)), h (n : Int) (by omega) (by omega)]
theorem s6_add {f g : Int → Int} : ∀ n : Nat, s6 (fun i => f i + g i) n = s6 f n + s6 g n
  | 0 => rfl
  | n + 1 => by
    show s6 (fun i => f i + g i) n + (f (n : Int) + g (n : Int)) = s6 f n + f (n : Int) + (s6 g n + g (n : Int))
    rw [s6_add n]
    omega
theorem s6_up {f : Int → Int} {i v : Int} : ∀ n : Nat, s6 (uf f i v) n = s6 f n + (if 0 ≤ i ∧ i < (n : Int) then v - f i else 0)
  | 0 => by rw [if_neg (by omega)]; rfl
  | n + 1 => by
    have ih := s6_up (f := f) (i := i) (v := v) n
    show s6 (uf f i v) n + uf f i v (n : Int) = s6 f n + f (n : Int) + _
    rw [ih]
    by_cases q : (n : Int) = i
    · rw [q, uf_eq, if_neg (show ¬ (0 ≤ i ∧ i < i) by omega), if_pos (show 0 ≤ i ∧ i < ((n + 1 : Nat) : Int) by omega)]; omega
    · rw [uf_ne q]
      by_cases z : 0 ≤ i ∧ i < (n : Int)
      · rw [if_pos z, if_pos (show 0 ≤ i ∧ i < ((n + 1 : Nat) : Int) by omega)]; omega
      · rw [if_neg z, if_neg (show ¬ (0 ≤ i ∧ i < ((n + 1 : Nat) : Int)) by omega)]; omega
theorem s6_nn {f : Int → Int} : ∀ n : Nat, (∀ i : Int, 0 ≤ i → i < (n : Int) → 0 ≤ f i) → 0 ≤ s6 f n
  | 0, _ => Int.le_refl _
  | n + 1, h => by
    have ih := s6_nn (f := f) n (fun i i1 i2 => h i i1 (by omega))
    have := h (n : Int) (by omega) (by omega)
    show 0 ≤ s6 f n + f (n : Int)
    omega
/-- one place of a table changed -/
def ux (x : Int → Int → Int) (a b v : Int) : Int → Int → Int := fun i j => if i = a ∧ j = b then v else x i j
theorem ux_row {x : Int → Int → Int} {a b v i : Int} (R : Nat) : s6 (ux x a b v i) R = s6 (x i) R + (if i = a ∧ (0 ≤ b ∧ b < (R : Int)) then v - x a b else 0) := by
  by_cases q : i = a
  · subst q
    have e : ux x i b v i = uf (x i) b v := by
      funext j
      unfold ux uf
      simp
    rw [e, s6_up]
    simp
  · have e : ux x a b v i = x i := by
      funext j
      unfold ux
      simp [q]
    rw [e, if_neg (fun z => q z.1)]
    omega
theorem ux_col {x : Int → Int → Int} {a b v j : Int} (R : Nat) : s6 (fun i => ux x a b v i j) R = s6 (fun i => x i j) R + (if j = b ∧ (0 ≤ a ∧ a < (R : Int)) then v - x a b else 0) := by
  by_cases q : j = b
  · subst q
    have e : (fun i => ux x a j v i j) = uf (fun i => x i j) a v := by
      funext i
      unfold ux uf
      simp
    rw [e, s6_up]
    simp
  · have e : (fun i => ux x a b v i j) = fun i => x i j := by
      funext i
      unfold ux
      simp [q]
    rw [e, if_neg (fun z => q z.1)]
    omega
def eA (e : Nat) : Int := ((e / 12 : Nat) : Int)
def eB (e : Nat) : Int := ((e % 12 / 2 : Nat) : Int)
def brA (R : Int) (x : Int → Int → Int) (e : Nat) : Bool := decide (eA e < R ∧ eB e < R ∧ (e % 2 = 0 ∨ 0 < x (eA e) (eB e)))
def brT (e : Nat) : Int := if e % 2 = 0 then eA e else 6 + eB e
def brH (e : Nat) : Int := if e % 2 = 0 then 6 + eB e else eA e
def brW (d : Int → Int → Int) (e : Nat) : Int := if e % 2 = 0 then d (eA e) (eB e) else -(d (eA e) (eB e))
theorem br_V {R : Int} {x : Int → Int → Int} (hR : R ≤ 6) : bfV (brA R x) brT brH 72 12 := fun e he ha => by
  have h := of_decide_eq_true ha
  unfold eA eB at h
  unfold brT brH eA eB
  split <;> omega
/-- the prices of the ranks, and what the last one took -/
def cert (R : Int) (d x : Int → Int → Int) (sp wa : Int → Int) (f : Int → Int) (th : Int) : Prop :=
  (∀ a b : Int, 0 ≤ a → a < R → 0 ≤ b → b < R → f (6 + b) ≤ f a + d a b) ∧
  (∀ a b : Int, 0 ≤ a → a < R → 0 ≤ b → b < R → 0 < x a b → f (6 + b) = f a + d a b) ∧
  (∀ a : Int, 0 ≤ a → a < R → (0 < sp a → f a ≤ 0) ∧ (0 < s6 (x a) R.toNat → 0 ≤ f a)) ∧
  (∀ b : Int, 0 ≤ b → b < R → (0 < wa b → th ≤ f (6 + b)) ∧ (0 < s6 (fun a => x a b) R.toNat → f (6 + b) ≤ th))
theorem br_P {R th : Int} {d x : Int → Int → Int} {sp wa f : Int → Int} (h : cert R d x sp wa f th) : bfP (brA R x) brT brH (brW d) 72 f := fun e he ha => by
  have hh := of_decide_eq_true ha
  have e1 : 0 ≤ eA e := Int.natCast_nonneg _
  have e2 : 0 ≤ eB e := Int.natCast_nonneg _
  unfold brT brH brW
  by_cases q : e % 2 = 0
  · rw [if_pos q, if_pos q, if_pos q]; exact h.1 _ _ e1 hh.1 e2 hh.2.1
  · rw [if_neg q, if_neg q, if_neg q]
    have hx : 0 < x (eA e) (eB e) := by
      rcases hh.2.2 with z | z
      · exact absurd z q
      · exact z
    have := h.2.1 _ _ e1 hh.1 e2 hh.2.1 hx
    omega
/-- the arc from a to b, and back -/
theorem br_e (a b : Int) (s : Nat) (ha : 0 ≤ a ∧ a < 6) (hb : 0 ≤ b ∧ b < 6) (hs : s < 2) : ∃ e : Nat, e < 72 ∧ eA e = a ∧ eB e = b ∧ e % 2 = s := by
  refine ⟨(12 * a + 2 * b).toNat + s, by omega, ?_, ?_, by omega⟩
  · unfold eA; omega
  · unfold eB; omega
/-- the state while one is brought: the way back has come to v; x0: before, g0: the rank that gets -/
def onb (R : Int) (d : Int → Int → Int) (x0 x : Int → Int → Int) (f' c : Int → Int) (g0 v : Int) : Prop :=
  (∀ a b : Int, 0 ≤ a → a < R → 0 ≤ b → b < R → x0 a b ≤ x a b ∨ 0 ≤ x a b) ∧
  (∀ a b : Int, 0 ≤ a → a < R → 0 ≤ b → b < R → 0 ≤ x a b ∧ (0 < x a b → f' (6 + b) = f' a + d a b)) ∧
  (∀ a : Int, 0 ≤ a → a < R → s6 (x a) R.toNat = s6 (x0 a) R.toNat + (if v = a then 1 else 0)) ∧
  (∀ b : Int, 0 ≤ b → b < R → s6 (fun a => x a b) R.toNat = s6 (fun a => x0 a b) R.toNat + (if b = g0 then 1 else 0) - (if v = 6 + b then 1 else 0)) ∧
  f' v = c v
theorem onb_f {R : Int} {d x0 x : Int → Int → Int} {f' c : Int → Int} {g0 a b : Int} (hR : R ≤ 6) (ha : 0 ≤ a ∧ a < R) (hb : 0 ≤ b ∧ b < R) (h : onb R d x0 x f' c g0 (6 + b)) (ht : f' (6 + b) = f' a + d a b) (hc : f' a = c a) : onb R d x0 (ux x a b (x a b + 1)) f' c g0 a := by
  obtain ⟨h0, h1, h2, h3, h4⟩ := h
  refine ⟨fun i j i1 i2 j1 j2 => ?_, fun i j i1 i2 j1 j2 => ?_, fun i i1 i2 => ?_, fun j j1 j2 => ?_, hc⟩
  · have := (h1 i j i1 i2 j1 j2).1
    right
    unfold ux
    split
    · have := (h1 a b ha.1 ha.2 hb.1 hb.2).1; omega
    · exact this
  · have h9 := h1 i j i1 i2 j1 j2
    have h8 := (h1 a b ha.1 ha.2 hb.1 hb.2).1
    unfold ux
    by_cases q : i = a ∧ j = b
    · rw [if_pos q, q.1, q.2]; exact ⟨by omega, fun _ => ht⟩
    · rw [if_neg q]; exact h9
  · rw [ux_row, h2 i i1 i2]
    (repeat' split) <;> omega
  · rw [ux_col, h3 j j1 j2]
    (repeat' split) <;> omega
theorem onb_b {R : Int} {d x0 x : Int → Int → Int} {f' c : Int → Int} {g0 a b : Int} (hR : R ≤ 6) (ha : 0 ≤ a ∧ a < R) (hb : 0 ≤ b ∧ b < R) (h : onb R d x0 x f' c g0 a) (hx : 0 < x a b) (hc : f' (6 + b) = c (6 + b)) : onb R d x0 (ux x a b (x a b - 1)) f' c g0 (6 + b) := by
  obtain ⟨h0, h1, h2, h3, h4⟩ := h
  refine ⟨fun i j i1 i2 j1 j2 => ?_, fun i j i1 i2 j1 j2 => ?_, fun i i1 i2 => ?_, fun j j1 j2 => ?_, hc⟩
  · have := (h1 i j i1 i2 j1 j2).1
    right
    unfold ux
    split
    · omega
    · exact this
  · have h9 := h1 i j i1 i2 j1 j2
    unfold ux
    by_cases q : i = a ∧ j = b
    · rw [if_pos q, q.1, q.2]; exact ⟨by omega, fun _ => (h1 a b ha.1 ha.2 hb.1 hb.2).2 hx⟩
    · rw [if_neg q]; exact h9
  · rw [ux_row, h2 i i1 i2]
    (repeat' split) <;> omega
  · rw [ux_col, h3 j j1 j2]
    (repeat' split) <;> omega
/-- the new prices -/
def newf (f c : Int → Int) (dt : Int) : Int → Int := fun v => if c v ≤ f v + dt then c v else f v + dt
theorem cert_n {R th th' : Int} {d x : Int → Int → Int} {sp wa f c : Int → Int} (hR : 0 ≤ R ∧ R ≤ 6) (hth : th ≤ th') (h : cert R d x sp wa f th) (hc : bfP (brA R x) brT brH (brW d) 72 c)
    (hs : ∀ a : Int, 0 ≤ a → a < R → (0 < sp a → c a ≤ 0) ∧ (0 < s6 (x a) R.toNat → 0 ≤ c a)) (hw : ∀ b : Int, 0 ≤ b → b < R → 0 < wa b → th' ≤ c (6 + b)) : cert R d x sp wa (newf f c (th' - th)) th' := by
  obtain ⟨c1, c2, c3, c4⟩ := h
  have k1 : ∀ a b : Int, 0 ≤ a → a < R → 0 ≤ b → b < R → c (6 + b) ≤ c a + d a b := fun a b a1 a2 b1 b2 => by
    obtain ⟨e, e1, e2, e3, e4⟩ := br_e a b 0 (by omega) (by omega) (by omega)
    have h9 := hc e e1 (decide_eq_true ⟨by omega, by omega, Or.inl e4⟩)
    unfold brT brH brW at h9
    rw [if_pos e4, if_pos e4, if_pos e4, e2, e3] at h9
    exact h9
  have k2 : ∀ a b : Int, 0 ≤ a → a < R → 0 ≤ b → b < R → 0 < x a b → c (6 + b) = c a + d a b := fun a b a1 a2 b1 b2 hx => by
    obtain ⟨e, e1, e2, e3, e4⟩ := br_e a b 1 (by omega) (by omega) (by omega)
    have h9 := hc e e1 (decide_eq_true ⟨by omega, by omega, Or.inr (by rw [e2, e3]; exact hx)⟩)
    unfold brT brH brW at h9
    rw [if_neg (by omega), if_neg (by omega), if_neg (by omega), e2, e3] at h9
    have := k1 a b a1 a2 b1 b2
    omega
  refine ⟨fun a b a1 a2 b1 b2 => ?_, fun a b a1 a2 b1 b2 hx => ?_, fun a a1 a2 => ⟨fun z => ?_, fun z => ?_⟩, fun b b1 b2 => ⟨fun z => ?_, fun z => ?_⟩⟩
  · have := k1 a b a1 a2 b1 b2
    have := c1 a b a1 a2 b1 b2
    unfold newf
    split <;> split <;> omega
  · have := k2 a b a1 a2 b1 b2 hx
    have := c2 a b a1 a2 b1 b2 hx
    unfold newf
    split <;> split <;> omega
  · have := (hs a a1 a2).1 z
    unfold newf
    split <;> omega
  · have := (hs a a1 a2).2 z
    have := (c3 a a1 a2).2 z
    unfold newf
    split <;> omega
  · have := hw b b1 b2 z
    have := (c4 b b1 b2).1 z
    unfold newf
    split <;> omega
  · have := (c4 b b1 b2).2 z
    unfold newf
    split <;> omega
