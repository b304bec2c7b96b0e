/-! ===== cabs brought: the search, and the way back ===== -/
theorem s6_pt {a C : Int} (n : Nat) : s6 (fun i => if i = a then C else 0) n = if 0 ≤ a ∧ a < (n : Int) then C else 0 := by
  have z : ∀ k : Nat, s6 (fun _ => (0 : Int)) k = 0 := fun k => by
    induction k with
    | zero => rfl
    | succ k ih => show s6 (fun _ => (0 : Int)) k + 0 = 0; rw [ih]; rfl
  have h := s6_up (f := fun _ => (0 : Int)) (i := a) (v := C) n
  rw [z, Int.zero_add, Int.sub_zero] at h
  exact h
theorem s6_mul {f : Int → Int} {C : Int} : ∀ n : Nat, s6 (fun i => f i * C) n = s6 f n * C
  | 0 => by show (0 : Int) = 0 * C; rw [Int.zero_mul]
  | n + 1 => by
    show s6 (fun i => f i * C) n + f (n : Int) * C = (s6 f n + f (n : Int)) * C
    rw [s6_mul n, Int.add_mul]
theorem s6_sub {f g : Int → Int} : ∀ n : Nat, s6 (fun i => f i - g i) n = s6 f n - s6 g n
  | 0 => rfl
  | n + 1 => by
    show s6 (fun i => f i - g i) n + (f (n : Int) - g (n : Int)) = s6 f n + f (n : Int) - (s6 g n + g (n : Int))
    rw [s6_sub n]
    omega
theorem s6_z : ∀ k : Nat, s6 (fun _ => (0 : Int)) k = 0
  | 0 => rfl
  | k + 1 => by show s6 (fun _ => (0 : Int)) k + 0 = 0; rw [s6_z k]; rfl
theorem s6_sw {y : Int → Int → Int} (k : Nat) : ∀ n : Nat, s6 (fun a => s6 (y a) k) n = s6 (fun b => s6 (fun a => y a b) n) k
  | 0 => by show (0 : Int) = s6 (fun _ => (0 : Int)) k; rw [s6_z]
  | n + 1 => by
    show s6 (fun a => s6 (y a) k) n + s6 (y (n : Int)) k = s6 (fun b => s6 (fun a => y a b) n + y (n : Int) b) k
    rw [s6_add (f := fun b => s6 (fun a => y a b) n) (g := fun b => y (n : Int) b), s6_sw k n]
theorem s6_le {f g : Int → Int} : ∀ n : Nat, (∀ i : Int, 0 ≤ i → i < (n : Int) → f i ≤ g i) → s6 f n ≤ s6 g n
  | 0, _ => Int.le_refl _
  | n + 1, h => by
    have ih := s6_le (f := f) (g := g) n (fun i i1 i2 => h i i1 (by omega))
    have := h (n : Int) (by omega) (by omega)
    show s6 f n + f (n : Int) ≤ s6 g n + g (n : Int)
    omega
theorem s6_one {f : Int → Int} {j : Int} : ∀ n : Nat, (∀ i : Int, 0 ≤ i → i < (n : Int) → 0 ≤ f i) → 0 ≤ j → j < (n : Int) → f j ≤ s6 f n
  | 0, _, _, _ => by omega
  | n + 1, h, j1, j2 => by
    show f j ≤ s6 f n + f (n : Int)
    have h2 := h (n : Int) (by omega) (by omega)
    by_cases q : j = (n : Int)
    · have := s6_nn (f := f) n (fun i i1 i2 => h i i1 (by omega))
      rw [q]; omega
    · have := s6_one (f := f) (j := j) n (fun i i1 i2 => h i i1 (by omega)) j1 (by omega)
      omega
/-- all minutes of what is carried -/
def tot (R : Int) (d x : Int → Int → Int) : Int := s6 (fun a => s6 (fun b => x a b * d a b) R.toNat) R.toNat
theorem tot_ux {R a b v : Int} {d x : Int → Int → Int} (ha : 0 ≤ a ∧ a < R) (hb : 0 ≤ b ∧ b < R) : tot R d (ux x a b v) = tot R d x + (v - x a b) * d a b := by
  unfold tot
  have e : ∀ i : Int, s6 (fun j => ux x a b v i j * d i j) R.toNat = s6 (fun j => x i j * d i j) R.toNat + (if i = a then (v - x a b) * d a b else 0) := fun i => by
    have e1 : (fun j => ux x a b v i j * d i j) = ux (fun i j => x i j * d i j) a b (v * d a b) i := by
      funext j
      unfold ux
      by_cases q : i = a ∧ j = b
      · rw [if_pos q, if_pos q, q.1, q.2]
      · rw [if_neg q, if_neg q]
    rw [e1, ux_row]
    by_cases q : i = a
    · rw [if_pos ⟨q, by omega, by omega⟩, if_pos q, Int.sub_mul]
    · rw [if_neg (fun z => q z.1), if_neg q]
  rw [s6_cg (g := fun i => s6 (fun j => x i j * d i j) R.toNat + (if i = a then (v - x a b) * d a b else 0)) R.toNat (fun i _ _ => e i), s6_add (f := fun i => s6 (fun j => x i j * d i j) R.toNat) (g := fun i => if i = a then (v - x a b) * d a b else 0), s6_pt, if_pos (by omega)]
/-- the arcs looked at so far in this round -/
def srch (R : Int) (d x : Int → Int → Int) (i0 f b fr : Int → Int) (k i : Nat) : Prop :=
  bfI (brA R x) brT brH (brW d) 72 12 i0 f b fr ∧ bfU (brA R x) brT brH (brW d) 72 12 i0 b k ∧ bfR (brA R x) brT brH (brW d) 72 i0 b k i
section SR
variable {R : Int} {d x : Int → Int → Int} {i0 f b fr : Int → Int} {k : Nat}
theorem srch_0 (hb : ∀ v : Int, 0 ≤ v → v < 12 → b v = i0 v ∧ fr v = -1) : srch R d x i0 f b fr 0 0 :=
  ⟨bfI_0 (fun v v1 v2 => hb v v1 (by omega)), fun v v1 v2 => by rw [(hb v v1 (by omega)).1]; exact Int.le_refl _, fun e he => by omega⟩
theorem srch_y {e : Nat} (hR : R ≤ 6) (hf : bfP (brA R x) brT brH (brW d) 72 f) (he : e < 72) (ha : brA R x e = true) (h : srch R d x i0 f b fr k e) (h2 : b (brT e) + brW d e < b (brH e)) : srch R d x i0 f (uf b (brH e) (b (brT e) + brW d e)) (uf fr (brH e) (brT e)) k (e + 1) := by
  obtain ⟨h1, h3, h4⟩ := h
  have hv := br_V (x := x) hR e he ha
  have hle : ∀ v, uf b (brH e) (b (brT e) + brW d e) v ≤ b v := fun v => by
    unfold uf
    split
    · rename_i q; rw [q]; omega
    · exact Int.le_refl _
  refine ⟨bf_upd (V := 11) (br_V hR) hf he ha h1 h2, fun v v1 v2 => Int.le_trans (hle v) (h3 v v1 v2), fun j hj hja => ?_⟩
  by_cases q : j = e
  · subst q
    rw [uf_eq]
    have := h3 _ hv.1.1 hv.1.2
    omega
  · exact Int.le_trans (hle _) (h4 j (by omega) hja)
theorem srch_n {e : Nat} (hR : R ≤ 6) (he : e < 72) (h : srch R d x i0 f b fr k e) (h2 : brA R x e = true → b (brH e) ≤ b (brT e) + brW d e) : srch R d x i0 f b fr k (e + 1) := by
  obtain ⟨h1, h3, h4⟩ := h
  refine ⟨h1, h3, fun j hj hja => ?_⟩
  by_cases q : j = e
  · subst q
    have hv := br_V (x := x) hR j he hja
    have := h3 _ hv.1.1 hv.1.2
    have := h2 hja
    omega
  · exact h4 j (by omega) hja
theorem srch_sk {i j : Nat} (h : srch R d x i0 f b fr k i) (hs : ∀ e : Nat, i ≤ e → e < j → brA R x e = false) : srch R d x i0 f b fr k j :=
  ⟨h.1, h.2.1, fun e he ha => by
    rcases Nat.lt_or_ge e i with q | q
    · exact h.2.2 e q ha
    · rw [hs e q he] at ha; cases ha⟩
theorem eAB {a c : Int} (ha : 0 ≤ a ∧ a < 6) (hc : 0 ≤ c ∧ c < 6) : (eA (12 * a + 2 * c).toNat = a ∧ eB (12 * a + 2 * c).toNat = c ∧ (12 * a + 2 * c).toNat % 2 = 0) ∧ (eA ((12 * a + 2 * c).toNat + 1) = a ∧ eB ((12 * a + 2 * c).toNat + 1) = c ∧ ((12 * a + 2 * c).toNat + 1) % 2 ≠ 0) := by
  unfold eA eB
  omega
variable {a c : Int}
theorem srch_f (hR : R ≤ 6) (hf : bfP (brA R x) brT brH (brW d) 72 f) (ha : 0 ≤ a ∧ a < R) (hc : 0 ≤ c ∧ c < R) (h : srch R d x i0 f b fr k (12 * a + 2 * c).toNat) (h2 : b a + d a c < b (6 + c)) : srch R d x i0 f (uf b (6 + c) (b a + d a c)) (uf fr (6 + c) a) k ((12 * a + 2 * c).toNat + 1) := by
  obtain ⟨⟨e1, e2, e3⟩, -⟩ := eAB (a := a) (c := c) (by omega) (by omega)
  have hT : brT (12 * a + 2 * c).toNat = a := by unfold brT; rw [if_pos e3, e1]
  have hH : brH (12 * a + 2 * c).toNat = 6 + c := by unfold brH; rw [if_pos e3, e2]
  have hW : brW d (12 * a + 2 * c).toNat = d a c := by unfold brW; rw [if_pos e3, e1, e2]
  have h9 := srch_y hR hf (by omega) (decide_eq_true ⟨by omega, by omega, Or.inl e3⟩) h (by rw [hT, hH, hW]; exact h2)
  rw [hT, hH, hW] at h9
  exact h9
theorem srch_f' (hR : R ≤ 6) (ha : 0 ≤ a ∧ a < R) (hc : 0 ≤ c ∧ c < R) (h : srch R d x i0 f b fr k (12 * a + 2 * c).toNat) (h2 : b (6 + c) ≤ b a + d a c) : srch R d x i0 f b fr k ((12 * a + 2 * c).toNat + 1) := by
  obtain ⟨⟨e1, e2, e3⟩, -⟩ := eAB (a := a) (c := c) (by omega) (by omega)
  refine srch_n hR (by omega) h (fun _ => ?_)
  unfold brT brH brW
  rw [if_pos e3, if_pos e3, if_pos e3, e1, e2]
  exact h2
theorem srch_b (hR : R ≤ 6) (hf : bfP (brA R x) brT brH (brW d) 72 f) (ha : 0 ≤ a ∧ a < R) (hc : 0 ≤ c ∧ c < R) (h : srch R d x i0 f b fr k ((12 * a + 2 * c).toNat + 1)) (hx : 0 < x a c) (h2 : b (6 + c) - d a c < b a) : srch R d x i0 f (uf b a (b (6 + c) - d a c)) (uf fr a (6 + c)) k (12 * a + 2 * (c + 1)).toNat := by
  obtain ⟨-, e1, e2, e3⟩ := eAB (a := a) (c := c) (by omega) (by omega)
  have hT : brT ((12 * a + 2 * c).toNat + 1) = 6 + c := by unfold brT; rw [if_neg e3, e2]
  have hH : brH ((12 * a + 2 * c).toNat + 1) = a := by unfold brH; rw [if_neg e3, e1]
  have hW : brW d ((12 * a + 2 * c).toNat + 1) = -(d a c) := by unfold brW; rw [if_neg e3, e1, e2]
  have h9 := srch_y hR hf (by omega) (decide_eq_true ⟨by omega, by omega, Or.inr (by rw [e1, e2]; exact hx)⟩) h (by rw [hT, hH, hW]; omega)
  rw [hT, hH, hW, ← Int.sub_eq_add_neg] at h9
  rw [show (12 * a + 2 * (c + 1)).toNat = (12 * a + 2 * c).toNat + 1 + 1 by omega]
  exact h9
theorem srch_b' (hR : R ≤ 6) (ha : 0 ≤ a ∧ a < R) (hc : 0 ≤ c ∧ c < R) (h : srch R d x i0 f b fr k ((12 * a + 2 * c).toNat + 1)) (h2 : 0 < x a c → b a ≤ b (6 + c) - d a c) : srch R d x i0 f b fr k (12 * a + 2 * (c + 1)).toNat := by
  obtain ⟨-, e1, e2, e3⟩ := eAB (a := a) (c := c) (by omega) (by omega)
  rw [show (12 * a + 2 * (c + 1)).toNat = (12 * a + 2 * c).toNat + 1 + 1 by omega]
  refine srch_n hR (by omega) h (fun hA => ?_)
  have hh := of_decide_eq_true hA
  rw [e1, e2] at hh
  have hx : 0 < x a c := by
    rcases hh.2.2 with z | z
    · exact absurd z e3
    · exact z
  have := h2 hx
  unfold brT brH brW
  rw [if_neg e3, if_neg e3, if_neg e3, e1, e2]
  omega
theorem srch_row (hR : 0 ≤ R ∧ R ≤ 6) (ha : 0 ≤ a ∧ a < R) (h : srch R d x i0 f b fr k (12 * a + 2 * R).toNat) : srch R d x i0 f b fr k (12 * (a + 1) + 2 * 0).toNat := srch_sk h (fun e e1 e2 => by
  refine decide_eq_false (fun z => ?_)
  unfold eA eB at z
  omega)
theorem srch_turn (hR : 0 ≤ R ∧ R ≤ 6) (h : srch R d x i0 f b fr k (12 * R + 2 * 0).toNat) : srch R d x i0 f b fr (k + 1) (12 * 0 + 2 * 0 : Int).toNat := by
  have h9 : srch R d x i0 f b fr k 72 := srch_sk h (fun e e1 e2 => by
    refine decide_eq_false (fun z => ?_)
    unfold eA eB at z
    omega)
  exact ⟨h9.1, bfU_s h9.2.1 h9.2.2, fun e he => by omega⟩
/-- costs stay within bounds, wherever the search is -/
theorem srch_bd {g : Int → Int} {j : Nat} (hR : R ≤ 6) (hg : bfP (brA R x) brT brH (brW d) 72 g) (hi : ∀ v : Int, 0 ≤ v → v < 12 → g v ≤ i0 v) (h : srch R d x i0 f b fr k j) (v : Int) (hv : 0 ≤ v ∧ v < 12) : g v ≤ b v ∧ b v ≤ i0 v := by
  have h1 := h.1.1 v hv.1 (by omega)
  have h2 := h.1.2.1 v hv.1 (by omega)
  have h3 := bf_lo (V := 12) (b := b) (fr := fr) (i0 := i0) hg (br_V hR) (fun v v1 v2 => hi v v1 (by omega)) (12 - 1) v hv.1 (by omega)
  omega
end SR
/-- what a start costs -/
def st0 (R : Int) (sp : Int → Int) : Int → Int := fun v => if v < R ∧ 0 < sp v then 0 else 1000000
/-- the search is over: the costs, and where they come from -/
def fnd (R : Int) (d x : Int → Int → Int) (sp f c fr : Int → Int) (τ : Int → Nat) : Prop :=
  bfP (brA R x) brT brH (brW d) 72 c ∧ (∀ v : Int, 0 ≤ v → v < 12 → f v ≤ c v ∧ c v ≤ st0 R sp v) ∧
  ∀ v : Int, 0 ≤ v → v < 12 → (fr v = -1 ∧ c v = st0 R sp v) ∨ ∃ e : Nat, e < 72 ∧ brA R x e = true ∧ brH e = v ∧ fr v = brT e ∧ c v = c (brT e) + brW d e ∧ τ (brT e) < τ v
theorem fnd_of {R th : Int} {d x : Int → Int → Int} {sp wa f c fr : Int → Int} (hR : R ≤ 6) (hc : cert R d x sp wa f th) (hf : ∀ v : Int, 0 ≤ v → v < 12 → 0 ≤ f v ∧ f v ≤ 1000000) (h : srch R d x (st0 R sp) f c fr 12 0) : ∃ τ, fnd R d x sp f c fr τ := by
  have hP := br_P hc
  obtain ⟨h1, τ, h2⟩ := bf_end (V := 11) (br_V hR) hP h.1 h.2.1
  refine ⟨τ, h1, fun v v1 v2 => srch_bd hR hP (fun u u1 u2 => ?_) h v ⟨v1, v2⟩, fun v v1 v2 => h2 v v1 (by omega)⟩
  unfold st0
  split
  · rename_i q; exact (hc.2.2.1 u u1 q.1).1 q.2
  · exact (hf u u1 u2).2
/-- no rank gives: whoever is wanted stays out of reach -/
theorem fnd_no {R th : Int} {d x : Int → Int → Int} {sp wa f c fr : Int → Int} {k j : Nat} (hR : R ≤ 6) (hc : cert R d x sp wa f th) (hx : ∀ a b : Int, 0 ≤ a → a < R → 0 ≤ b → b < R → 0 ≤ x a b) (hd : ∀ a b : Int, 0 ≤ d a b) (h : srch R d x (st0 R sp) f c fr k j) (hs : ∀ a : Int, 0 ≤ a → a < R → sp a ≤ 0) {b : Int} (hb : 0 ≤ b ∧ b < R) (hw : 0 < wa b) : 1000000 ≤ c (6 + b) := by
  have hg : bfP (brA R x) brT brH (brW d) 72 (fun v => (if f v ≤ th then f v - th else 0) + 1000000) := fun e he ha => by
    have hh := of_decide_eq_true ha
    have e1 : 0 ≤ eA e := Int.natCast_nonneg _
    have e2 : 0 ≤ eB e := Int.natCast_nonneg _
    have hd9 := hd (eA e) (eB e)
    unfold brT brH brW
    by_cases q : e % 2 = 0
    · rw [if_pos q, if_pos q, if_pos q]
      have := hc.1 _ _ e1 hh.1 e2 hh.2.1
      show (if f (6 + eB e) ≤ th then f (6 + eB e) - th else 0) + 1000000 ≤ (if f (eA e) ≤ th then f (eA e) - th else 0) + 1000000 + d (eA e) (eB e)
      (repeat' split) <;> omega
    · rw [if_neg q, if_neg q, if_neg q]
      have hx9 : 0 < x (eA e) (eB e) := by
        rcases hh.2.2 with z | z
        · exact absurd z q
        · exact z
      have t1 := hc.2.1 _ _ e1 hh.1 e2 hh.2.1 hx9
      have t2 := s6_one (f := fun a => x a (eB e)) (j := eA e) R.toNat (fun i i1 i2 => hx i _ i1 (by omega) e2 hh.2.1) e1 (by omega)
      have t3 := (hc.2.2.2 _ e2 hh.2.1).2 (by omega)
      show (if f (eA e) ≤ th then f (eA e) - th else 0) + 1000000 ≤ (if f (6 + eB e) ≤ th then f (6 + eB e) - th else 0) + 1000000 + -(d (eA e) (eB e))
      (repeat' split) <;> omega
  have h9 := (srch_bd hR hg (fun v v1 v2 => ?_) h (6 + b) ⟨by omega, by omega⟩).1
  · have h8 := (hc.2.2.2 b hb.1 hb.2).1 hw
    have h9 : (if f (6 + b) ≤ th then f (6 + b) - th else 0) + 1000000 ≤ c (6 + b) := h9
    split at h9 <;> omega
  · show (if f v ≤ th then f v - th else 0) + 1000000 ≤ st0 R sp v
    have e0 : st0 R sp v = 1000000 := if_neg (fun z => by have := hs v v1 z.1; omega)
    rw [e0]
    split <;> omega
/-- the way back -/
def pth (R : Int) (d x0 x : Int → Int → Int) (f' c : Int → Int) (τ : Int → Nat) (g0 v : Int) : Prop :=
  onb R d x0 x f' c g0 v ∧ (∀ a b : Int, 0 ≤ a → a < R → 0 ≤ b → b < R → τ a ≤ τ v → x0 a b ≤ x a b) ∧ ((0 ≤ v ∧ v < R) ∨ (6 ≤ v ∧ v < 6 + R)) ∧ c v < 1000000 ∧ tot R d x = tot R d x0 + c (6 + g0) - c v
theorem pth_s {R th dt g0 v : Int} {d x0 x : Int → Int → Int} {sp wa f c fr : Int → Int} {τ : Int → Nat} (hR : R ≤ 6) (hc : cert R d x0 sp wa f th) (hd : ∀ a b : Int, 0 ≤ d a b) (h9 : fnd R d x0 sp f c fr τ) (hB : ∀ b : Int, 0 ≤ b → b < R → c (6 + b) < 1000000)
    (h : pth R d x0 x (newf f c dt) c τ g0 v) (hv : fr v ≠ -1) : (6 ≤ v ∧ (0 ≤ fr v ∧ fr v < R) ∧ pth R d x0 (ux x (fr v) (v - 6) (x (fr v) (v - 6) + 1)) (newf f c dt) c τ g0 (fr v) ∧ τ (fr v) < τ v) ∨
      ((v < 6 ∧ v < R) ∧ (6 ≤ fr v ∧ fr v < 6 + R) ∧ 0 < x v (fr v - 6) ∧ pth R d x0 (ux x v (fr v - 6) (x v (fr v - 6) - 1)) (newf f c dt) c τ g0 (fr v) ∧ τ (fr v) < τ v) := by
  obtain ⟨p1, p2, p3, p4, p5⟩ := h
  have hP := br_P hc
  rcases h9.2.2 v (by omega) (by omega) with z | ⟨e, e1, e2, e3, e4, e5, e6⟩
  · exact absurd z.1 hv
  · have hh := of_decide_eq_true e2
    have a1 : 0 ≤ eA e := Int.natCast_nonneg _
    have a2 : 0 ≤ eB e := Int.natCast_nonneg _
    have hd9 := hd (eA e) (eB e)
    have hcv := p1.2.2.2.2
    have hP9 := hP e e1 e2
    unfold newf at hcv
    by_cases q : e % 2 = 0
    · left
      unfold brT at e4 e5 e6 hP9
      unfold brH at e3 hP9
      unfold brW at e5 hP9
      rw [if_pos q] at e3 e4 e5 e6 hP9
      rw [if_pos q] at e5 hP9
      rw [if_pos q] at hP9
      rw [e3] at hP9
      rw [e4, show v - 6 = eB e by omega]
      have hca : newf f c dt (eA e) = c (eA e) := by
        unfold newf
        split at hcv
        · rw [if_pos (by omega)]
        · rw [if_pos (by omega)]
      refine ⟨by omega, ⟨a1, hh.1⟩, ⟨onb_f hR ⟨a1, hh.1⟩ ⟨a2, hh.2.1⟩ (by rw [e3]; exact p1) ?_ hca, fun a b i1 i2 j1 j2 ht => ?_, Or.inl ⟨a1, hh.1⟩, by omega, ?_⟩, e6⟩
      · rw [e3, hca, p1.2.2.2.2]; exact e5
      · have := p2 a b i1 i2 j1 j2 (by omega)
        unfold ux
        split
        · rename_i w; rw [← w.1, ← w.2]; omega
        · exact this
      · rw [tot_ux ⟨a1, hh.1⟩ ⟨a2, hh.2.1⟩, p5, show x (eA e) (eB e) + 1 - x (eA e) (eB e) = 1 by omega, Int.one_mul]
        omega
    · right
      have hx0 : 0 < x0 (eA e) (eB e) := by
        rcases hh.2.2 with w | w
        · exact absurd w q
        · exact w
      unfold brT at e4 e5 e6 hP9
      unfold brH at e3 hP9
      unfold brW at e5 hP9
      rw [if_neg q] at e3 e4 e5 e6 hP9
      rw [if_neg q] at e5 hP9
      rw [if_neg q] at hP9
      rw [e3] at hP9
      rw [e4, show 6 + eB e - 6 = eB e by omega]
      have hxv : x0 (eA e) (eB e) ≤ x (eA e) (eB e) := p2 _ _ a1 hh.1 a2 hh.2.1 (by rw [e3]; exact Nat.le_refl _)
      rw [e3] at hxv hx0 e5 hh a1
      have hca : newf f c dt (6 + eB e) = c (6 + eB e) := by
        unfold newf
        split at hcv
        · rw [if_pos (by omega)]
        · rw [if_pos (by omega)]
      refine ⟨by omega, by omega, by omega, ⟨onb_b hR ⟨a1, hh.1⟩ ⟨a2, hh.2.1⟩ p1 (by omega) hca, fun a b i1 i2 j1 j2 ht => ?_, Or.inr (by omega), hB _ a2 hh.2.1, ?_⟩, e6⟩
      · have := p2 a b i1 i2 j1 j2 (by omega)
        unfold ux
        split
        · rename_i w; rw [w.1] at ht; omega
        · exact this
      · rw [tot_ux ⟨a1, hh.1⟩ ⟨a2, hh.2.1⟩, p5, show x v (eB e) - 1 - x v (eB e) = -1 by omega]
        omega
/-- what holds from one brought to the next -/
def brI (R : Int) (d : Int → Int → Int) (s0 w0 : Int → Int) (x : Int → Int → Int) (sp wa : Int → Int) (A n : Int) : Prop :=
  (∀ a b : Int, 0 ≤ a → a < R → 0 ≤ b → b < R → 0 ≤ x a b) ∧ (∀ a : Int, 0 ≤ a → a < R → 0 ≤ sp a ∧ sp a + s6 (x a) R.toNat = s0 a) ∧ (∀ b : Int, 0 ≤ b → b < R → 0 ≤ wa b ∧ wa b + s6 (fun a => x a b) R.toNat = w0 b) ∧
  A = tot R d x ∧ n = s6 (fun a => s6 (x a) R.toNat) R.toNat ∧ aw_bx (∃ f th, cert R d x sp wa f th ∧ ∀ v : Int, 0 ≤ v → v < 12 → 0 ≤ f v ∧ f v ≤ 1000000)
theorem pth_0 {R dt g0 th : Int} {d x : Int → Int → Int} {sp wa f c : Int → Int} {τ : Int → Nat} (hg : 0 ≤ g0 ∧ g0 < R) (hx : ∀ a b : Int, 0 ≤ a → a < R → 0 ≤ b → b < R → 0 ≤ x a b) (hc : cert R d x sp wa (newf f c dt) th) (hB : c (6 + g0) < 1000000) (hf : newf f c dt (6 + g0) = c (6 + g0)) (hR : R ≤ 6) : pth R d x x (newf f c dt) c τ g0 (6 + g0) := by
  refine ⟨⟨fun a b _ _ _ _ => Or.inl (Int.le_refl _), fun a b a1 a2 b1 b2 => ⟨hx a b a1 a2 b1 b2, hc.2.1 a b a1 a2 b1 b2⟩, fun a a1 a2 => ?_, fun b b1 b2 => ?_, hf⟩, fun _ _ _ _ _ _ _ => Int.le_refl _, Or.inr (by omega), hB, by omega⟩
  · rw [if_neg (by omega)]; omega
  · by_cases q : b = g0
    · rw [if_pos q, if_pos (by omega)]; omega
    · rw [if_neg q, if_neg (by omega)]; omega
theorem pth_e {R th g0 v A n : Int} {d x0 x : Int → Int → Int} {s0 w0 sp wa f c fr : Int → Int} {τ : Int → Nat} (hR : 0 ≤ R ∧ R ≤ 6) (hg : 0 ≤ g0 ∧ g0 < R) (hI : brI R d s0 w0 x0 sp wa A n) (hc : cert R d x0 sp wa f th) (hf : ∀ v : Int, 0 ≤ v → v < 12 → 0 ≤ f v ∧ f v ≤ 1000000) (h9 : fnd R d x0 sp f c fr τ) (hth : th ≤ c (6 + g0))
    (hw9 : ∀ b : Int, 0 ≤ b → b < R → 0 < wa b → c (6 + g0) ≤ c (6 + b)) (hg9 : 0 < wa g0) (h : pth R d x0 x (newf f c (c (6 + g0) - th)) c τ g0 v) (hv : fr v = -1) :
    (0 ≤ v ∧ v < R ∧ 0 < sp v) ∧ brI R d s0 w0 x (uf sp v (sp v - 1)) (uf wa g0 (wa g0 - 1)) (A + c (6 + g0)) (n + 1) := by
  obtain ⟨⟨p0, p1, p2, p3, p4⟩, p5, p6, p7, p8⟩ := h
  have hlo : ∀ u : Int, 0 ≤ u → u < 12 → f u ≤ c u ∧ c u ≤ st0 R sp u := h9.2.1
  have hst : c v = st0 R sp v := by
    rcases h9.2.2 v (by omega) (by omega) with z | ⟨e, e1, e2, e3, e4, e5, e6⟩
    · exact z.2
    · have hV := br_V (x := x0) hR.2 e e1 e2
      omega
  have hsv : (v < R ∧ 0 < sp v) ∧ c v = 0 := by
    unfold st0 at hst
    split at hst
    · rename_i q; exact ⟨q, hst⟩
    · omega
  have hv0 : 0 ≤ v := by omega
  have hvR := hsv.1.1
  have hN := cert_n (th' := c (6 + g0)) hR hth hc h9.1 (fun a a1 a2 => ⟨fun z => by have := (hlo a a1 (by omega)).2; unfold st0 at this; rw [if_pos ⟨a2, z⟩] at this; exact this, fun _ => by have := hlo a a1 (by omega); have := hf a a1 (by omega); omega⟩) hw9
  obtain ⟨i1, i2, i3, i4, i5, -⟩ := hI
  refine ⟨⟨hv0, hvR, hsv.1.2⟩, fun a b a1 a2 b1 b2 => (p1 a b a1 a2 b1 b2).1, fun a a1 a2 => ?_, fun b b1 b2 => ?_, ?_, ?_, aw_mb ⟨newf f c (c (6 + g0) - th), c (6 + g0), ⟨hN.1, fun a b a1 a2 b1 b2 => (p1 a b a1 a2 b1 b2).2, fun a a1 a2 => ⟨fun z => (hN.2.2.1 a a1 a2).1 ?_, fun _ => ?_⟩, fun b b1 b2 => ⟨fun z => (hN.2.2.2 b b1 b2).1 ?_, fun z => ?_⟩⟩, fun u u1 u2 => ?_⟩⟩
  · have e := i2 a a1 a2
    have e2 := p2 a a1 a2
    by_cases q : a = v
    · rw [q, uf_eq, ← q]
      rw [if_pos q.symm] at e2
      have := hsv.1.2
      rw [← q] at this
      omega
    · rw [uf_ne q]
      rw [if_neg (fun z => q z.symm)] at e2
      omega
  · have e := i3 b b1 b2
    have e2 := p3 b b1 b2
    rw [if_neg (show ¬ v = 6 + b by omega)] at e2
    by_cases q : b = g0
    · rw [q, uf_eq, ← q]
      rw [if_pos q] at e2
      rw [← q] at hg9
      omega
    · rw [uf_ne q]
      rw [if_neg q] at e2
      omega
  · rw [p8, i4, hsv.2]; omega
  · have e9 : s6 (fun a => s6 (x a) R.toNat) R.toNat = s6 (fun a => s6 (x0 a) R.toNat + (if a = v then 1 else 0)) R.toNat := s6_cg _ (fun a a1 a2 => by
      rw [p2 a a1 (by omega)]
      by_cases q : a = v
      · rw [if_pos q, if_pos q.symm]
      · rw [if_neg q, if_neg (fun z => q z.symm)])
    rw [i5, e9, s6_add (f := fun a => s6 (x0 a) R.toNat) (g := fun a => if a = v then 1 else 0), s6_pt, if_pos (by omega)]
  · unfold uf at z
    split at z
    · rename_i q; rw [q]; exact hsv.1.2
    · exact z
  · have h1 := hlo a a1 (by omega)
    have h2 := hf a a1 (by omega)
    unfold newf
    split <;> omega
  · unfold uf at z
    split at z
    · rename_i q; rw [q]; exact hg9
    · exact z
  · have e2 := p3 b b1 b2
    rw [if_neg (show ¬ v = 6 + b by omega)] at e2
    by_cases q : b = g0
    · have hq := (hc.2.2.2 g0 hg.1 hg.2).1 hg9
      rw [q]
      unfold newf
      rw [if_pos (by omega)]
      exact Int.le_refl _
    · rw [if_neg q] at e2
      exact (hN.2.2.2 b b1 b2).2 (by omega)
  · have h1 := hlo u u1 u2
    have h2 := hf u u1 u2
    have h3 : c u ≤ 1000000 := by
      have := h1.2
      unfold st0 at this
      split at this <;> omega
    unfold newf
    split <;> omega
