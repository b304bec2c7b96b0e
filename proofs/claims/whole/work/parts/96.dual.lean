/-! ===== cabs brought: over each stretch, against rank to rank ===== -/
def dpS (c n : Int → Int) (s st K : Int) : Int → Int := fun t => if (0 ≤ t - s ∧ t - s < K ∧ 0 ≤ t ∧ t ≤ 32) ∧ c (t - s) < 1000000 ∧ c (t - s) + aw_ap t 16 * st < n t then c (t - s) + aw_ap t 16 * st else n t
def dpN (c : Int → Int) (lo st : Int) : Nat → Int → Int
  | 0 => fun _ => 1000000
  | j + 1 => dpS c (dpN c lo st j) (lo + (j : Int)) st 33
def dpC (lo hi st : Int → Int) : Nat → Int → Int
  | 0 => fun t => if t = 16 then 0 else 1000000
  | k + 1 => dpN (dpC lo hi st k) (lo (k : Int)) (st (k : Int)) (hi (k : Int) - lo (k : Int) + 1).toNat
theorem dpN_hi {c : Int → Int} {lo st t : Int} : ∀ j : Nat, dpN c lo st j t ≤ 1000000
  | 0 => Int.le_refl _
  | j + 1 => by
    have ih := dpN_hi (c := c) (lo := lo) (st := st) (t := t) j
    show dpS c (dpN c lo st j) (lo + (j : Int)) st 33 t ≤ 1000000
    unfold dpS
    split <;> omega
theorem dpC_hi {lo hi st : Int → Int} {t : Int} : ∀ k : Nat, dpC lo hi st k t ≤ 1000000
  | 0 => by show (if t = 16 then (0 : Int) else 1000000) ≤ 1000000; split <;> omega
  | k + 1 => dpN_hi _
/-- from below -/
theorem dpN_lo {c : Int → Int} {lo st t b : Int} : ∀ j : Nat, (∀ s : Int, lo ≤ s → s < lo + (j : Int) → 0 ≤ t - s → t - s ≤ 32 → c (t - s) < 1000000 → b ≤ c (t - s) + aw_ap t 16 * st) → 1000000 ≤ dpN c lo st j t ∨ b ≤ dpN c lo st j t
  | 0, _ => Or.inl (Int.le_refl _)
  | j + 1, h => by
    have ih := dpN_lo (c := c) (lo := lo) (st := st) (t := t) (b := b) j (fun s s1 s2 => h s s1 (by omega))
    show 1000000 ≤ dpS c (dpN c lo st j) (lo + (j : Int)) st 33 t ∨ b ≤ dpS c (dpN c lo st j) (lo + (j : Int)) st 33 t
    unfold dpS
    split
    · rename_i q; exact Or.inr (h _ (by omega) (by omega) (by omega) (by omega) q.2.1)
    · exact ih
theorem ap_mul {t st δ : Int} (h : -st ≤ δ ∧ δ ≤ st) : (t - 16) * δ ≤ aw_ap t 16 * st := by
  unfold aw_ap
  split
  · exact Int.mul_le_mul_of_nonneg_left h.2 (by omega)
  · have h9 : (16 - t) * (-δ) ≤ (16 - t) * st := Int.mul_le_mul_of_nonneg_left (by omega) (by omega)
    have e : (t - 16) * δ = (16 - t) * (-δ) := by
      rw [Int.mul_neg, ← Int.neg_mul]
      congr 1
      omega
    omega
theorem dpC_lo {lo hi st ψ v : Int → Int} {R : Nat} (h1 : ∀ k : Int, 0 ≤ k → k < (R : Int) → -(st k) ≤ ψ (k + 1) - ψ k ∧ ψ (k + 1) - ψ k ≤ st k) (h2 : ∀ k s : Int, 0 ≤ k → k < (R : Int) → lo k ≤ s → s ≤ hi k → v k ≤ -(s * ψ k)) :
    ∀ (k : Nat), k ≤ R → ∀ t : Int, 1000000 ≤ dpC lo hi st k t ∨ (t - 16) * ψ (k : Int) + s6 v k ≤ dpC lo hi st k t
  | 0, _, t => by
    show 1000000 ≤ (if t = 16 then (0 : Int) else 1000000) ∨ (t - 16) * ψ 0 + 0 ≤ (if t = 16 then (0 : Int) else 1000000)
    by_cases q : t = 16
    · rw [if_pos q, q]; right; rw [Int.sub_self, Int.zero_mul]; omega
    · rw [if_neg q]; left; exact Int.le_refl _
  | k + 1, hk, t => by
    refine dpN_lo _ (fun s s1 s2 s3 s4 s5 => ?_)
    rcases dpC_lo h1 h2 k (by omega) (t - s) with z | z
    · omega
    · have e1 := h1 (k : Int) (by omega) (by omega)
      have e2 := h2 (k : Int) s (by omega) (by omega) s1 (by omega)
      have e3 := ap_mul (t := t) e1
      show (t - 16) * ψ ((k : Int) + 1) + (s6 v k + v (k : Int)) ≤ _
      have e4 : (t - s - 16) * ψ (k : Int) = (t - 16) * ψ (k : Int) - s * ψ (k : Int) := by rw [← Int.sub_mul]; congr 1; omega
      have e5 : (t - 16) * (ψ ((k : Int) + 1) - ψ (k : Int)) = (t - 16) * ψ ((k : Int) + 1) - (t - 16) * ψ (k : Int) := Int.mul_sub ..
      omega
/-- from above -/
theorem dpN_up {c : Int → Int} {lo st t s : Int} : ∀ j : Nat, (lo ≤ s ∧ s < lo + (j : Int)) → (0 ≤ t - s ∧ t - s ≤ 32) → (0 ≤ t ∧ t ≤ 32) → c (t - s) < 1000000 → dpN c lo st j t ≤ c (t - s) + aw_ap t 16 * st
  | 0, h, _, _, _ => by omega
  | j + 1, h, g1, g2, g3 => by
    show dpS c (dpN c lo st j) (lo + (j : Int)) st 33 t ≤ _
    by_cases q : s = lo + (j : Int)
    · unfold dpS
      rw [← q]
      split
      · exact Int.le_refl _
      · rename_i z
        rcases Int.lt_or_le (c (t - s) + aw_ap t 16 * st) (dpN c lo st j t) with y | y
        · exact absurd ⟨by omega, g3, y⟩ z
        · exact y
    · have ih := dpN_up (c := c) (lo := lo) (st := st) (t := t) (s := s) j (by omega) g1 g2 g3
      unfold dpS
      split
      · rename_i z; omega
      · exact ih
def upS (st S : Int → Int) : Nat → Int
  | 0 => 0
  | k + 1 => upS st S k + aw_ap (16 + S ((k : Int) + 1)) 16 * st (k : Int)
theorem upS_b {st S : Int → Int} {R : Nat} (h1 : ∀ k : Int, 0 ≤ k → k < (R : Int) → 0 ≤ st k ∧ st k ≤ 99) (h2 : ∀ k : Int, 0 ≤ k → k ≤ (R : Int) → -16 ≤ S k ∧ S k ≤ 16) : ∀ k : Nat, k ≤ R → 0 ≤ upS st S k ∧ upS st S k ≤ 1584 * (k : Int)
  | 0, _ => by show 0 ≤ (0 : Int) ∧ (0 : Int) ≤ 1584 * 0; omega
  | k + 1, hk => by
    have ih := upS_b h1 h2 k (by omega)
    have e1 := h1 (k : Int) (by omega) (by omega)
    have e2 := h2 ((k : Int) + 1) (by omega) (by omega)
    have e3 : 0 ≤ aw_ap (16 + S ((k : Int) + 1)) 16 ∧ aw_ap (16 + S ((k : Int) + 1)) 16 ≤ 16 := by unfold aw_ap; split <;> omega
    have e4 := Int.mul_nonneg e3.1 e1.1
    have e5 : aw_ap (16 + S ((k : Int) + 1)) 16 * st (k : Int) ≤ 16 * 99 := Int.mul_le_mul e3.2 e1.2 e1.1 (by omega)
    show 0 ≤ upS st S k + _ ∧ upS st S k + _ ≤ 1584 * (((k + 1 : Nat)) : Int)
    omega
theorem dpC_up {lo hi st s S : Int → Int} {R : Nat} (hR : R ≤ 6) (h0 : S 0 = 0) (h1 : ∀ k : Int, 0 ≤ k → k < (R : Int) → 0 ≤ st k ∧ st k ≤ 99) (h2 : ∀ k : Int, 0 ≤ k → k ≤ (R : Int) → -16 ≤ S k ∧ S k ≤ 16) (h3 : ∀ k : Int, 0 ≤ k → k < (R : Int) → S (k + 1) = S k + s k ∧ lo k ≤ s k ∧ s k ≤ hi k) :
    ∀ k : Nat, k ≤ R → dpC lo hi st k (16 + S (k : Int)) ≤ upS st S k
  | 0, _ => by show (if 16 + S 0 = 16 then (0 : Int) else 1000000) ≤ 0; rw [if_pos (by omega)]; exact Int.le_refl _
  | k + 1, hk => by
    have ih := dpC_up (lo := lo) (hi := hi) hR h0 h1 h2 h3 k (by omega)
    have hb := upS_b h1 h2 k (by omega)
    have e1 := h2 (k : Int) (by omega) (by omega)
    have e2 := h2 ((k : Int) + 1) (by omega) (by omega)
    have e3 := h3 (k : Int) (by omega) (by omega)
    have e4 : 16 + S ((k : Int) + 1) - s (k : Int) = 16 + S (k : Int) := by omega
    show dpN (dpC lo hi st k) (lo (k : Int)) (st (k : Int)) (hi (k : Int) - lo (k : Int) + 1).toNat (16 + S ((k : Int) + 1)) ≤ upS st S k + _
    have h9 := dpN_up (c := dpC lo hi st k) (lo := lo (k : Int)) (st := st (k : Int)) (t := 16 + S ((k : Int) + 1)) (s := s (k : Int)) (hi (k : Int) - lo (k : Int) + 1).toNat (by omega) (by omega) (by omega) (by rw [e4]; omega)
    rw [e4] at h9
    omega
/-- sums by parts -/
def upF (st S : Int → Int) : Nat → Int
  | 0 => 0
  | k + 1 => upF st S k + (if 0 ≤ S ((k : Int) + 1) then st (k : Int) else -(st (k : Int)))
theorem upS_F {st S s : Int → Int} {R : Nat} (h0 : S 0 = 0) (h3 : ∀ k : Int, 0 ≤ k → k < (R : Int) → S (k + 1) = S k + s k) : ∀ k : Nat, k ≤ R → upS st S k = S (k : Int) * upF st S k - s6 (fun j => s j * upF st S j.toNat) k
  | 0, _ => by show (0 : Int) = S 0 * 0 - 0; rw [Int.mul_zero]; rfl
  | k + 1, hk => by
    have ih := upS_F (st := st) h0 h3 k (by omega)
    have e3 := h3 (k : Int) (by omega) (by omega)
    show upS st S k + aw_ap (16 + S ((k : Int) + 1)) 16 * st (k : Int) = S ((k : Int) + 1) * (upF st S k + (if 0 ≤ S ((k : Int) + 1) then st (k : Int) else -(st (k : Int)))) - (s6 (fun j => s j * upF st S j.toNat) k + s (k : Int) * upF st S (k : Int).toNat)
    rw [Int.toNat_natCast]
    have e4 : aw_ap (16 + S ((k : Int) + 1)) 16 * st (k : Int) = S ((k : Int) + 1) * (if 0 ≤ S ((k : Int) + 1) then st (k : Int) else -(st (k : Int))) := by
      unfold aw_ap
      split
      · rw [if_pos (by omega)]; congr 1; omega
      · split
        · have : S ((k : Int) + 1) = 0 := by omega
          rw [this]; simp
        · rw [Int.mul_neg, ← Int.neg_mul]; congr 1; omega
    have e5 : S ((k : Int) + 1) * upF st S k = S (k : Int) * upF st S k + s (k : Int) * upF st S k := by rw [e3, Int.add_mul]
    rw [e4, ih, Int.mul_add]
    omega
/-- how many places lie below -/
def pbl (p : Int → Int) (R : Int) (v : Int) : Int := s6 (fun r => if p r < v then 1 else 0) R.toNat
/-- the places in their order -/
def ordOK (p : Int → Int) (R : Int) (od : Int → Int) : Prop := ∀ r : Int, 0 ≤ r → r < R → od (pbl p R (p r)) = r
theorem pbl_mono {p : Int → Int} {R u v : Int} (h : u ≤ v) : pbl p R u ≤ pbl p R v := s6_le _ (fun i _ _ => by (repeat' split) <;> omega)
theorem pbl_lt {p : Int → Int} {R r v : Int} (hr : 0 ≤ r ∧ r < R) (h : p r < v) : pbl p R (p r) < pbl p R v := by
  unfold pbl
  have h9 : s6 (fun i => (if p i < p r then 1 else 0) + (if i = r then 1 else 0)) R.toNat ≤ s6 (fun i => if p i < v then 1 else 0) R.toNat := s6_le _ (fun i _ _ => by
    by_cases q : i = r
    · rw [q, if_neg (Int.lt_irrefl _), if_pos rfl, if_pos h]; decide
    · rw [if_neg q]; (repeat' split) <;> omega)
  rw [s6_add (f := fun i => if p i < p r then 1 else 0) (g := fun i => if i = r then 1 else 0), s6_pt, if_pos (by omega)] at h9
  omega
theorem s6_c1 : ∀ n : Nat, s6 (fun _ => (1 : Int)) n = (n : Int)
  | 0 => rfl
  | n + 1 => by show s6 (fun _ => (1 : Int)) n + 1 = _; rw [s6_c1 n]; omega
theorem pbl_b {p : Int → Int} {R r : Int} (hr : 0 ≤ r ∧ r < R) : 0 ≤ pbl p R (p r) ∧ pbl p R (p r) < R := by
  refine ⟨s6_nn _ (fun i _ _ => by show 0 ≤ (if p i < p r then (1 : Int) else 0); split <;> omega), ?_⟩
  have h9 : s6 (fun i => (if p i < p r then 1 else 0) + (if i = r then 1 else 0)) R.toNat ≤ s6 (fun _ => (1 : Int)) R.toNat := s6_le _ (fun i _ _ => by
    by_cases q : i = r
    · rw [q, if_neg (Int.lt_irrefl _), if_pos rfl]; decide
    · rw [if_neg q]; split <;> omega)
  rw [s6_add (f := fun i => if p i < p r then 1 else 0) (g := fun i => if i = r then 1 else 0), s6_pt, if_pos (by omega), s6_c1] at h9
  unfold pbl
  omega
section ORD
variable {p : Int → Int} {R : Int} {od : Int → Int}
theorem pbl_inj (hp : ∀ r s : Int, 0 ≤ r → r < R → 0 ≤ s → s < R → p r = p s → r = s) {r s : Int} (hr : 0 ≤ r ∧ r < R) (hs : 0 ≤ s ∧ s < R) (h : pbl p R (p r) = pbl p R (p s)) : r = s := by
  rcases Int.lt_trichotomy (p r) (p s) with q | q | q
  · have := pbl_lt hr q; omega
  · exact hp r s hr.1 hr.2 hs.1 hs.2 q
  · have := pbl_lt hs q; omega
theorem pbl_sj (hp : ∀ r s : Int, 0 ≤ r → r < R → 0 ≤ s → s < R → p r = p s → r = s) {k : Int} (hk : 0 ≤ k ∧ k < R) : ∃ r : Int, (0 ≤ r ∧ r < R) ∧ pbl p R (p r) = k := by
  by_cases q : ∃ r : Int, (0 ≤ r ∧ r < R) ∧ pbl p R (p r) = k
  · exact q
  · exfalso
    obtain ⟨n, hn⟩ : ∃ n : Nat, R = (n : Int) + 1 := ⟨(R - 1).toNat, by omega⟩
    obtain ⟨i, j, h1, h2, h3⟩ := pigI (n := n) (fun i => if pbl p R (p (i : Int)) < k then pbl p R (p (i : Int)) else pbl p R (p (i : Int)) - 1) (fun i hi => by
      have hb := pbl_b (p := p) (R := R) (r := (i : Int)) (by omega)
      have hne : pbl p R (p (i : Int)) ≠ k := fun z => q ⟨(i : Int), by omega, z⟩
      show 0 ≤ (if pbl p R (p (i : Int)) < k then pbl p R (p (i : Int)) else pbl p R (p (i : Int)) - 1) ∧ (if pbl p R (p (i : Int)) < k then pbl p R (p (i : Int)) else pbl p R (p (i : Int)) - 1) < (n : Int)
      split <;> omega)
    have h3 : (if pbl p R (p (i : Int)) < k then pbl p R (p (i : Int)) else pbl p R (p (i : Int)) - 1) = (if pbl p R (p (j : Int)) < k then pbl p R (p (j : Int)) else pbl p R (p (j : Int)) - 1) := h3
    have n1 : pbl p R (p (i : Int)) ≠ k := fun z => q ⟨(i : Int), by omega, z⟩
    have n2 : pbl p R (p (j : Int)) ≠ k := fun z => q ⟨(j : Int), by omega, z⟩
    have := pbl_inj hp (r := (i : Int)) (s := (j : Int)) (by omega) (by omega) (by split at h3 <;> split at h3 <;> omega)
    omega
theorem od_b (hp : ∀ r s : Int, 0 ≤ r → r < R → 0 ≤ s → s < R → p r = p s → r = s) (ho : ordOK p R od) {k : Int} (hk : 0 ≤ k ∧ k < R) : (0 ≤ od k ∧ od k < R) ∧ pbl p R (p (od k)) = k := by
  obtain ⟨r, r1, r2⟩ := pbl_sj hp hk
  have := ho r r1.1 r1.2
  rw [r2] at this
  rw [this]
  exact ⟨r1, r2⟩
/-- the sum of the first k -/
def psum (p : Int → Int) (R : Int) (g : Int → Int) (k : Int) : Int := s6 (fun r => if pbl p R (p r) < k then g r else 0) R.toNat
theorem psum_s (hp : ∀ r s : Int, 0 ≤ r → r < R → 0 ≤ s → s < R → p r = p s → r = s) (ho : ordOK p R od) (g : Int → Int) {k : Int} (hk : 0 ≤ k ∧ k < R) : psum p R g (k + 1) = psum p R g k + g (od k) := by
  obtain ⟨o1, o2⟩ := od_b hp ho hk
  unfold psum
  rw [s6_cg (g := fun r => (if pbl p R (p r) < k then g r else 0) + (if r = od k then g (od k) else 0)) R.toNat (fun r r1 r2 => by
    by_cases q : r = od k
    · rw [q, o2, if_pos (by omega), if_neg (by omega), if_pos rfl]; omega
    · have : pbl p R (p r) ≠ k := fun z => q (pbl_inj hp ⟨r1, by omega⟩ o1 (by rw [z, o2]))
      rw [if_neg q]
      by_cases y : pbl p R (p r) < k
      · rw [if_pos y, if_pos (by omega)]; omega
      · rw [if_neg y, if_neg (by omega)]; rfl), s6_add (f := fun r => if pbl p R (p r) < k then g r else 0) (g := fun r => if r = od k then g (od k) else 0), s6_pt, if_pos (by omega)]
theorem psum_0 (g : Int → Int) : psum p R g 0 = 0 := by
  unfold psum
  rw [s6_cg (g := fun _ => (0 : Int)) R.toNat (fun r r1 r2 => by
    have := pbl_b (p := p) (R := R) (r := r) (by omega)
    rw [if_neg (by omega)]), s6_z]
theorem psum_R (g : Int → Int) : psum p R g R = s6 g R.toNat := s6_cg _ (fun r r1 r2 => by
  have := pbl_b (p := p) (R := R) (r := r) (by omega)
  rw [if_pos (by omega)])
theorem psum_o (hp : ∀ r s : Int, 0 ≤ r → r < R → 0 ≤ s → s < R → p r = p s → r = s) (ho : ordOK p R od) (g : Int → Int) : ∀ k : Nat, (k : Int) ≤ R → s6 (fun j => g (od j)) k = psum p R g (k : Int)
  | 0, _ => by show (0 : Int) = psum p R g 0; rw [psum_0]
  | k + 1, hk => by
    show s6 (fun j => g (od j)) k + g (od (k : Int)) = psum p R g ((k : Int) + 1)
    rw [psum_o hp ho g k (by omega), psum_s hp ho g (by omega)]
theorem od_lt (hp : ∀ r s : Int, 0 ≤ r → r < R → 0 ≤ s → s < R → p r = p s → r = s) (ho : ordOK p R od) {i j : Int} (hi : 0 ≤ i) (hij : i < j) (hj : j < R) : p (od i) < p (od j) := by
  obtain ⟨o1, o2⟩ := od_b hp ho (k := i) (by omega)
  obtain ⟨o3, o4⟩ := od_b hp ho (k := j) (by omega)
  rcases Int.lt_or_le (p (od i)) (p (od j)) with q | q
  · exact q
  · have := pbl_mono (p := p) (R := R) q
    omega
end ORD
