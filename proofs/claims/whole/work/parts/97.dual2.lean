/-! ===== both ways of bringing cost the same ===== -/
theorem s6_nat {g h : Int → Int} {x : Int → Int → Int} (R : Nat) : s6 (fun a => s6 (fun b => x a b * (h b - g a)) R) R = s6 (fun r => s6 (fun a => x a r) R * h r - s6 (x r) R * g r) R := by
  have e1 : ∀ a : Int, s6 (fun b => x a b * (h b - g a)) R = s6 (fun b => x a b * h b) R - s6 (x a) R * g a := fun a => by
    rw [s6_cg (g := fun b => x a b * h b - x a b * g a) R (fun b _ _ => Int.mul_sub ..), s6_sub (f := fun b => x a b * h b) (g := fun b => x a b * g a), s6_mul]
  rw [s6_cg (g := fun a => s6 (fun b => x a b * h b) R - s6 (x a) R * g a) R (fun a _ _ => e1 a), s6_sub (f := fun a => s6 (fun b => x a b * h b) R) (g := fun a => s6 (x a) R * g a), s6_sub (f := fun r => s6 (fun a => x a r) R * h r) (g := fun r => s6 (x r) R * g r)]
  rw [s6_sw (y := fun a b => x a b * h b) R R]
  rw [s6_cg (f := fun b => s6 (fun a => x a b * h b) R) (g := fun r => s6 (fun a => x a r) R * h r) R (fun b _ _ => s6_mul (f := fun a => x a b) R)]
def mnF (g : Int → Int) : Nat → Int
  | 0 => g 0
  | k + 1 => if g ((k : Int) + 1) < mnF g k then g ((k : Int) + 1) else mnF g k
theorem mnF_le {g : Int → Int} : ∀ (k : Nat) (a : Int), 0 ≤ a → a ≤ (k : Int) → mnF g k ≤ g a
  | 0, a, a1, a2 => by rw [show a = 0 by omega]; exact Int.le_refl _
  | k + 1, a, a1, a2 => by
    unfold mnF
    by_cases q : a = (k : Int) + 1
    · rw [q]; split <;> omega
    · have := mnF_le (g := g) k a a1 (by omega)
      split <;> omega
theorem mnF_at {g : Int → Int} : ∀ k : Nat, ∃ a : Int, (0 ≤ a ∧ a ≤ (k : Int)) ∧ mnF g k = g a
  | 0 => ⟨0, by omega, rfl⟩
  | k + 1 => by
    unfold mnF
    split
    · exact ⟨(k : Int) + 1, by omega, rfl⟩
    · obtain ⟨a, a1, a2⟩ := mnF_at (g := g) k
      exact ⟨a, by omega, a2⟩
def ovS (ov : Int → Int) (r : Int) : Int := if 0 < ov r then ov r else 0
def ovW (ov : Int → Int) (r : Int) : Int := if 0 < -(ov r) then -(ov r) else 0
def loR (ov : Int → Int) (R r : Int) : Int := if 0 < ov r then (if s6 (ovS ov) R.toNat ≤ s6 (ovW ov) R.toNat then ov r else 0) else ov r
def hiR (ov : Int → Int) (R r : Int) : Int := if 0 < ov r then ov r else (if s6 (ovW ov) R.toNat ≤ s6 (ovS ov) R.toNat then ov r else 0)
def stK (p od : Int → Int) (R k : Int) : Int := if k + 1 < R then p (od (k + 1)) - p (od k) else 0
theorem sgn_mul {a b c : Int} (h1 : a < b → 0 ≤ c) (h2 : b < a → c ≤ 0) : a * c ≤ b * c := by
  rcases Int.lt_trichotomy a b with q | q | q
  · exact Int.mul_le_mul_of_nonneg_right (by omega) (h1 q)
  · rw [q]; exact Int.le_refl _
  · have h9 := Int.mul_le_mul_of_nonneg_right (c := -c) (show b ≤ a by omega) (by have := h2 q; omega)
    rw [Int.mul_neg, Int.mul_neg] at h9
    omega
section DU
variable {R : Int} {p od ov : Int → Int} {x : Int → Int → Int} {sp wa : Int → Int} {A n : Int}
theorem br_fin (hR : 0 ≤ R ∧ R ≤ 6) {d : Int → Int → Int} (hI : brI R d (ovS ov) (ovW ov) x sp wa A n) (hE : (∀ a : Int, 0 ≤ a → a < R → sp a ≤ 0) ∨ (∀ b : Int, 0 ≤ b → b < R → wa b ≤ 0)) :
    n = s6 (fun r => s6 (fun a => x a r) R.toNat) R.toNat ∧ s6 sp R.toNat + n = s6 (ovS ov) R.toNat ∧ s6 wa R.toNat + n = s6 (ovW ov) R.toNat ∧ (s6 (ovS ov) R.toNat ≤ s6 (ovW ov) R.toNat → ∀ a : Int, 0 ≤ a → a < R → sp a = 0) ∧ (s6 (ovW ov) R.toNat ≤ s6 (ovS ov) R.toNat → ∀ b : Int, 0 ≤ b → b < R → wa b = 0) ∧
    n = (if s6 (ovS ov) R.toNat < s6 (ovW ov) R.toNat then s6 (ovS ov) R.toNat else s6 (ovW ov) R.toNat) := by
  obtain ⟨i1, i2, i3, i4, i5, -⟩ := hI
  have e1 : n = s6 (fun r => s6 (fun a => x a r) R.toNat) R.toNat := i5.trans (s6_sw _ _)
  have e2 : s6 sp R.toNat + n = s6 (ovS ov) R.toNat := by
    rw [i5, ← s6_add (f := sp) (g := fun a => s6 (x a) R.toNat)]
    exact s6_cg _ (fun a a1 a2 => (i2 a a1 (by omega)).2)
  have e3 : s6 wa R.toNat + n = s6 (ovW ov) R.toNat := by
    rw [e1, ← s6_add (f := wa) (g := fun r => s6 (fun a => x a r) R.toNat)]
    exact s6_cg _ (fun a a1 a2 => (i3 a a1 (by omega)).2)
  have n1 := s6_nn (f := sp) R.toNat (fun a a1 a2 => (i2 a a1 (by omega)).1)
  have n2 := s6_nn (f := wa) R.toNat (fun a a1 a2 => (i3 a a1 (by omega)).1)
  have z1 : (∀ a : Int, 0 ≤ a → a < R → sp a ≤ 0) → s6 sp R.toNat ≤ 0 := fun h => by
    have := s6_le (f := sp) (g := fun _ => (0 : Int)) R.toNat (fun a a1 a2 => h a a1 (by omega))
    rw [s6_z] at this
    exact this
  have z2 : (∀ a : Int, 0 ≤ a → a < R → wa a ≤ 0) → s6 wa R.toNat ≤ 0 := fun h => by
    have := s6_le (f := wa) (g := fun _ => (0 : Int)) R.toNat (fun a a1 a2 => h a a1 (by omega))
    rw [s6_z] at this
    exact this
  have hE' : s6 sp R.toNat ≤ 0 ∨ s6 wa R.toNat ≤ 0 := hE.imp z1 z2
  refine ⟨e1, e2, e3, fun h a a1 a2 => ?_, fun h a a1 a2 => ?_, by split <;> omega⟩
  · have := s6_one (f := sp) (j := a) R.toNat (fun a a1 a2 => (i2 a a1 (by omega)).1) a1 (by omega)
    have := (i2 a a1 a2).1
    omega
  · have := s6_one (f := wa) (j := a) R.toNat (fun a a1 a2 => (i3 a a1 (by omega)).1) a1 (by omega)
    have := (i3 a a1 a2).1
    omega
theorem upF_lip {S : Int → Int} (hp : ∀ r s : Int, 0 ≤ r → r < R → 0 ≤ s → s < R → p r = p s → r = s) (ho : ordOK p R od) (i : Nat) : ∀ m : Nat, ((i + m : Nat) : Int) < R → -(p (od ((i + m : Nat) : Int)) - p (od (i : Int))) ≤ upF (stK p od R) S (i + m) - upF (stK p od R) S i ∧ upF (stK p od R) S (i + m) - upF (stK p od R) S i ≤ p (od ((i + m : Nat) : Int)) - p (od (i : Int))
  | 0, _ => by
    rw [Nat.add_zero]
    omega
  | m + 1, h => by
    have ih := upF_lip (S := S) hp ho i m (by omega)
    have hlt := od_lt hp ho (i := ((i + m : Nat) : Int)) (j := ((i + m : Nat) : Int) + 1) (by omega) (by omega) (by omega)
    have e : ((i + (m + 1) : Nat) : Int) = ((i + m : Nat) : Int) + 1 := by omega
    rw [e]
    show -(p (od (((i + m : Nat) : Int) + 1)) - p (od (i : Int))) ≤ upF (stK p od R) S (i + m) + (if 0 ≤ S (((i + m : Nat) : Int) + 1) then stK p od R ((i + m : Nat) : Int) else -(stK p od R ((i + m : Nat) : Int))) - upF (stK p od R) S i ∧ upF (stK p od R) S (i + m) + (if 0 ≤ S (((i + m : Nat) : Int) + 1) then stK p od R ((i + m : Nat) : Int) else -(stK p od R ((i + m : Nat) : Int))) - upF (stK p od R) S i ≤ p (od (((i + m : Nat) : Int) + 1)) - p (od (i : Int))
    unfold stK at ih ⊢
    rw [if_pos (show ((i + m : Nat) : Int) + 1 < R by omega)]
    split <;> omega
theorem dual (hR : 1 ≤ R ∧ R ≤ 6) (hp : ∀ r s : Int, 0 ≤ r → r < R → 0 ≤ s → s < R → p r = p s → r = s) (hpb : ∀ r : Int, 0 ≤ r → r < R → 0 ≤ p r ∧ p r ≤ 99) (ho : ordOK p R od) (h16 : s6 (ovS ov) R.toNat ≤ 16)
    (hI : brI R (fun a b => aw_ap (p a) (p b)) (ovS ov) (ovW ov) x sp wa A n) (hE : (∀ a : Int, 0 ≤ a → a < R → sp a ≤ 0) ∨ (∀ b : Int, 0 ≤ b → b < R → wa b ≤ 0)) :
    dpC (fun k => loR ov R (od k)) (fun k => hiR ov R (od k)) (stK p od R) R.toNat 16 = A := by
  obtain ⟨f1, f2, f3, f4, f5, f6⟩ := br_fin (by omega) hI hE
  obtain ⟨i1, i2, i3, i4, i5, i6⟩ := hI
  have hout : ∀ r : Int, 0 ≤ r → r < R → 0 ≤ s6 (x r) R.toNat ∧ s6 (x r) R.toNat = ovS ov r - sp r := fun r r1 r2 => ⟨s6_nn _ (fun b b1 b2 => i1 r b r1 r2 b1 (by omega)), by have := (i2 r r1 r2).2; omega⟩
  have hinn : ∀ r : Int, 0 ≤ r → r < R → 0 ≤ s6 (fun a => x a r) R.toNat ∧ s6 (fun a => x a r) R.toNat = ovW ov r - wa r := fun r r1 r2 => ⟨s6_nn _ (fun b b1 b2 => i1 b r b1 (by omega) r1 r2), by have := (i3 r r1 r2).2; omega⟩
  obtain ⟨out, eout⟩ : ∃ g : Int → Int, g = fun r => s6 (x r) R.toNat := ⟨_, rfl⟩
  obtain ⟨inn, einn⟩ : ∃ g : Int → Int, g = fun r => s6 (fun a => x a r) R.toNat := ⟨_, rfl⟩
  have ho1 : ∀ r : Int, 0 ≤ r → r < R → 0 ≤ out r ∧ out r = ovS ov r - sp r ∧ 0 ≤ sp r := fun r r1 r2 => by rw [eout]; exact ⟨(hout r r1 r2).1, (hout r r1 r2).2, (i2 r r1 r2).1⟩
  have hi1 : ∀ r : Int, 0 ≤ r → r < R → 0 ≤ inn r ∧ inn r = ovW ov r - wa r ∧ 0 ≤ wa r := fun r r1 r2 => by rw [einn]; exact ⟨(hinn r r1 r2).1, (hinn r r1 r2).2, (i3 r r1 r2).1⟩
  have so : s6 out R.toNat = n := by rw [eout]; exact i5.symm
  have si : s6 inn R.toNat = n := by rw [einn]; exact f1.symm
  -- per rank
  have per : ∀ r : Int, 0 ≤ r → r < R → (0 < ov r ∧ inn r = 0 ∧ out r = ov r - sp r ∧ (s6 (ovS ov) R.toNat ≤ s6 (ovW ov) R.toNat → sp r = 0)) ∨ (ov r < 0 ∧ out r = 0 ∧ inn r = -(ov r) - wa r ∧ (s6 (ovW ov) R.toNat ≤ s6 (ovS ov) R.toNat → wa r = 0)) ∨ (ov r = 0 ∧ out r = 0 ∧ inn r = 0) := fun r r1 r2 => by
    have a1 := ho1 r r1 r2
    have a2 := hi1 r r1 r2
    have a3 := fun h => f4 h r r1 r2
    have a4 := fun h => f5 h r r1 r2
    unfold ovS at a1
    unfold ovW at a2
    rcases Int.lt_trichotomy (ov r) 0 with q | q | q
    · rw [if_neg (by omega)] at a1
      rw [if_pos (by omega)] at a2
      exact Or.inr (Or.inl ⟨q, by omega, by omega, a4⟩)
    · rw [if_neg (by omega)] at a1
      rw [if_neg (by omega)] at a2
      exact Or.inr (Or.inr ⟨q, by omega, by omega⟩)
    · rw [if_pos (by omega)] at a1
      rw [if_neg (by omega)] at a2
      exact Or.inl ⟨q, by omega, by omega, a3⟩
  -- from above
  have hst : ∀ k : Int, 0 ≤ k → k < R → 0 ≤ stK p od R k ∧ stK p od R k ≤ 99 := fun k k1 k2 => by
    unfold stK
    split
    · rename_i q
      have := od_lt hp ho (i := k) (j := k + 1) k1 (by omega) q
      have o1 := (od_b hp ho (k := k) ⟨k1, k2⟩).1
      have o2 := (od_b hp ho (k := k + 1) ⟨by omega, q⟩).1
      have := hpb _ o1.1 o1.2
      have := hpb _ o2.1 o2.2
      omega
    · omega
  have hSb : ∀ k : Int, -16 ≤ psum p R (fun r => out r - inn r) k ∧ psum p R (fun r => out r - inn r) k ≤ 16 := fun k => by
    have u1 : psum p R (fun r => out r - inn r) k ≤ s6 out R.toNat := s6_le _ (fun r r1 r2 => by
      have := ho1 r r1 (by omega)
      have := hi1 r r1 (by omega)
      show (if pbl p R (p r) < k then out r - inn r else 0) ≤ out r
      split <;> omega)
    have u2 : s6 (fun r => 0 - inn r) R.toNat ≤ psum p R (fun r => out r - inn r) k := s6_le _ (fun r r1 r2 => by
      have := ho1 r r1 (by omega)
      have := hi1 r r1 (by omega)
      show 0 - inn r ≤ (if pbl p R (p r) < k then out r - inn r else 0)
      split <;> omega)
    rw [s6_sub (f := fun _ => (0 : Int)) (g := inn), s6_z] at u2
    have := s6_nn (f := sp) R.toNat (fun a a1 a2 => (i2 a a1 (by omega)).1)
    omega
  have hup := dpC_up (lo := fun k => loR ov R (od k)) (hi := fun k => hiR ov R (od k)) (st := stK p od R) (s := fun k => out (od k) - inn (od k)) (S := psum p R (fun r => out r - inn r)) (R := R.toNat) (by omega) (psum_0 _) (fun k k1 k2 => hst k k1 (by omega)) (fun k _ _ => hSb k) (fun k k1 k2 => ⟨psum_s hp ho _ (by omega), by
    have o1 := (od_b hp ho (k := k) ⟨k1, by omega⟩).1
    show loR ov R (od k) ≤ out (od k) - inn (od k) ∧ out (od k) - inn (od k) ≤ hiR ov R (od k)
    have b1 := ho1 _ o1.1 o1.2
    have b2 := hi1 _ o1.1 o1.2
    unfold loR hiR
    rcases per _ o1.1 o1.2 with ⟨q, w1, w2, w3⟩ | ⟨q, w1, w2, w3⟩ | ⟨q, w1, w2⟩
    · rw [if_pos q, if_pos q]
      split
      · rename_i y; have := w3 y; omega
      · omega
    · rw [if_neg (show ¬ 0 < ov (od k) by omega), if_neg (show ¬ 0 < ov (od k) by omega)]
      split
      · rename_i y; have := w3 y; omega
      · omega
    · rw [if_neg (show ¬ 0 < ov (od k) by omega), if_neg (show ¬ 0 < ov (od k) by omega)]
      split <;> omega⟩) R.toNat (Nat.le_refl _)
  have hRR : ((R.toNat : Nat) : Int) = R := by omega
  have hSR : psum p R (fun r => out r - inn r) R = 0 := by rw [psum_R, s6_sub (f := out) (g := inn)]; omega
  have hub := upS_b (st := stK p od R) (S := psum p R (fun r => out r - inn r)) (R := R.toNat) (fun k k1 k2 => hst k k1 (by omega)) (fun k _ _ => hSb k) R.toNat (Nat.le_refl _)
  have hparts := upS_F (st := stK p od R) (S := psum p R (fun r => out r - inn r)) (s := fun k => out (od k) - inn (od k)) (R := R.toNat) (psum_0 _) (fun k k1 k2 => psum_s hp ho _ (by omega)) R.toNat (Nat.le_refl _)
  rw [hRR, hSR] at hup hparts
  rw [Int.zero_mul, Int.zero_sub] at hparts
  rw [Int.add_zero] at hup
  obtain ⟨φ, eφ⟩ : ∃ φ : Int → Int, φ = fun r => upF (stK p od R) (psum p R (fun r => out r - inn r)) (pbl p R (p r)).toNat := ⟨_, rfl⟩
  have hs1 : s6 (fun j => (out (od j) - inn (od j)) * upF (stK p od R) (psum p R (fun r => out r - inn r)) j.toNat) R.toNat = s6 (fun r => (out r - inn r) * φ r) R.toNat := by
    have e7 := psum_o hp ho (fun r => (out r - inn r) * φ r) R.toNat (by omega)
    rw [hRR, psum_R] at e7
    rw [← e7]
    refine s6_cg _ (fun j j1 j2 => ?_)
    show _ = (out (od j) - inn (od j)) * φ (od j)
    rw [eφ]
    show _ = (out (od j) - inn (od j)) * upF (stK p od R) (psum p R (fun r => out r - inn r)) (pbl p R (p (od j))).toNat
    rw [(od_b hp ho (k := j) (by omega)).2]
  have hφ : ∀ a b : Int, 0 ≤ a → a < R → 0 ≤ b → b < R → φ b - φ a ≤ aw_ap (p a) (p b) := fun a b a1 a2 b1 b2 => by
    have pa := pbl_b (p := p) (R := R) (r := a) ⟨a1, a2⟩
    have pb := pbl_b (p := p) (R := R) (r := b) ⟨b1, b2⟩
    have oa := ho a a1 a2
    have ob := ho b b1 b2
    rw [eφ]
    show upF (stK p od R) _ (pbl p R (p b)).toNat - upF (stK p od R) _ (pbl p R (p a)).toNat ≤ _
    rcases Int.lt_or_le (pbl p R (p a)) (pbl p R (p b)) with q | q
    · have h9 := upF_lip (S := psum p R (fun r => out r - inn r)) hp ho (pbl p R (p a)).toNat ((pbl p R (p b)).toNat - (pbl p R (p a)).toNat) (by omega)
      rw [show (pbl p R (p a)).toNat + ((pbl p R (p b)).toNat - (pbl p R (p a)).toNat) = (pbl p R (p b)).toNat by omega, show (((pbl p R (p b)).toNat : Nat) : Int) = pbl p R (p b) by omega, show (((pbl p R (p a)).toNat : Nat) : Int) = pbl p R (p a) by omega, oa, ob] at h9
      unfold aw_ap
      split <;> omega
    · have h9 := upF_lip (S := psum p R (fun r => out r - inn r)) hp ho (pbl p R (p b)).toNat ((pbl p R (p a)).toNat - (pbl p R (p b)).toNat) (by omega)
      rw [show (pbl p R (p b)).toNat + ((pbl p R (p a)).toNat - (pbl p R (p b)).toNat) = (pbl p R (p a)).toNat by omega, show (((pbl p R (p b)).toNat : Nat) : Int) = pbl p R (p b) by omega, show (((pbl p R (p a)).toNat : Nat) : Int) = pbl p R (p a) by omega, oa, ob] at h9
      unfold aw_ap
      split <;> omega
  have hA1 : upS (stK p od R) (psum p R (fun r => out r - inn r)) R.toNat ≤ A := by
    rw [hparts, hs1, i4]
    have e1 : -(s6 (fun r => (out r - inn r) * φ r) R.toNat) = s6 (fun a => s6 (fun b => x a b * (φ b - φ a)) R.toNat) R.toNat := by
      rw [s6_nat, ← Int.zero_sub, ← s6_z R.toNat, ← s6_sub (f := fun _ => (0 : Int)) (g := fun r => (out r - inn r) * φ r)]
      refine s6_cg _ (fun r _ _ => ?_)
      show 0 - (out r - inn r) * φ r = s6 (fun a => x a r) R.toNat * φ r - s6 (x r) R.toNat * φ r
      have a1 : out r = s6 (x r) R.toNat := by rw [eout]
      have a2 : inn r = s6 (fun a => x a r) R.toNat := by rw [einn]
      rw [← a1, ← a2, Int.sub_mul]
      omega
    rw [e1]
    unfold tot
    exact s6_le _ (fun a a1 a2 => s6_le _ (fun b b1 b2 => Int.mul_le_mul_of_nonneg_left (hφ a b a1 (by omega) b1 (by omega)) (i1 a b a1 (by omega) b1 (by omega))))
  -- from below
  obtain ⟨f, th, hc, hf⟩ := aw_ub i6
  obtain ⟨sh, esh⟩ : ∃ sh : Int, sh = if s6 (ovS ov) R.toNat ≤ s6 (ovW ov) R.toNat then th else 0 := ⟨_, rfl⟩
  obtain ⟨ψ, eψ⟩ : ∃ ψ : Int → Int, ψ = fun r => mnF (fun a => f a + aw_ap (p a) (p r)) (R.toNat - 1) - sh := ⟨_, rfl⟩
  have m1 : ∀ a r : Int, 0 ≤ a → a < R → ψ r ≤ f a + aw_ap (p a) (p r) - sh := fun a r a1 a2 => by
    have := mnF_le (g := fun a => f a + aw_ap (p a) (p r)) (R.toNat - 1) a a1 (by omega)
    rw [eψ]
    show mnF (fun a => f a + aw_ap (p a) (p r)) (R.toNat - 1) - sh ≤ _
    have this : mnF (fun a => f a + aw_ap (p a) (p r)) (R.toNat - 1) ≤ f a + aw_ap (p a) (p r) := this
    omega
  have m2 : ∀ r : Int, ∃ a : Int, (0 ≤ a ∧ a < R) ∧ ψ r = f a + aw_ap (p a) (p r) - sh := fun r => by
    obtain ⟨a, a1, a2⟩ := mnF_at (g := fun a => f a + aw_ap (p a) (p r)) (R.toNat - 1)
    refine ⟨a, by omega, ?_⟩
    rw [eψ]
    show mnF (fun a => f a + aw_ap (p a) (p r)) (R.toNat - 1) - sh = _
    rw [a2]
  have m3 : ∀ r : Int, 0 ≤ r → r < R → f (6 + r) - sh ≤ ψ r ∧ ψ r ≤ f r - sh := fun r r1 r2 => by
    obtain ⟨a, a1, a2⟩ := m2 r
    have h1 : f (6 + r) ≤ f a + aw_ap (p a) (p r) := hc.1 a r a1.1 a1.2 r1 r2
    have h2 := m1 r r r1 r2
    have h3 : aw_ap (p r) (p r) = 0 := by unfold aw_ap; split <;> omega
    omega
  have m4 : ∀ r s : Int, ψ r ≤ ψ s + aw_ap (p s) (p r) := fun r s => by
    obtain ⟨a, a1, a2⟩ := m2 s
    have h1 := m1 a r a1.1 a1.2
    have h2 : aw_ap (p a) (p r) ≤ aw_ap (p a) (p s) + aw_ap (p s) (p r) := by unfold aw_ap; (repeat' split) <;> omega
    omega
  have hlo := dpC_lo (lo := fun k => loR ov R (od k)) (hi := fun k => hiR ov R (od k)) (st := stK p od R) (ψ := fun k => if k < R then ψ (od k) else ψ (od (R - 1))) (v := fun k => inn (od k) * (f (6 + od k) - sh) - out (od k) * (f (od k) - sh)) (R := R.toNat) (fun k k1 k2 => by
    show -(stK p od R k) ≤ (if k + 1 < R then ψ (od (k + 1)) else ψ (od (R - 1))) - (if k < R then ψ (od k) else ψ (od (R - 1))) ∧ (if k + 1 < R then ψ (od (k + 1)) else ψ (od (R - 1))) - (if k < R then ψ (od k) else ψ (od (R - 1))) ≤ stK p od R k
    unfold stK
    rw [if_pos (show k < R by omega)]
    by_cases q : k + 1 < R
    · rw [if_pos q, if_pos q]
      have h0 := od_lt hp ho (i := k) (j := k + 1) k1 (by omega) q
      have h1 := m4 (od (k + 1)) (od k)
      have h2 := m4 (od k) (od (k + 1))
      unfold aw_ap at h1 h2
      split at h1 <;> split at h2 <;> omega
    · rw [if_neg q, if_neg q, show R - 1 = k by omega]
      omega) (fun k s k1 k2 s1 s2 => by
    have o1 := (od_b hp ho (k := k) ⟨k1, by omega⟩).1
    show inn (od k) * (f (6 + od k) - sh) - out (od k) * (f (od k) - sh) ≤ -(s * (if k < R then ψ (od k) else ψ (od (R - 1))))
    rw [if_pos (show k < R by omega)]
    have s1 : loR ov R (od k) ≤ s := s1
    have s2 : s ≤ hiR ov R (od k) := s2
    generalize od k = r at *
    have m3r := m3 r o1.1 o1.2
    have c3 := hc.2.2.1 r o1.1 o1.2
    have c4 := hc.2.2.2 r o1.1 o1.2
    have fr := (hf r (by omega) (by omega)).1
    have b1 := ho1 r o1.1 o1.2
    have b2 := hi1 r o1.1 o1.2
    have ei : s6 (fun a => x a r) R.toNat = inn r := by rw [einn]
    rw [ei] at c4
    unfold loR at s1
    unfold hiR at s2
    rcases per r o1.1 o1.2 with ⟨q, w1, w2, w3⟩ | ⟨q, w1, w2, w3⟩ | ⟨q, w1, w2⟩
    · rw [if_pos q] at s1 s2
      rw [w1, Int.zero_mul, Int.zero_sub]
      have t1 : s * ψ r ≤ s * (f r - sh) := Int.mul_le_mul_of_nonneg_left m3r.2 (by split at s1 <;> omega)
      by_cases y : s6 (ovS ov) R.toNat ≤ s6 (ovW ov) R.toNat
      · rw [if_pos y] at s1
        have := w3 y
        rw [show out r = s by omega]
        omega
      · rw [if_neg y] at s1 esh
        have t2 : s * (f r - sh) ≤ out r * (f r - sh) := sgn_mul (fun z => by omega) (fun z => by have := c3.1 (by omega); omega)
        omega
    · rw [if_neg (show ¬ 0 < ov r by omega)] at s1 s2
      rw [w1, Int.zero_mul, Int.sub_zero, ← Int.neg_mul]
      have t1 : -s * (f (6 + r) - sh) ≤ -s * ψ r := Int.mul_le_mul_of_nonneg_left m3r.1 (by split at s2 <;> omega)
      by_cases y : s6 (ovW ov) R.toNat ≤ s6 (ovS ov) R.toNat
      · rw [if_pos y] at s2
        have := w3 y
        rw [show inn r = -s by omega]
        omega
      · rw [if_neg y] at s2
        rw [if_pos (show s6 (ovS ov) R.toNat ≤ s6 (ovW ov) R.toNat by omega)] at esh
        have t2 : inn r * (f (6 + r) - sh) ≤ -s * (f (6 + r) - sh) := sgn_mul (fun z => by have := c4.1 (by omega); omega) (fun z => by have := c4.2 (by omega); omega)
        omega
    · rw [if_neg (show ¬ 0 < ov r by omega)] at s1 s2
      have hs : s = 0 := by split at s2 <;> omega
      rw [w1, w2, hs, Int.zero_mul, Int.zero_mul, Int.zero_mul]
      decide) R.toNat (Nat.le_refl _) 16
  have hA2 : s6 (fun k => inn (od k) * (f (6 + od k) - sh) - out (od k) * (f (od k) - sh)) R.toNat = A := by
    rw [psum_o hp ho (fun r => inn r * (f (6 + r) - sh) - out r * (f r - sh)) R.toNat (by omega), hRR, psum_R, i4, einn, eout]
    rw [← s6_nat (g := fun a => f a - sh) (h := fun b => f (6 + b) - sh)]
    unfold tot
    refine s6_cg _ (fun a a1 a2 => s6_cg _ (fun b b1 b2 => ?_))
    have hx := i1 a b a1 (by omega) b1 (by omega)
    by_cases q : 0 < x a b
    · have := hc.2.1 a b a1 (by omega) b1 (by omega) q
      show x a b * (f (6 + b) - sh - (f a - sh)) = x a b * aw_ap (p a) (p b)
      congr 1
      have this : f (6 + b) = f a + aw_ap (p a) (p b) := this
      omega
    · rw [show x a b = 0 by omega, Int.zero_mul, Int.zero_mul]
  rw [hA2, Int.sub_self, Int.zero_mul, Int.zero_add] at hlo
  rcases hlo with z | z
  · omega
  · omega
end DU
