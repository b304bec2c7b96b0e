section DR2
variable {B : Int → Int} {n : Int} {d : mS}
theorem isw_nm {q : Int} {i : Nat} (h : isnm B n q) (hi : i < 5) : ¬ (te B n q - ts B n q = (slen i : Int) ∧ ∀ j : Nat, j < slen i → B (ts B n q + (j : Int)) = sch i j) := fun z => h.2 i hi ⟨h.1.1, z.1, z.2⟩
theorem wf_rk (wf : wfDr B n d) {p : Int} (hp : 0 ≤ p ∧ p ≤ n) (h6 : d 0 0 < 6) (hn : isnm B n p) (h1 : isnum B n 0 99 (te B n p)) (hpt : ¬ ptold d (nv B n (te B n p))) (h2 : isnum B n 1 9 (te B n (te B n p))) (h3 : isnum B n 0 9 (te B n (te B n (te B n p)))) : wfDr B n (rkD B n d p) := by
  obtain ⟨w1, w2, w3, w4, w5, w6, w7, w8, w9, w10, w11⟩ := wf
  have b0 := tok_b (B := B) hp
  have o : ∀ a j : Int, ¬ (a = 0 ∧ j = 0) → ¬ (j = d 0 0 ∧ (a = 1 ∨ a = 2 ∨ a = 3 ∨ a = 20 ∨ a = 21)) → rkD B n d p a j = d a j := fun a j z1 z2 => by
    unfold rkD
    rw [up_ne (by omega), up_ne (by omega), up_ne (by omega), up_ne (by omega), up_ne (by omega), up_ne (by omega)]
  have e0 : rkD B n d p 0 0 = d 0 0 + 1 := up_eq
  have e3 : rkD B n d p 3 (d 0 0) = nv B n (te B n (te B n (te B n p))) := by
    unfold rkD
    rw [up_ne (by omega), up_eq]
  have e2 : rkD B n d p 2 (d 0 0) = nv B n (te B n (te B n p)) := by
    unfold rkD
    rw [up_ne (by omega), up_ne (by omega), up_eq]
  have e1 : rkD B n d p 1 (d 0 0) = nv B n (te B n p) := by
    unfold rkD
    rw [up_ne (by omega), up_ne (by omega), up_ne (by omega), up_eq]
  have e21 : rkD B n d p 21 (d 0 0) = te B n p - ts B n p := by
    unfold rkD
    rw [up_ne (by omega), up_ne (by omega), up_ne (by omega), up_ne (by omega), up_eq]
  have e20 : rkD B n d p 20 (d 0 0) = ts B n p := by
    unfold rkD
    rw [up_ne (by omega), up_ne (by omega), up_ne (by omega), up_ne (by omega), up_ne (by omega), up_eq]
  unfold isnum at h1 h2 h3
  obtain ⟨l1, l2⟩ := wd_l hp hn.1.1
  refine ⟨by omega, fun r r1 r2 => ?_, fun r s r1 r2 s1 s2 z => ?_, by rw [o 0 1 (by omega) (by omega)]; exact w4, fun k k1 k2 => ?_, ?_, ?_, ?_, ?_, ?_, fun r r1 r2 => ?_⟩
  · rw [e0] at r2
    by_cases q : r = d 0 0
    · rw [q, e1, e2, e3]; omega
    · rw [o 1 r (by omega) (by omega), o 2 r (by omega) (by omega), o 3 r (by omega) (by omega)]
      exact w2 r r1 (by omega)
  · rw [e0] at r2 s2
    by_cases q : r = d 0 0 <;> by_cases q2 : s = d 0 0
    · omega
    · rw [q, e1, o 1 s (by omega) (by omega)] at z
      exact absurd ⟨s, ⟨s1, by omega⟩, z.symm⟩ hpt
    · rw [q2, e1, o 1 r (by omega) (by omega)] at z
      exact absurd ⟨r, ⟨r1, by omega⟩, z⟩ hpt
    · rw [o 1 r (by omega) (by omega), o 1 s (by omega) (by omega)] at z
      exact w3 r s r1 (by omega) s1 (by omega) z
  · rw [o 0 1 (by omega) (by omega)] at k2
    rw [e0, o 4 k (by omega) (by omega), o 5 k (by omega) (by omega), o 6 k (by omega) (by omega), o 7 k (by omega) (by omega)]
    have := w5 k k1 k2
    omega
  · rw [o 0 10 (by omega) (by omega), o 8 0 (by omega) (by omega), o 8 1 (by omega) (by omega), o 8 2 (by omega) (by omega), o 8 3 (by omega) (by omega)]; exact w6
  · rw [o 9 0 (by omega) (by omega), o 9 1 (by omega) (by omega)]; exact w7
  · rw [o 0 2 (by omega) (by omega)]; exact w8
  · rw [o 0 10 (by omega) (by omega), o 0 11 (by omega) (by omega), o 0 12 (by omega) (by omega)]; exact w9
  · rw [o 0 11 (by omega) (by omega), o 0 12 (by omega) (by omega), o 9 0 (by omega) (by omega), o 9 1 (by omega) (by omega), o 0 2 (by omega) (by omega)]; exact w10
  · rw [e0] at r2
    by_cases q : r = d 0 0
    · rw [q, e20, e21]
      refine ⟨by have := hn.1.2; omega, fun j j1 j2 => ?_, fun i hi => isw_nm hn hi⟩
      have := l2 j.toNat (by omega)
      unfold sgn at this
      rw [Int.toNat_of_nonneg j1] at this
      exact this
    · rw [o 20 r (by omega) (by omega), o 21 r (by omega) (by omega)]
      exact w11 r r1 (by omega)
theorem wf_lt (wf : wfDr B n d) {p r0 : Int} (h8 : d 0 1 < 8) (hr : 0 ≤ r0 ∧ r0 < d 0 0) (h1 : isnum B n 0 3 (te B n p)) (h2 : isnum B n 0 23 (te B n (te B n p))) (h3 : isnum B n (nv B n (te B n (te B n p))) 23 (te B n (te B n (te B n p)))) : wfDr B n (ltD B n d p r0) := by
  obtain ⟨w1, w2, w3, w4, w5, w6, w7, w8, w9, w10, w11⟩ := wf
  have o : ∀ a j : Int, ¬ (a = 0 ∧ j = 1) → ¬ (j = d 0 1 ∧ (4 ≤ a ∧ a ≤ 7)) → ltD B n d p r0 a j = d a j := fun a j z1 z2 => by
    unfold ltD
    rw [up_ne (by omega), up_ne (by omega), up_ne (by omega), up_ne (by omega), up_ne (by omega)]
  have e0 : ltD B n d p r0 0 1 = d 0 1 + 1 := up_eq
  have e7 : ltD B n d p r0 7 (d 0 1) = nv B n (te B n (te B n (te B n p))) := by
    unfold ltD
    rw [up_ne (by omega), up_eq]
  have e6 : ltD B n d p r0 6 (d 0 1) = nv B n (te B n (te B n p)) := by
    unfold ltD
    rw [up_ne (by omega), up_ne (by omega), up_eq]
  have e5 : ltD B n d p r0 5 (d 0 1) = nv B n (te B n p) := by
    unfold ltD
    rw [up_ne (by omega), up_ne (by omega), up_ne (by omega), up_eq]
  have e4 : ltD B n d p r0 4 (d 0 1) = r0 := by
    unfold ltD
    rw [up_ne (by omega), up_ne (by omega), up_ne (by omega), up_ne (by omega), up_eq]
  unfold isnum at h1 h2 h3
  have o0 := o 0 0 (by omega) (by omega)
  refine ⟨by rw [o0]; exact w1, fun r r1 r2 => ?_, fun r s r1 r2 s1 s2 z => ?_, by omega, fun k k1 k2 => ?_, ?_, ?_, ?_, ?_, ?_, fun r r1 r2 => ?_⟩
  · rw [o0] at r2
    rw [o 1 r (by omega) (by omega), o 2 r (by omega) (by omega), o 3 r (by omega) (by omega)]
    exact w2 r r1 r2
  · rw [o0] at r2 s2
    rw [o 1 r (by omega) (by omega), o 1 s (by omega) (by omega)] at z
    exact w3 r s r1 r2 s1 s2 z
  · rw [e0] at k2
    rw [o0]
    by_cases q : k = d 0 1
    · rw [q, e4, e5, e6, e7]; omega
    · rw [o 4 k (by omega) (by omega), o 5 k (by omega) (by omega), o 6 k (by omega) (by omega), o 7 k (by omega) (by omega)]
      exact w5 k k1 (by omega)
  · rw [o 0 10 (by omega) (by omega), o 8 0 (by omega) (by omega), o 8 1 (by omega) (by omega), o 8 2 (by omega) (by omega), o 8 3 (by omega) (by omega)]; exact w6
  · rw [o 9 0 (by omega) (by omega), o 9 1 (by omega) (by omega)]; exact w7
  · rw [o 0 2 (by omega) (by omega)]; exact w8
  · rw [o 0 10 (by omega) (by omega), o 0 11 (by omega) (by omega), o 0 12 (by omega) (by omega)]; exact w9
  · rw [o 0 11 (by omega) (by omega), o 0 12 (by omega) (by omega), o 9 0 (by omega) (by omega), o 9 1 (by omega) (by omega), o 0 2 (by omega) (by omega)]; exact w10
  · rw [o0] at r2
    rw [o 20 r (by omega) (by omega), o 21 r (by omega) (by omega)]
    exact w11 r r1 r2
/-- what a statement other than RANK and LET leaves alone -/
theorem wf_o (wf : wfDr B n d) {d' : mS} (o : ∀ a j : Int, ¬ (a = 0 ∧ (j = 2 ∨ j = 10 ∨ j = 11 ∨ j = 12)) → a ≠ 8 → a ≠ 9 → d' a j = d a j)
    (h6 : d' 0 10 = 1 → (0 ≤ d' 8 0 ∧ d' 8 0 ≤ 999) ∧ (0 ≤ d' 8 1 ∧ d' 8 1 ≤ 999) ∧ (1 ≤ d' 8 2 ∧ d' 8 2 ≤ 99) ∧ (0 ≤ d' 8 3 ∧ d' 8 3 ≤ 99)) (h7 : (0 ≤ d' 9 0 ∧ d' 9 0 ≤ 99) ∧ (0 ≤ d' 9 1 ∧ d' 9 1 ≤ 240)) (h8 : 1 ≤ d' 0 2 ∧ d' 0 2 ≤ 50)
    (h9 : (d' 0 10 = 0 ∨ d' 0 10 = 1) ∧ (d' 0 11 = 0 ∨ d' 0 11 = 1) ∧ (d' 0 12 = 0 ∨ d' 0 12 = 1)) (h10 : (d' 0 11 = 0 → d' 9 0 = 0 ∧ d' 9 1 = 0) ∧ (d' 0 11 = 1 → 1 ≤ d' 9 0) ∧ (d' 0 12 = 0 → d' 0 2 = 1)) : wfDr B n d' := by
  obtain ⟨w1, w2, w3, w4, w5, w6, w7, w8, w9, w10, w11⟩ := wf
  have o0 := o 0 0 (by omega) (by omega) (by omega)
  have o1 := o 0 1 (by omega) (by omega) (by omega)
  refine ⟨by rw [o0]; exact w1, fun r r1 r2 => ?_, fun r s r1 r2 s1 s2 z => ?_, by rw [o1]; exact w4, fun k k1 k2 => ?_, h6, h7, h8, h9, h10, fun r r1 r2 => ?_⟩
  · rw [o0] at r2
    rw [o 1 r (by omega) (by omega) (by omega), o 2 r (by omega) (by omega) (by omega), o 3 r (by omega) (by omega) (by omega)]
    exact w2 r r1 r2
  · rw [o0] at r2 s2
    rw [o 1 r (by omega) (by omega) (by omega), o 1 s (by omega) (by omega) (by omega)] at z
    exact w3 r s r1 r2 s1 s2 z
  · rw [o1] at k2
    rw [o0, o 4 k (by omega) (by omega) (by omega), o 5 k (by omega) (by omega) (by omega), o 6 k (by omega) (by omega) (by omega), o 7 k (by omega) (by omega) (by omega)]
    exact w5 k k1 k2
  · rw [o0] at r2
    rw [o 20 r (by omega) (by omega) (by omega), o 21 r (by omega) (by omega) (by omega)]
    exact w11 r r1 r2
theorem wf_fa (wf : wfDr B n d) {p : Int} (h1 : isnum B n 0 999 p) (h2 : isnum B n 0 999 (te B n p)) (h3 : isnum B n 1 99 (te B n (te B n p))) (h4 : isnum B n 0 99 (te B n (te B n (te B n p)))) : wfDr B n (faD B n d p) := by
  unfold isnum at h1 h2 h3 h4
  have wf' := wf
  obtain ⟨w1, w2, w3, w4, w5, w6, w7, w8, w9, w10, w11⟩ := wf'
  have o : ∀ a j : Int, ¬ (a = 0 ∧ j = 10) → a ≠ 8 → faD B n d p a j = d a j := fun a j z1 z2 => by
    unfold faD
    rw [up_ne (by omega), up_ne (by omega), up_ne (by omega), up_ne (by omega), up_ne (by omega)]
  have e0 : faD B n d p 0 10 = 1 := up_eq
  have e3 : faD B n d p 8 3 = nv B n (te B n (te B n (te B n p))) := by
    unfold faD
    rw [up_ne (by omega), up_eq]
  have e2 : faD B n d p 8 2 = nv B n (te B n (te B n p)) := by
    unfold faD
    rw [up_ne (by omega), up_ne (by omega), up_eq]
  have e1 : faD B n d p 8 1 = nv B n (te B n p) := by
    unfold faD
    rw [up_ne (by omega), up_ne (by omega), up_ne (by omega), up_eq]
  have e4 : faD B n d p 8 0 = nv B n p := by
    unfold faD
    rw [up_ne (by omega), up_ne (by omega), up_ne (by omega), up_ne (by omega), up_eq]
  refine wf_o wf (fun a j z1 z2 z3 => o a j (by omega) z2) (fun _ => by rw [e1, e2, e3, e4]; omega) ?_ ?_ ?_ ?_
  · rw [o 9 0 (by omega) (by omega), o 9 1 (by omega) (by omega)]; exact w7
  · rw [o 0 2 (by omega) (by omega)]; exact w8
  · rw [e0, o 0 11 (by omega) (by omega), o 0 12 (by omega) (by omega)]; exact ⟨Or.inr rfl, w9.2⟩
  · rw [o 0 11 (by omega) (by omega), o 0 12 (by omega) (by omega), o 9 0 (by omega) (by omega), o 9 1 (by omega) (by omega), o 0 2 (by omega) (by omega)]; exact w10
theorem wf_sh (wf : wfDr B n d) {p : Int} (h1 : isnum B n 1 99 p) (h2 : isnum B n 0 240 (te B n p)) : wfDr B n (shD B n d p) := by
  unfold isnum at h1 h2
  have wf' := wf
  obtain ⟨w1, w2, w3, w4, w5, w6, w7, w8, w9, w10, w11⟩ := wf'
  have o : ∀ a j : Int, ¬ (a = 0 ∧ j = 11) → a ≠ 9 → shD B n d p a j = d a j := fun a j z1 z2 => by
    unfold shD
    rw [up_ne (by omega), up_ne (by omega), up_ne (by omega)]
  have e0 : shD B n d p 0 11 = 1 := up_eq
  have e1 : shD B n d p 9 1 = nv B n (te B n p) := by
    unfold shD
    rw [up_ne (by omega), up_eq]
  have e4 : shD B n d p 9 0 = nv B n p := by
    unfold shD
    rw [up_ne (by omega), up_ne (by omega), up_eq]
  refine wf_o wf (fun a j z1 z2 z3 => o a j (by omega) z3) ?_ (by rw [e1, e4]; omega) ?_ ?_ ?_
  · rw [o 0 10 (by omega) (by omega), o 8 0 (by omega) (by omega), o 8 1 (by omega) (by omega), o 8 2 (by omega) (by omega), o 8 3 (by omega) (by omega)]; exact w6
  · rw [o 0 2 (by omega) (by omega)]; exact w8
  · rw [e0, o 0 10 (by omega) (by omega), o 0 12 (by omega) (by omega)]; exact ⟨w9.1, Or.inr rfl, w9.2.2⟩
  · rw [e0, e1, e4, o 0 12 (by omega) (by omega), o 0 2 (by omega) (by omega)]
    exact ⟨fun z => absurd z (by omega), fun _ => by omega, w10.2.2⟩
theorem wf_co (wf : wfDr B n d) {p : Int} (h1 : isnum B n 1 50 p) : wfDr B n (coD B n d p) := by
  unfold isnum at h1
  have wf' := wf
  obtain ⟨w1, w2, w3, w4, w5, w6, w7, w8, w9, w10, w11⟩ := wf'
  have o : ∀ a j : Int, ¬ (a = 0 ∧ (j = 12 ∨ j = 2)) → coD B n d p a j = d a j := fun a j z1 => by
    unfold coD
    rw [up_ne (by omega), up_ne (by omega)]
  have e0 : coD B n d p 0 12 = 1 := up_eq
  have e1 : coD B n d p 0 2 = nv B n p := by
    unfold coD
    rw [up_ne (by omega), up_eq]
  refine wf_o wf (fun a j z1 z2 z3 => o a j (by omega)) ?_ ?_ (by rw [e1]; omega) ?_ ?_
  · rw [o 0 10 (by omega), o 8 0 (by omega), o 8 1 (by omega), o 8 2 (by omega), o 8 3 (by omega)]; exact w6
  · rw [o 9 0 (by omega), o 9 1 (by omega)]; exact w7
  · rw [e0, o 0 10 (by omega), o 0 11 (by omega)]; exact ⟨w9.1, w9.2.1, Or.inr rfl⟩
  · rw [e0, o 0 11 (by omega), o 9 0 (by omega), o 9 1 (by omega)]
    exact ⟨w10.1, w10.2.1, fun z => absurd z (by omega)⟩
theorem stP_wf {q p' : Int} {d' : mS} (hq : 0 ≤ q ∧ q ≤ n) (wf : wfDr B n d) (h : stP B n d q = .inr (p', d')) : wfDr B n d' := by
  have b1 := te_m (B := B) (n := n) (q := q) hq
  have hr := rnk_b (B := B) (n := n) (d := d) (q := te B n q)
  unfold stP rkP ltP faP shP coP cif at h
  split at h
  · (repeat' split at h) <;> first | cases h | skip
    rename_i c1 c2 c3 c4 c5 c6
    have c2' := Classical.not_not.mp c2
    have c3' := Classical.not_not.mp c3
    exact wf_rk wf (by omega) (by omega) c2'.1 c3'.1 c3'.2 (Classical.not_not.mp c4) (Classical.not_not.mp c5)
  · split at h
    · (repeat' split at h) <;> first | cases h | skip
      all_goals
        rename_i c0 c1 c2 c3 c4 c5
        exact wf_lt wf (by omega) (by omega) (Classical.not_not.mp c2) (Classical.not_not.mp c3) (Classical.not_not.mp c4)
    · split at h
      · (repeat' split at h) <;> first | cases h | skip
        rename_i c1 c2 c3 c4 c5 c6
        exact wf_fa wf (Classical.not_not.mp c2) (Classical.not_not.mp c3) (Classical.not_not.mp c4) (Classical.not_not.mp c5)
      · split at h
        · (repeat' split at h) <;> first | cases h | skip
          rename_i c1 c2 c3 c4
          exact wf_sh wf (Classical.not_not.mp c2) (Classical.not_not.mp c3)
        · split at h
          · (repeat' split at h) <;> first | cases h | skip
            rename_i c1 c2 c3
            exact wf_co wf (Classical.not_not.mp c2)
          · cases h
end DR2
/-- the draft before the first statement -/
def dr0 : mS := fun a j => if a = 0 ∧ j = 2 then 1 else 0
theorem wf_dr0 {B : Int → Int} {n : Int} : wfDr B n dr0 := by
  have e : ∀ a j : Int, ¬ (a = 0 ∧ j = 2) → dr0 a j = 0 := fun a j z => if_neg z
  have e2 : dr0 0 2 = 1 := rfl
  have e00 := e 0 0 (by omega)
  refine ⟨by omega, fun r r1 r2 => by omega, fun r s r1 r2 => by omega, by rw [e 0 1 (by omega)]; omega, fun k k1 k2 => by rw [e 0 1 (by omega)] at k2; omega, fun z => by rw [e 0 10 (by omega)] at z; omega, by rw [e 9 0 (by omega), e 9 1 (by omega)]; omega, by omega, ?_, ?_, fun r r1 r2 => by omega⟩
  · rw [e 0 10 (by omega), e 0 11 (by omega), e 0 12 (by omega)]
    exact ⟨Or.inl rfl, Or.inl rfl, Or.inl rfl⟩
  · rw [e 0 11 (by omega), e 0 12 (by omega), e 9 0 (by omega), e 9 1 (by omega)]
    exact ⟨fun _ => ⟨rfl, rfl⟩, fun z => absurd z (by omega), fun _ => e2⟩
/-- the whole text: the FAULT (-1: none), and the draft -/
noncomputable def flF (B : Int → Int) (n : Int) : Nat → mS → Int → Int × mS
  | 0, d, _ => (n, d)
  | f + 1, d, q => cif (tkd B n q = 5) (cif (0 < d 0 0 ∧ d 0 10 = 1) (-1, d) (n, d)) (match stP B n d q with
    | .inl s => (s, d)
    | .inr (p', d') => flF B n f d' p')
noncomputable def flt (B : Int → Int) (n : Int) : Int × mS := flF B n (n.toNat + 1) dr0 0
theorem flF_e {B : Int → Int} {n q : Int} {f : Nat} {d : mS} (h : tkd B n q = 5) : flF B n (f + 1) d q = cif (0 < d 0 0 ∧ d 0 10 = 1) (-1, d) (n, d) := by
  unfold flF
  exact cif_y h
theorem flF_f {B : Int → Int} {n q s : Int} {f : Nat} {d : mS} (h : tkd B n q ≠ 5) (hs : stP B n d q = .inl s) : flF B n (f + 1) d q = (s, d) := by
  unfold flF
  rw [cif_n h, hs]
theorem flF_s {B : Int → Int} {n q p' : Int} {f : Nat} {d d' : mS} (h : tkd B n q ≠ 5) (hs : stP B n d q = .inr (p', d')) : flF B n (f + 1) d q = flF B n f d' p' := by
  conv => lhs; unfold flF
  rw [cif_n h, hs]
/-- without a FAULT there is a RANK and a FARE, and the draft is sound -/
theorem flF_g {B : Int → Int} {n : Int} : ∀ (f : Nat) (d : mS) (q : Int), (0 ≤ q ∧ q ≤ n) → wfDr B n d → ((flF B n f d q).1 = -1 → wfDr B n (flF B n f d q).2 ∧ 0 < (flF B n f d q).2 0 0 ∧ (flF B n f d q).2 0 10 = 1) ∧ (-1 ≤ (flF B n f d q).1 ∧ (flF B n f d q).1 ≤ n)
  | 0, d, q, hq, wf => by
    show ((n, d).1 = -1 → _) ∧ _
    exact ⟨fun z => absurd z (by show n ≠ -1; omega), by show -1 ≤ n ∧ n ≤ n; omega⟩
  | f + 1, d, q, hq, wf => by
    by_cases h : tkd B n q = 5
    · rw [flF_e h]
      by_cases c : 0 < d 0 0 ∧ d 0 10 = 1
      · rw [cif_y c]
        exact ⟨fun _ => ⟨wf, c⟩, by show -1 ≤ (-1 : Int) ∧ (-1 : Int) ≤ n; omega⟩
      · rw [cif_n c]
        exact ⟨fun z => absurd z (by show n ≠ -1; omega), by show -1 ≤ n ∧ n ≤ n; omega⟩
    · have b0 := tok_b (B := B) hq
      have hlt : ts B n q < n := by
        by_cases z : ts B n q < n
        · exact z
        · exact absurd (b0.2.2.2.2 z).1 h
      cases hs : stP B n d q with
      | inl s =>
        rw [flF_f h hs]
        have b1 := te_m (B := B) (n := n) (q := te B n q) (by omega)
        have b2 := te_m (B := B) (n := n) (q := te B n (te B n q)) (by omega)
        have b3 := te_m (B := B) (n := n) (q := te B n (te B n (te B n q))) (by omega)
        have b4 := te_m (B := B) (n := n) (q := te B n (te B n (te B n (te B n q)))) (by omega)
        have s1 := (tok_b (B := B) (n := n) (q := te B n q) (by omega)).1
        have s2 := (tok_b (B := B) (n := n) (q := te B n (te B n q)) (by omega)).1
        have s3 := (tok_b (B := B) (n := n) (q := te B n (te B n (te B n q))) (by omega)).1
        have s4 := (tok_b (B := B) (n := n) (q := te B n (te B n (te B n (te B n q)))) (by omega)).1
        have s5 := (tok_b (B := B) (n := n) (q := te B n (te B n (te B n (te B n (te B n q))))) (by omega)).1
        have hb : 0 ≤ s ∧ s ≤ n := by
          unfold stP rkP ltP faP shP coP cif at hs
          (repeat' split at hs) <;> first | (cases hs; omega) | cases hs
        exact ⟨fun z => absurd z (by show s ≠ -1; omega), by show -1 ≤ s ∧ s ≤ n; omega⟩
      | inr r =>
        obtain ⟨p', d'⟩ := r
        rw [flF_s h hs]
        have hp := stP_p hq (b0.2.2.2.1 hlt).1 hs
        exact flF_g f d' p' (by omega) (stP_wf hq wf hs)
