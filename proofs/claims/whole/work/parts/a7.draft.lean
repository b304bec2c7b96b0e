/-! ===== the draft of a city: rows as the model's; 0 10, 0 11, 0 12: FARE, SHORT, COIN told; 20, 21: where a name starts, how long it is ===== -/
/-- the TOKEN from q on is the name of the rank r -/
def isnmd (B : Int → Int) (n : Int) (d : mS) (q r : Int) : Prop := d 21 r = te B n q - ts B n q ∧ ∀ j : Int, 0 ≤ j → j < d 21 r → B (ts B n q + j) = B (d 20 r + j)
def named (B : Int → Int) (n : Int) (d : mS) (q : Int) : Prop := ∃ r : Int, (0 ≤ r ∧ r < d 0 0) ∧ isnmd B n d q r
def isnm (B : Int → Int) (n q : Int) : Prop := (tkd B n q = 1 ∧ te B n q - ts B n q ≤ 8) ∧ ∀ i : Nat, i < 5 → ¬ isw B n i q
def ptold (d : mS) (v : Int) : Prop := ∃ r : Int, (0 ≤ r ∧ r < d 0 0) ∧ d 1 r = v
/-- the first rank of that name -/
def fstn (B : Int → Int) (n : Int) (d : mS) (q r : Int) : Prop := ((0 ≤ r ∧ r < d 0 0) ∧ isnmd B n d q r) ∧ ∀ s : Int, 0 ≤ s → s < r → ¬ isnmd B n d q s
/-- what is told: a draft d; p: behind the statement's word, which starts at s. A fault's place, or the next place and the draft -/
abbrev prs : Type := Int ⊕ (Int × mS)
def rkD (B : Int → Int) (n : Int) (d : mS) (p : Int) : mS := up (up (up (up (up (up d 20 (d 0 0) (ts B n p)) 21 (d 0 0) (te B n p - ts B n p)) 1 (d 0 0) (nv B n (te B n p))) 2 (d 0 0) (nv B n (te B n (te B n p)))) 3 (d 0 0) (nv B n (te B n (te B n (te B n p))))) 0 0 (d 0 0 + 1)
noncomputable def rkP (B : Int → Int) (n : Int) (d : mS) (s p : Int) : prs :=
  cif (6 ≤ d 0 0) (.inl s) (cif (¬ (isnm B n p ∧ ¬ named B n d p)) (.inl (ts B n p)) (cif (¬ (isnum B n 0 99 (te B n p) ∧ ¬ ptold d (nv B n (te B n p)))) (.inl (ts B n (te B n p))) (cif (¬ isnum B n 1 9 (te B n (te B n p))) (.inl (ts B n (te B n (te B n p)))) (cif (¬ isnum B n 0 9 (te B n (te B n (te B n p)))) (.inl (ts B n (te B n (te B n (te B n p)))))
   (cif (¬ tkd B n (te B n (te B n (te B n (te B n p)))) = 3) (.inl (ts B n (te B n (te B n (te B n (te B n p)))))) (.inr (te B n (te B n (te B n (te B n (te B n p)))), rkD B n d p)))))))
def ltD (B : Int → Int) (n : Int) (d : mS) (p r : Int) : mS := up (up (up (up (up d 4 (d 0 1) r) 5 (d 0 1) (nv B n (te B n p))) 6 (d 0 1) (nv B n (te B n (te B n p)))) 7 (d 0 1) (nv B n (te B n (te B n (te B n p))))) 0 1 (d 0 1 + 1)
/-- r: the rank that the name names, -1: none -/
noncomputable def ltP (B : Int → Int) (n : Int) (d : mS) (s p r : Int) : prs :=
  cif (8 ≤ d 0 1) (.inl s) (cif (r = -1) (.inl (ts B n p)) (cif (¬ isnum B n 0 3 (te B n p)) (.inl (ts B n (te B n p))) (cif (¬ isnum B n 0 23 (te B n (te B n p))) (.inl (ts B n (te B n (te B n p)))) (cif (¬ isnum B n (nv B n (te B n (te B n p))) 23 (te B n (te B n (te B n p)))) (.inl (ts B n (te B n (te B n (te B n p)))))
   (cif (¬ tkd B n (te B n (te B n (te B n (te B n p)))) = 3) (.inl (ts B n (te B n (te B n (te B n (te B n p)))))) (.inr (te B n (te B n (te B n (te B n (te B n p)))), ltD B n d p r)))))))
def faD (B : Int → Int) (n : Int) (d : mS) (p : Int) : mS := up (up (up (up (up d 8 0 (nv B n p)) 8 1 (nv B n (te B n p))) 8 2 (nv B n (te B n (te B n p)))) 8 3 (nv B n (te B n (te B n (te B n p))))) 0 10 1
noncomputable def faP (B : Int → Int) (n : Int) (d : mS) (s p : Int) : prs :=
  cif (d 0 10 = 1) (.inl s) (cif (¬ isnum B n 0 999 p) (.inl (ts B n p)) (cif (¬ isnum B n 0 999 (te B n p)) (.inl (ts B n (te B n p))) (cif (¬ isnum B n 1 99 (te B n (te B n p))) (.inl (ts B n (te B n (te B n p)))) (cif (¬ isnum B n 0 99 (te B n (te B n (te B n p)))) (.inl (ts B n (te B n (te B n (te B n p)))))
   (cif (¬ tkd B n (te B n (te B n (te B n (te B n p)))) = 3) (.inl (ts B n (te B n (te B n (te B n (te B n p)))))) (.inr (te B n (te B n (te B n (te B n (te B n p)))), faD B n d p)))))))
def shD (B : Int → Int) (n : Int) (d : mS) (p : Int) : mS := up (up (up d 9 0 (nv B n p)) 9 1 (nv B n (te B n p))) 0 11 1
noncomputable def shP (B : Int → Int) (n : Int) (d : mS) (s p : Int) : prs :=
  cif (d 0 11 = 1) (.inl s) (cif (¬ isnum B n 1 99 p) (.inl (ts B n p)) (cif (¬ isnum B n 0 240 (te B n p)) (.inl (ts B n (te B n p))) (cif (¬ tkd B n (te B n (te B n p)) = 3) (.inl (ts B n (te B n (te B n p)))) (.inr (te B n (te B n (te B n p)), shD B n d p)))))
def coD (B : Int → Int) (n : Int) (d : mS) (p : Int) : mS := up (up d 0 2 (nv B n p)) 0 12 1
noncomputable def coP (B : Int → Int) (n : Int) (d : mS) (s p : Int) : prs :=
  cif (d 0 12 = 1) (.inl s) (cif (¬ isnum B n 1 50 p) (.inl (ts B n p)) (cif (¬ tkd B n (te B n p) = 3) (.inl (ts B n (te B n p))) (.inr (te B n (te B n p), coD B n d p))))
/-- which rank is named: -1: none -/
noncomputable def rnk (B : Int → Int) (n : Int) (d : mS) (q : Int) : Int := @dite Int (∃ r : Int, fstn B n d q r) (Classical.propDecidable _) (fun h => Classical.choose h) (fun _ => -1)
/-- a statement, from the place q on -/
noncomputable def stP (B : Int → Int) (n : Int) (d : mS) (q : Int) : prs :=
  cif (isw B n 0 q) (rkP B n d (ts B n q) (te B n q)) (cif (isw B n 1 q) (ltP B n d (ts B n q) (te B n q) (cif (tkd B n (te B n q) = 1) (rnk B n d (te B n q)) (-1))) (cif (isw B n 2 q) (faP B n d (ts B n q) (te B n q)) (cif (isw B n 3 q) (shP B n d (ts B n q) (te B n q)) (cif (isw B n 4 q) (coP B n d (ts B n q) (te B n q)) (.inl (ts B n q))))))
/-- what holds of a draft -/
def wfDr (B : Int → Int) (n : Int) (d : mS) : Prop :=
  (0 ≤ d 0 0 ∧ d 0 0 ≤ 6) ∧ (∀ r : Int, 0 ≤ r → r < d 0 0 → (0 ≤ d 1 r ∧ d 1 r ≤ 99) ∧ (1 ≤ d 2 r ∧ d 2 r ≤ 9) ∧ (0 ≤ d 3 r ∧ d 3 r ≤ 9)) ∧
  (∀ r s : Int, 0 ≤ r → r < d 0 0 → 0 ≤ s → s < d 0 0 → d 1 r = d 1 s → r = s) ∧
  (0 ≤ d 0 1 ∧ d 0 1 ≤ 8) ∧ (∀ k : Int, 0 ≤ k → k < d 0 1 → (0 ≤ d 4 k ∧ d 4 k < d 0 0) ∧ (0 ≤ d 5 k ∧ d 5 k ≤ 3) ∧ (0 ≤ d 6 k ∧ d 6 k ≤ 23) ∧ (0 ≤ d 7 k ∧ d 7 k ≤ 23)) ∧
  (d 0 10 = 1 → (0 ≤ d 8 0 ∧ d 8 0 ≤ 999) ∧ (0 ≤ d 8 1 ∧ d 8 1 ≤ 999) ∧ (1 ≤ d 8 2 ∧ d 8 2 ≤ 99) ∧ (0 ≤ d 8 3 ∧ d 8 3 ≤ 99)) ∧ ((0 ≤ d 9 0 ∧ d 9 0 ≤ 99) ∧ (0 ≤ d 9 1 ∧ d 9 1 ≤ 240)) ∧ (1 ≤ d 0 2 ∧ d 0 2 ≤ 50) ∧
  ((d 0 10 = 0 ∨ d 0 10 = 1) ∧ (d 0 11 = 0 ∨ d 0 11 = 1) ∧ (d 0 12 = 0 ∨ d 0 12 = 1)) ∧ ((d 0 11 = 0 → d 9 0 = 0 ∧ d 9 1 = 0) ∧ (d 0 11 = 1 → 1 ≤ d 9 0) ∧ (d 0 12 = 0 → d 0 2 = 1)) ∧
  (∀ r : Int, 0 ≤ r → r < d 0 0 → ((0 ≤ d 20 r ∧ d 20 r + d 21 r ≤ n) ∧ (1 ≤ d 21 r ∧ d 21 r ≤ 8)) ∧ (∀ j : Int, 0 ≤ j → j < d 21 r → 97 ≤ B (d 20 r + j) ∧ B (d 20 r + j) ≤ 122) ∧ ∀ i : Nat, i < 5 → ¬ (d 21 r = (slen i : Int) ∧ ∀ j : Nat, j < slen i → B (d 20 r + (j : Int)) = sch i j))
section DR
variable {B : Int → Int} {n : Int} {d : mS}
theorem rnk_s {q : Int} : rnk B n d q = -1 ∧ (¬ ∃ r : Int, fstn B n d q r) ∨ fstn B n d q (rnk B n d q) := by
  unfold rnk
  by_cases h : ∃ r : Int, fstn B n d q r
  · rw [dif_pos h]
    exact Or.inr (Classical.choose_spec h)
  · rw [dif_neg h]
    exact Or.inl ⟨rfl, h⟩
theorem fstn_u {q r s : Int} (h : fstn B n d q r) (h2 : fstn B n d q s) : r = s := by
  rcases Int.lt_trichotomy r s with z | z | z
  · exact absurd h.1.2 (h2.2 r h.1.1.1 z)
  · exact z
  · exact absurd h2.1.2 (h.2 s h2.1.1.1 z)
theorem rnk_y {q r : Int} (h : fstn B n d q r) : rnk B n d q = r := by
  rcases rnk_s (B := B) (n := n) (d := d) (q := q) with ⟨-, z⟩ | z
  · exact absurd ⟨r, h⟩ z
  · exact fstn_u z h
theorem rnk_n {q : Int} (h : ¬ named B n d q) : rnk B n d q = -1 := by
  rcases rnk_s (B := B) (n := n) (d := d) (q := q) with ⟨z, -⟩ | z
  · exact z
  · exact absurd ⟨_, z.1⟩ h
theorem rnk_b {q : Int} : -1 ≤ rnk B n d q ∧ (rnk B n d q < d 0 0 ∨ rnk B n d q = -1) := by
  rcases rnk_s (B := B) (n := n) (d := d) (q := q) with ⟨z, -⟩ | z
  · omega
  · have := z.1.1
    omega
/-- two letters' rows packed alike are alike: a name in the draft, a TOKEN -/
theorem isnmd_v (wf : wfDr B n d) {q r : Int} (hq : 0 ≤ q ∧ q ≤ n) (ht : tkd B n q = 1) (hr : 0 ≤ r ∧ r < d 0 0) : isnmd B n d q r ↔ pkv (sgn B (d 20 r)) (d 21 r).toNat = wv B n q := by
  obtain ⟨l1, l2⟩ := wd_l hq ht
  obtain ⟨n1, n2, n3⟩ := wf.2.2.2.2.2.2.2.2.2.2 r hr.1 hr.2
  have hg : ∀ i : Nat, i < (d 21 r).toNat → 97 ≤ sgn B (d 20 r) i ∧ sgn B (d 20 r) i ≤ 122 := fun i hi => n2 (i : Int) (by omega) (by omega)
  have hp := (pkv_b _ hg).2 (by omega)
  unfold wv isnmd
  by_cases c : 8 < te B n q - ts B n q
  · rw [if_pos c]
    constructor
    · rintro ⟨z, -⟩
      omega
    · intro z
      omega
  · rw [if_neg c]
    constructor
    · rintro ⟨z1, z2⟩
      rw [show (te B n q - ts B n q).toNat = (d 21 r).toNat by omega]
      exact pkv_c _ (fun i hi => (z2 (i : Int) (by omega) (by omega)).symm)
    · intro z
      obtain ⟨e1, e2⟩ := pkv_i _ _ hg l2 z
      refine ⟨by omega, fun j j1 j2 => ?_⟩
      have := e2 j.toNat (by omega)
      unfold sgn at this
      rw [Int.toNat_of_nonneg j1] at this
      exact this.symm
/-- a told name is a name -/
theorem nmd_isnm (wf : wfDr B n d) {q r : Int} (ht : tkd B n q = 1) (hr : 0 ≤ r ∧ r < d 0 0) (h : isnmd B n d q r) : isnm B n q := by
  obtain ⟨n1, n2, n3⟩ := wf.2.2.2.2.2.2.2.2.2.2 r hr.1 hr.2
  obtain ⟨z1, z2⟩ := h
  refine ⟨⟨ht, by omega⟩, fun i hi w => n3 i hi ⟨by have := w.2.1; omega, fun j hj => ?_⟩⟩
  rw [← z2 (j : Int) (by omega) (by have := w.2.1; omega)]
  exact w.2.2 j hj
theorem te_m {q : Int} (h : 0 ≤ q ∧ q ≤ n) : (0 ≤ te B n q ∧ te B n q ≤ n) ∧ q ≤ te B n q := by
  have := tok_b (B := B) h
  omega
theorem up_r {m : mS} {a i v b : Int} (h : b ≠ a) : up m a i v b = m b := funext (fun j => up_ne (fun z => h z.1))
theorem up_0 {m : mS} {a i v b j : Int} (h : j ≠ i) : up m a i v b j = m b j := up_ne (fun z => h z.2)
/-- the statement's end is behind its word -/
theorem stP_p {q p' : Int} {d' : mS} (hq : 0 ≤ q ∧ q ≤ n) (hw : ts B n q < te B n q) (h : stP B n d q = .inr (p', d')) : q < p' ∧ p' ≤ n := by
  have b0 := tok_b (B := B) hq
  have b1 := te_m (B := B) (n := n) (q := te B n q) (by omega)
  have b2 := te_m (B := B) (n := n) (q := te B n (te B n q)) (by omega)
  have b3 := te_m (B := B) (n := n) (q := te B n (te B n (te B n q))) (by omega)
  have b4 := te_m (B := B) (n := n) (q := te B n (te B n (te B n (te B n q)))) (by omega)
  have b5 := te_m (B := B) (n := n) (q := te B n (te B n (te B n (te B n (te B n q))))) (by omega)
  unfold stP rkP ltP faP shP coP cif at h
  (repeat' split at h) <;> first | (cases h; omega) | cases h
theorem upx {m : mS} {a i v b j : Int} : up m a i v b j = if b = a ∧ j = i then v else m b j := rfl
end DR
