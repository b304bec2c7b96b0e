/-! ===== the text: what its signs, TOKENS, numbers and words are ===== -/
noncomputable def cif {α : Type} (p : Prop) (a b : α) : α := @ite α p (Classical.propDecidable p) a b
theorem cif_y {α : Type} {p : Prop} {a b : α} (h : p) : cif p a b = a := if_pos h
theorem cif_n {α : Type} {p : Prop} {a b : α} (h : ¬ p) : cif p a b = b := if_neg h
/-- the kind of a sign: 0 between, 1 of a word, 2 of a number, 3 the stop, 4 another -/
def kd (b : Int) : Int := if 97 ≤ b ∧ b ≤ 122 then 1 else if 48 ≤ b ∧ b ≤ 57 then 2 else if b = 59 then 3 else if b = 32 ∨ b = 10 then 0 else 4
theorem kd_b (b : Int) : 0 ≤ kd b ∧ kd b ≤ 4 := by unfold kd; (repeat' split) <;> omega
theorem kd_1 {b : Int} : kd b = 1 ↔ (97 ≤ b ∧ b ≤ 122) := by unfold kd; (repeat' split) <;> omega
theorem kd_2 {b : Int} : kd b = 2 ↔ (48 ≤ b ∧ b ≤ 57) := by unfold kd; (repeat' split) <;> omega
theorem kd_3 {b : Int} : kd b = 3 ↔ b = 59 := by unfold kd; (repeat' split) <;> omega
theorem kd_0 {b : Int} : kd b = 0 ↔ (b = 32 ∨ b = 10) := by unfold kd; (repeat' split) <;> omega
/-- the first place from q on whose sign isn't of kind k -/
def spn (B : Int → Int) (n k : Int) : Nat → Int → Int
  | 0, q => q
  | f + 1, q => if q < n ∧ kd (B q) = k then spn B n k f (q + 1) else q
def sp (B : Int → Int) (n k q : Int) : Int := spn B n k (n - q).toNat q
section TX
variable {B : Int → Int} {n : Int}
theorem sp_y {k q : Int} (h1 : q < n) (h2 : kd (B q) = k) : sp B n k q = sp B n k (q + 1) := by
  unfold sp
  rw [show (n - q).toNat = (n - (q + 1)).toNat + 1 by omega]
  show (if q < n ∧ kd (B q) = k then spn B n k (n - (q + 1)).toNat (q + 1) else q) = _
  rw [if_pos ⟨h1, h2⟩]
theorem sp_n {k q : Int} (h : ¬ (q < n ∧ kd (B q) = k)) : sp B n k q = q := by
  unfold sp
  cases hf : (n - q).toNat with
  | zero => rfl
  | succ f =>
    show (if q < n ∧ kd (B q) = k then spn B n k f (q + 1) else q) = _
    rw [if_neg h]
theorem spn_b {k : Int} : ∀ (f : Nat) (q : Int), (f : Int) ≤ n - q → q ≤ spn B n k f q ∧ spn B n k f q ≤ q + (f : Int) ∧ (∀ j : Int, q ≤ j → j < spn B n k f q → kd (B j) = k) ∧ (spn B n k f q < q + (f : Int) → kd (B (spn B n k f q)) ≠ k)
  | 0, q, _ => by
    show q ≤ q ∧ q ≤ q + ((0 : Nat) : Int) ∧ (∀ j : Int, q ≤ j → j < q → kd (B j) = k) ∧ (q < q + ((0 : Nat) : Int) → kd (B q) ≠ k)
    exact ⟨by omega, by omega, fun j h1 h2 => absurd h1 (by omega), fun h => absurd h (by omega)⟩
  | f + 1, q, h => by
    unfold spn
    by_cases c : q < n ∧ kd (B q) = k
    · rw [if_pos c]
      obtain ⟨a1, a2, a3, a4⟩ := spn_b (k := k) f (q + 1) (by omega)
      refine ⟨by omega, by omega, fun j h1 h2 => ?_, fun h3 => a4 (by omega)⟩
      by_cases e : j = q
      · rw [e]; exact c.2
      · exact a3 j (by omega) h2
    · rw [if_neg c]
      exact ⟨by omega, by omega, fun j h1 h2 => absurd h1 (by omega), fun _ z => c ⟨by omega, z⟩⟩
theorem sp_b {k q : Int} (h : q ≤ n) : (q ≤ sp B n k q ∧ sp B n k q ≤ n) ∧ (∀ j : Int, q ≤ j → j < sp B n k q → kd (B j) = k) ∧ (sp B n k q < n → kd (B (sp B n k q)) ≠ k) := by
  obtain ⟨a1, a2, a3, a4⟩ := spn_b (B := B) (n := n) (k := k) (n - q).toNat q (by omega)
  unfold sp
  exact ⟨⟨a1, by omega⟩, a3, fun h3 => a4 (by omega)⟩
end TX
/-- the TOKEN read from the place q on: where it starts, of what kind it is (5: none is left), where it ends -/
def ts (B : Int → Int) (n q : Int) : Int := sp B n 0 q
def tkd (B : Int → Int) (n q : Int) : Int := if ts B n q < n then kd (B (ts B n q)) else 5
def te (B : Int → Int) (n q : Int) : Int := if ts B n q < n then (if tkd B n q = 1 ∨ tkd B n q = 2 then sp B n (tkd B n q) (ts B n q) else ts B n q + 1) else ts B n q
section TX2
variable {B : Int → Int} {n : Int}
theorem tok_b {q : Int} (h : 0 ≤ q ∧ q ≤ n) : (q ≤ ts B n q ∧ ts B n q ≤ n) ∧ (ts B n q ≤ te B n q ∧ te B n q ≤ n) ∧ (1 ≤ tkd B n q ∧ tkd B n q ≤ 5) ∧ (ts B n q < n → ts B n q < te B n q ∧ tkd B n q = kd (B (ts B n q)) ∧ tkd B n q ≤ 4) ∧ (¬ ts B n q < n → tkd B n q = 5 ∧ te B n q = ts B n q ∧ ts B n q = n) := by
  obtain ⟨a1, a2, a3⟩ := sp_b (B := B) (n := n) (k := 0) (q := q) h.2
  have hk := kd_b (B (ts B n q))
  have hs : ts B n q = sp B n 0 q := rfl
  by_cases c : ts B n q < n
  · have e1 : tkd B n q = kd (B (ts B n q)) := if_pos c
    have hne : kd (B (ts B n q)) ≠ 0 := a3 c
    have e2 : ts B n q < te B n q ∧ te B n q ≤ n := by
      unfold te
      rw [if_pos c]
      split
      · have e3 := sp_y (B := B) (n := n) (k := tkd B n q) c e1.symm
        have e4 := (sp_b (B := B) (n := n) (k := tkd B n q) (q := ts B n q + 1) (by omega)).1
        omega
      · omega
    refine ⟨by omega, by omega, by omega, fun _ => ⟨by omega, e1, by omega⟩, fun z => absurd c z⟩
  · have e1 : tkd B n q = 5 := if_neg c
    have e2 : te B n q = ts B n q := if_neg c
    refine ⟨by omega, by omega, by omega, fun z => absurd z c, fun _ => ⟨e1, e2, by omega⟩⟩
/-- the signs of a word or of a number are all of its kind -/
theorem tok_all {q k : Int} (h : 0 ≤ q ∧ q ≤ n) (hk : k = 1 ∨ k = 2) (ht : tkd B n q = k) : (ts B n q < n ∧ te B n q = sp B n k (ts B n q)) ∧ (∀ j : Int, ts B n q ≤ j → j < te B n q → kd (B j) = k) := by
  have c : ts B n q < n := by
    by_cases z : ts B n q < n
    · exact z
    · have := ((tok_b h).2.2.2.2 z).1
      omega
  have e : te B n q = sp B n k (ts B n q) := by
    unfold te
    rw [if_pos c, ht]
    exact if_pos hk
  refine ⟨⟨c, e⟩, ?_⟩
  rw [e]
  exact (sp_b (by omega)).2.1
/-- the number that signs are: kept once it is above 9999 -/
def nvf (f : Nat → Int) : Nat → Int
  | 0 => 0
  | j + 1 => if 9999 < nvf f j then nvf f j else 10 * nvf f j + f j - 48
/-- the same, held at 100000 -/
def cvf (f : Nat → Int) : Nat → Int
  | 0 => 0
  | j + 1 => if 100000 < cvf f j * 10 + f j - 48 then 100000 else cvf f j * 10 + f j - 48
theorem nv_cv {f : Nat → Int} : ∀ j : Nat, (∀ i : Nat, i < j → 48 ≤ f i ∧ f i ≤ 57) → (0 ≤ nvf f j ∧ nvf f j ≤ 99999) ∧ (0 ≤ cvf f j ∧ cvf f j ≤ 100000) ∧ ((nvf f j ≤ 9999 ∧ cvf f j = nvf f j) ∨ (10000 ≤ nvf f j ∧ 10000 ≤ cvf f j))
  | 0, _ => by
    show ((0 : Int) ≤ 0 ∧ (0 : Int) ≤ 99999) ∧ ((0 : Int) ≤ 0 ∧ (0 : Int) ≤ 100000) ∧ (((0 : Int) ≤ 9999 ∧ (0 : Int) = 0) ∨ ((10000 : Int) ≤ 0 ∧ (10000 : Int) ≤ 0))
    omega
  | j + 1, h => by
    have ih := nv_cv j (fun i hi => h i (by omega))
    have hj := h j (by omega)
    unfold nvf cvf
    split <;> split <;> omega
/-- signs packed, a byte each -/
def pkv (f : Nat → Int) : Nat → Int
  | 0 => 0
  | j + 1 => pkv f j * 256 + f j
theorem pkv_b {f : Nat → Int} : ∀ j : Nat, (∀ i : Nat, i < j → 97 ≤ f i ∧ f i ≤ 122) → 0 ≤ pkv f j ∧ (0 < j → 97 ≤ pkv f j)
  | 0, _ => ⟨Int.le_refl _, fun h => absurd h (Nat.lt_irrefl 0)⟩
  | j + 1, h => by
    have ih := (pkv_b j (fun i hi => h i (by omega))).1
    have hj := h j (by omega)
    unfold pkv
    omega
theorem pkv_8 {f : Nat → Int} {j : Nat} (h : ∀ i : Nat, i < j → 97 ≤ f i ∧ f i ≤ 122) (hj : j ≤ 8) : pkv f j ≤ 9007199254740991999 ∧ (j ≤ 7 → pkv f j ≤ 34621422135410687) := by
  have b : ∀ i : Nat, i < j → 97 ≤ f i ∧ f i ≤ 122 := h
  have p0 : pkv f 0 = 0 := rfl
  have p1 : pkv f 1 = pkv f 0 * 256 + f 0 := rfl
  have p2 : pkv f 2 = pkv f 1 * 256 + f 1 := rfl
  have p3 : pkv f 3 = pkv f 2 * 256 + f 2 := rfl
  have p4 : pkv f 4 = pkv f 3 * 256 + f 3 := rfl
  have p5 : pkv f 5 = pkv f 4 * 256 + f 4 := rfl
  have p6 : pkv f 6 = pkv f 5 * 256 + f 5 := rfl
  have p7 : pkv f 7 = pkv f 6 * 256 + f 6 := rfl
  have p8 : pkv f 8 = pkv f 7 * 256 + f 7 := rfl
  rcases (show j = 0 ∨ j = 1 ∨ j = 2 ∨ j = 3 ∨ j = 4 ∨ j = 5 ∨ j = 6 ∨ j = 7 ∨ j = 8 by omega) with rfl | rfl | rfl | rfl | rfl | rfl | rfl | rfl | rfl
  · omega
  · have := b 0 (by omega); omega
  · have := b 0 (by omega); have := b 1 (by omega); omega
  · have := b 0 (by omega); have := b 1 (by omega); have := b 2 (by omega); omega
  · have := b 0 (by omega); have := b 1 (by omega); have := b 2 (by omega); have := b 3 (by omega); omega
  · have := b 0 (by omega); have := b 1 (by omega); have := b 2 (by omega); have := b 3 (by omega); have := b 4 (by omega); omega
  · have := b 0 (by omega); have := b 1 (by omega); have := b 2 (by omega); have := b 3 (by omega); have := b 4 (by omega); have := b 5 (by omega); omega
  · have := b 0 (by omega); have := b 1 (by omega); have := b 2 (by omega); have := b 3 (by omega); have := b 4 (by omega); have := b 5 (by omega); have := b 6 (by omega); omega
  · have := b 0 (by omega); have := b 1 (by omega); have := b 2 (by omega); have := b 3 (by omega); have := b 4 (by omega); have := b 5 (by omega); have := b 6 (by omega); have := b 7 (by omega); omega
theorem pkv_i {f g : Nat → Int} : ∀ a b : Nat, (∀ i : Nat, i < a → 97 ≤ f i ∧ f i ≤ 122) → (∀ i : Nat, i < b → 97 ≤ g i ∧ g i ≤ 122) → pkv f a = pkv g b → a = b ∧ ∀ i : Nat, i < a → f i = g i
  | 0, 0, _, _, _ => ⟨rfl, fun i hi => absurd hi (Nat.not_lt_zero i)⟩
  | 0, b + 1, _, hg, e => by
    have h1 := (pkv_b (f := g) (b + 1) hg).2 (by omega)
    rw [← e] at h1
    have : (97 : Int) ≤ 0 := h1
    omega
  | a + 1, 0, hf, _, e => by
    have h1 := (pkv_b (f := f) (a + 1) hf).2 (by omega)
    rw [e] at h1
    have : (97 : Int) ≤ 0 := h1
    omega
  | a + 1, b + 1, hf, hg, e => by
    have e' : pkv f a * 256 + f a = pkv g b * 256 + g b := e
    have h1 := hf a (by omega)
    have h2 := hg b (by omega)
    obtain ⟨e1, e2⟩ := pkv_i a b (fun i hi => hf i (by omega)) (fun i hi => hg i (by omega)) (by omega)
    subst e1
    refine ⟨rfl, fun i hi => ?_⟩
    by_cases q : i = a
    · rw [q]; omega
    · exact e2 i (by omega)
theorem pkv_c {f g : Nat → Int} : ∀ a : Nat, (∀ i : Nat, i < a → f i = g i) → pkv f a = pkv g a
  | 0, _ => rfl
  | a + 1, h => by
    show pkv f a * 256 + f a = pkv g a * 256 + g a
    rw [pkv_c a (fun i hi => h i (by omega)), h a (by omega)]
theorem nvf_c {f g : Nat → Int} : ∀ a : Nat, (∀ i : Nat, i < a → f i = g i) → nvf f a = nvf g a
  | 0, _ => rfl
  | a + 1, h => by
    show (if 9999 < nvf f a then nvf f a else 10 * nvf f a + f a - 48) = (if 9999 < nvf g a then nvf g a else 10 * nvf g a + g a - 48)
    rw [nvf_c a (fun i hi => h i (by omega)), h a (by omega)]
end TX2
/-- the signs from the place s on -/
def sgn (B : Int → Int) (s : Int) : Nat → Int := fun j => B (s + (j : Int))
/-- the TOKEN's number -/
def nv (B : Int → Int) (n q : Int) : Int := nvf (sgn B (ts B n q)) (te B n q - ts B n q).toNat
/-- the TOKEN is a number within bounds -/
def isnum (B : Int → Int) (n lo hi q : Int) : Prop := tkd B n q = 2 ∧ lo ≤ nv B n q ∧ nv B n q ≤ hi
/-- the TOKEN is the word i -/
def isw (B : Int → Int) (n : Int) (i : Nat) (q : Int) : Prop := tkd B n q = 1 ∧ te B n q - ts B n q = (slen i : Int) ∧ ∀ j : Nat, j < slen i → B (ts B n q + (j : Int)) = sch i j
/-- what the reference makes of a word -/
def wv (B : Int → Int) (n q : Int) : Int := if 8 < te B n q - ts B n q then 0 else pkv (sgn B (ts B n q)) (te B n q - ts B n q).toNat
def pkw (i : Nat) : Int := pkv (sch i) (slen i)
section TX3
variable {B : Int → Int} {n : Int}
theorem wd_l {q : Int} (h : 0 ≤ q ∧ q ≤ n) (ht : tkd B n q = 1) : (0 < te B n q - ts B n q) ∧ ∀ i : Nat, i < (te B n q - ts B n q).toNat → 97 ≤ sgn B (ts B n q) i ∧ sgn B (ts B n q) i ≤ 122 := by
  obtain ⟨⟨a1, a2⟩, a3⟩ := tok_all h (Or.inl rfl) ht
  have a4 := (tok_b h).2.2.2.1 a1
  refine ⟨by omega, fun i hi => ?_⟩
  exact kd_1.mp (a3 _ (by omega) (by omega))
theorem wv_w {q : Int} {i : Nat} (h : 0 ≤ q ∧ q ≤ n) (hi : i < 5) (ht : tkd B n q = 1) : wv B n q = pkw i ↔ isw B n i q := by
  obtain ⟨l1, l2⟩ := wd_l h ht
  have hs := slen_b i hi
  have hc := fun j hj => (sch_b i hi j hj).1
  have hp := (pkv_b (f := sch i) (slen i) hc).2 (by omega)
  unfold wv pkw
  by_cases c : 8 < te B n q - ts B n q
  · rw [if_pos c]
    constructor
    · intro z
      unfold pkw at *
      omega
    · rintro ⟨-, z, -⟩
      omega
  · rw [if_neg c]
    constructor
    · intro z
      obtain ⟨e1, e2⟩ := pkv_i _ _ l2 hc z
      refine ⟨ht, by omega, fun j hj => e2 j (by omega)⟩
    · rintro ⟨-, z1, z2⟩
      rw [show (te B n q - ts B n q).toNat = slen i by omega]
      exact pkv_c _ z2
theorem wv_0 {q : Int} (h : 0 ≤ q ∧ q ≤ n) (ht : tkd B n q = 1) : wv B n q ≠ 0 ↔ te B n q - ts B n q ≤ 8 := by
  obtain ⟨l1, l2⟩ := wd_l h ht
  have hp := (pkv_b (f := sgn B (ts B n q)) (te B n q - ts B n q).toNat l2).2 (by omega)
  unfold wv
  split <;> omega
theorem wv_b {q : Int} (h : 0 ≤ q ∧ q ≤ n) (ht : tkd B n q = 1) : 0 ≤ wv B n q ∧ wv B n q ≤ 9007199254740991999 := by
  obtain ⟨l1, l2⟩ := wd_l h ht
  unfold wv
  split
  · omega
  · exact ⟨(pkv_b _ l2).1, (pkv_8 l2 (by omega)).1⟩
theorem nv_b {q : Int} (h : 0 ≤ q ∧ q ≤ n) (ht : tkd B n q = 2) : 0 ≤ nv B n q ∧ nv B n q ≤ 99999 := by
  obtain ⟨⟨a1, a2⟩, a3⟩ := tok_all h (Or.inr rfl) ht
  exact (nv_cv _ (fun i hi => kd_2.mp (a3 _ (by omega) (by omega)))).1
end TX3
