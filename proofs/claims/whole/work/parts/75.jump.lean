/-! ===== who must have jumped: heaps of places, and heaps of the cabs in both ===== -/
theorem popN_t (M k : Nat) : popN M (k + 1) = popN M k + (if M.testBit k = true then 1 else 0) := by
  show popN M k + M / 2 ^ k % 2 = _
  have h := bt_div M k
  have e : ((M / 2 ^ k : Nat) : Int) = (M : Int) / 2 ^ k := by rw [Int.natCast_ediv, Int.natCast_pow]; rfl
  rw [← e] at h
  split
  · rename_i q
    have := h.mp q
    omega
  · rename_i q
    have : ¬ ((M / 2 ^ k : Nat) : Int) % 2 = 1 := fun z => q (h.mpr z)
    omega
def lsG (p : Nat → Int) (M g : Nat) : Nat → Int
  | 0 => -1
  | k + 1 => if lsG p M g k = -2 then -2 else if M.testBit k = true ∧ g.testBit k = false then (if p k < lsG p M g k then -2 else p k) else lsG p M g k
def lsH (P : Nat → Int) (h : Nat) : Nat → Int
  | 0 => -1
  | t + 1 => if lsH P h t = -2 then -2 else if h.testBit t = false then (if P t < lsH P h t then -2 else P t) else lsH P h t
def btG (c : Nat → Nat) (g : Nat) : Nat → Nat
  | 0 => 0
  | k + 1 => if g.testBit k = true then btG c g k ||| 2 ^ (c k) else btG c g k
theorem ls_eq {p P : Nat → Int} {M g h n : Nat} (hP : ∀ q : Nat, q < n → M.testBit q = true → P (popN M q) = p q) (hg : ∀ q : Nat, q < n → M.testBit q = true → g.testBit q = h.testBit (popN M q)) : ∀ k : Nat, k ≤ n → lsG p M g k = lsH P h (popN M k)
  | 0, _ => rfl
  | k + 1, hk => by
    have ih := ls_eq hP hg k (by omega)
    rw [popN_t]
    by_cases q : M.testBit k = true
    · rw [if_pos q]
      show (if lsG p M g k = -2 then -2 else if M.testBit k = true ∧ g.testBit k = false then (if p k < lsG p M g k then -2 else p k) else lsG p M g k) = (if lsH P h (popN M k) = -2 then -2 else if h.testBit (popN M k) = false then (if P (popN M k) < lsH P h (popN M k) then -2 else P (popN M k)) else lsH P h (popN M k))
      rw [ih, hP k (by omega) q, ← hg k (by omega) q]
      simp only [q, true_and]
    · rw [if_neg q]
      show (if lsG p M g k = -2 then -2 else if M.testBit k = true ∧ g.testBit k = false then (if p k < lsG p M g k then -2 else p k) else lsG p M g k) = lsH P h (popN M k)
      by_cases z : lsG p M g k = -2
      · rw [if_pos z, ← ih, z]
      · rw [if_neg z, if_neg (fun w => q w.1), ih]
theorem bt_eq {c C : Nat → Nat} {M g h n : Nat} (hC : ∀ q : Nat, q < n → M.testBit q = true → C (popN M q) = c q) (hg : ∀ q : Nat, q < n → g.testBit q = (M.testBit q && h.testBit (popN M q))) : ∀ k : Nat, k ≤ n → btG c g k = btG C h (popN M k)
  | 0, _ => rfl
  | k + 1, hk => by
    have ih := bt_eq hC hg k (by omega)
    rw [popN_t]
    have e := hg k (by omega)
    by_cases q : M.testBit k = true
    · rw [if_pos q]
      rw [q, Bool.true_and] at e
      show (if g.testBit k = true then btG c g k ||| 2 ^ (c k) else btG c g k) = (if h.testBit (popN M k) = true then btG C h (popN M k) ||| 2 ^ (C (popN M k)) else btG C h (popN M k))
      rw [ih, hC k (by omega) q, e]
    · rw [if_neg q]
      rw [Bool.not_eq_true] at q
      rw [q, Bool.false_and] at e
      show (if g.testBit k = true then btG c g k ||| 2 ^ (c k) else btG c g k) = btG C h (popN M k)
      rw [e, if_neg (by decide)]
      exact ih
theorem pop_eqH {M g h n : Nat} (hg : ∀ q : Nat, q < n → g.testBit q = (M.testBit q && h.testBit (popN M q))) : ∀ k : Nat, k ≤ n → popN g k = popN h (popN M k)
  | 0, _ => rfl
  | k + 1, hk => by
    have ih := pop_eqH hg k (by omega)
    have e := hg k (by omega)
    rw [popN_t g, popN_t M, ih, e]
    by_cases q : M.testBit k = true
    · rw [if_pos q, popN_t, q, Bool.true_and]
    · rw [if_neg q]
      rw [Bool.not_eq_true] at q
      rw [q, Bool.false_and]
      rfl
theorem popN_lt {x k : Nat} (h : x < 2 ^ k) (j : Nat) : popN x (k + j) = popN x k := by
  rw [popN_split, Nat.div_eq_of_lt h, popN_0]
  rfl
def stp (ok : Bool) (n b : Nat) (s : Nat × Nat × Nat) : Nat × Nat × Nat := if ok = true ∧ n ≤ s.1 then (if n < s.1 then (n, b, 1) else (s.1, s.2.1 &&& b, s.2.2 + 1)) else s
def jfold (ok : Nat → Bool) (b : Nat → Nat) : Nat → Nat × Nat × Nat
  | 0 => (7, 0, 0)
  | g + 1 => stp (ok g) (pop g) (b g) (jfold ok b g)
theorem jfold_l (ok : Nat → Bool) (b : Nat → Nat) : ∀ N : Nat, jfold ok b N = (List.range N).foldl (fun s g => stp (ok g) (pop g) (b g) s) (7, 0, 0)
  | 0 => rfl
  | N + 1 => by
    rw [List.range_succ, List.foldl_append, ← jfold_l ok b N]
    rfl
theorem jfold_le (ok : Nat → Bool) (b : Nat → Nat) : ∀ N : Nat, (jfold ok b N).1 ≤ 7 ∧ ∀ h : Nat, h < N → ok h = true → (jfold ok b N).1 ≤ pop h
  | 0 => ⟨Nat.le_refl 7, fun h hh => by omega⟩
  | N + 1 => by
    have ih := jfold_le ok b N
    have hs : (jfold ok b (N + 1)).1 ≤ (jfold ok b N).1 ∧ (ok N = true → (jfold ok b (N + 1)).1 ≤ pop N) := by
      show (stp (ok N) (pop N) (b N) (jfold ok b N)).1 ≤ (jfold ok b N).1 ∧ (ok N = true → (stp (ok N) (pop N) (b N) (jfold ok b N)).1 ≤ pop N)
      unfold stp
      by_cases q : ok N = true ∧ pop N ≤ (jfold ok b N).1
      · rw [if_pos q]
        by_cases z : pop N < (jfold ok b N).1
        · rw [if_pos z]; exact ⟨by show pop N ≤ _; omega, fun _ => Nat.le_refl _⟩
        · rw [if_neg z]; exact ⟨Nat.le_refl _, fun _ => by show (jfold ok b N).1 ≤ _; omega⟩
      · rw [if_neg q]; exact ⟨Nat.le_refl _, fun o => by have : ¬ pop N ≤ (jfold ok b N).1 := fun z => q ⟨o, z⟩; omega⟩
    refine ⟨by omega, fun h hh o => ?_⟩
    by_cases q : h = N
    · subst q; exact hs.2 o
    · have := ih.2 h (by omega) o; omega
def emb (M h : Nat) : Nat → Nat
  | 0 => 0
  | k + 1 => if M.testBit k = true ∧ h.testBit (popN M k) = true then emb M h k ||| 2 ^ k else emb M h k
theorem emb_t (M h : Nat) (q : Nat) : ∀ n : Nat, (emb M h n).testBit q = (decide (q < n) && (M.testBit q && h.testBit (popN M q)))
  | 0 => by show (0 : Nat).testBit q = _; rw [Nat.zero_testBit]; simp
  | n + 1 => by
    have ih := emb_t M h q n
    show (if M.testBit n = true ∧ h.testBit (popN M n) = true then emb M h n ||| 2 ^ n else emb M h n).testBit q = _
    by_cases z : q = n
    · subst z
      rw [show decide (q < q + 1) = true by simp, Bool.true_and]
      rw [show decide (q < q) = false by simp, Bool.false_and] at ih
      by_cases c : M.testBit q = true ∧ h.testBit (popN M q) = true
      · rw [if_pos c, bt_or_pow, c.1, c.2]; simp
      · rw [if_neg c, ih]
        cases h1 : M.testBit q <;> cases h2 : h.testBit (popN M q) <;> simp_all
    · have e : decide (q < n + 1) = decide (q < n) := by simp; omega
      rw [e, ← ih]
      split
      · rw [bt_or_pow, show decide (q = n) = false by simp [z], Bool.or_false]
      · rfl
def embC (M n : Nat) : Bool := decide ((List.range (2 ^ n)).filter (fun g => Nat.beq (g &&& M) g) = (List.range (2 ^ popN M n)).map (fun h => emb M h n))
def embA : Bool := (List.range 7).all (fun n => (List.range (2 ^ n)).all (fun M => embC M n))
theorem emb_chk : embA = true := by decide +kernel
theorem emb_ok {M n : Nat} (hn : n < 7) (hM : M < 2 ^ n) : (List.range (2 ^ n)).filter (fun g => Nat.beq (g &&& M) g) = (List.range (2 ^ popN M n)).map (fun h => emb M h n) := by
  have h1 := emb_chk
  unfold embA at h1
  rw [List.all_eq_true] at h1
  have h2 := h1 n (List.mem_range.mpr hn)
  rw [List.all_eq_true] at h2
  have h3 := h2 M (List.mem_range.mpr hM)
  unfold embC at h3
  exact of_decide_eq_true h3
theorem foldl_ext {α β : Type} {f g : β → α → β} : ∀ (l : List α) (s : β), (∀ x ∈ l, ∀ t, f t x = g t x) → l.foldl f s = l.foldl g s
  | [], _, _ => rfl
  | a :: l, s, h => by
    rw [List.foldl_cons, List.foldl_cons, h a (List.mem_cons_self ..)]
    exact foldl_ext l _ (fun x hx => h x (List.mem_cons_of_mem _ hx))
theorem jfold_eq {n M : Nat} (hn : n < 7) (hM : M < 2 ^ n) {okG okH : Nat → Bool} {bG bH : Nat → Nat} (h1 : ∀ g : Nat, okG g = true → g &&& M = g)
    (h2 : ∀ h : Nat, h < 2 ^ popN M n → okG (emb M h n) = okH h ∧ bG (emb M h n) = bH h ∧ pop (emb M h n) = pop h) : jfold okG bG (2 ^ n) = jfold okH bH (2 ^ popN M n) := by
  rw [jfold_l, jfold_l]
  have e1 : (List.range (2 ^ n)).foldl (fun s g => stp (okG g) (pop g) (bG g) s) (7, 0, 0) = ((List.range (2 ^ n)).filter (fun g => Nat.beq (g &&& M) g)).foldl (fun s g => stp (okG g) (pop g) (bG g) s) (7, 0, 0) := by
    rw [List.foldl_filter]
    refine foldl_ext _ _ (fun g _ t => ?_)
    by_cases q : Nat.beq (g &&& M) g = true
    · rw [if_pos q]
    · rw [if_neg q]
      have : okG g = false := Bool.eq_false_iff.mpr (fun z => q (by rw [h1 g z]; exact Nat.beq_refl g))
      rw [this]
      unfold stp
      rw [if_neg (fun z => by cases z.1)]
  rw [e1, emb_ok hn hM, List.foldl_map]
  refine foldl_ext _ _ (fun h hh t => ?_)
  obtain ⟨a1, a2, a3⟩ := h2 h (List.mem_range.mp hh)
  rw [a1, a2, a3]
/-! the model's own -/
def pinF (m : mS) (j c : Int) : Nat → Int
  | 0 => -1
  | n + 1 => if pinF m j c n = -1 then (if m (400 + j) (3 + (n : Int)) = c then (n : Int) else -1) else pinF m j c n
theorem pinF_f (m : mS) (j c : Int) : ∀ n : Nat, isFst (fun k => m (400 + j) (3 + k) = c) (n : Int) (pinF m j c n)
  | 0 => Or.inl ⟨rfl, fun i h1 h2 => by omega⟩
  | n + 1 => by
    have ih := pinF_f m j c n
    show isFst _ _ (if pinF m j c n = -1 then (if m (400 + j) (3 + (n : Int)) = c then (n : Int) else -1) else pinF m j c n)
    rcases ih with ⟨a1, a2⟩ | ⟨a1, a2, a3, a4⟩
    · rw [if_pos a1]
      by_cases q : m (400 + j) (3 + (n : Int)) = c
      · rw [if_pos q]
        exact Or.inr ⟨by omega, by omega, q, fun i h1 h2 => a2 i h1 h2⟩
      · rw [if_neg q]
        refine Or.inl ⟨rfl, fun i h1 h2 => ?_⟩
        by_cases z : i = (n : Int)
        · subst z; exact q
        · exact a2 i h1 (by omega)
    · rw [if_neg (by omega)]
      exact Or.inr ⟨a1, by omega, a3, a4⟩
def pin (m : mS) (i j : Int) (k : Nat) : Int := pinF m j (m (400 + i) (3 + (k : Int))) (m (400 + j) 2).toNat
theorem pin_f {m : mS} {i j : Int} (k : Nat) (h : 0 ≤ m (400 + j) 2) : isFst (fun q => m (400 + j) (3 + q) = m (400 + i) (3 + (k : Int))) (m (400 + j) 2) (pin m i j k) := by
  have := pinF_f m j (m (400 + i) (3 + (k : Int))) (m (400 + j) 2).toNat
  rw [Int.toNat_of_nonneg h] at this
  exact this
def mskF (m : mS) (i j : Int) : Nat → Nat
  | 0 => 0
  | k + 1 => if pin m i j k = -1 then mskF m i j k else mskF m i j k ||| 2 ^ k
theorem mskF_t (m : mS) (i j : Int) (q : Nat) : ∀ n : Nat, (mskF m i j n).testBit q = true ↔ (q < n ∧ pin m i j q ≠ -1)
  | 0 => by
    show (0 : Nat).testBit q = true ↔ _
    rw [Nat.zero_testBit]
    exact ⟨fun h => absurd h (by decide), fun h => by omega⟩
  | n + 1 => by
    have ih := mskF_t m i j q n
    show (if pin m i j n = -1 then mskF m i j n else mskF m i j n ||| 2 ^ n).testBit q = true ↔ _
    by_cases z : pin m i j n = -1
    · rw [if_pos z, ih]
      constructor
      · exact fun h => ⟨by omega, h.2⟩
      · intro h
        refine ⟨?_, h.2⟩
        rcases Nat.lt_or_ge q n with w | w
        · exact w
        · exact absurd (show pin m i j q = -1 by rw [show q = n by omega]; exact z) h.2
    · rw [if_neg z, bt_or_pow, Bool.or_eq_true, ih, decide_eq_true_eq]
      constructor
      · rintro (h | h)
        · exact ⟨by omega, h.2⟩
        · subst h; exact ⟨by omega, z⟩
      · intro h
        by_cases w : q = n
        · exact Or.inr w
        · exact Or.inl ⟨by omega, h.2⟩
theorem mskF_b (m : mS) (i j : Int) : ∀ n : Nat, mskF m i j n < 2 ^ n
  | 0 => by show 0 < 1; omega
  | n + 1 => by
    have ih := mskF_b m i j n
    show (if pin m i j n = -1 then mskF m i j n else mskF m i j n ||| 2 ^ n) < 2 ^ (n + 1)
    have h2 : 2 ^ n < 2 ^ (n + 1) := Nat.pow_lt_pow_right (by decide) (by omega)
    split
    · omega
    · exact Nat.or_lt_two_pow (by omega) h2
def jM (m : mS) (i j : Int) : Nat := mskF m i j (m (400 + i) 2).toNat
def cof (m : mS) (i : Int) (k : Nat) : Nat := (m (400 + i) (3 + (k : Int))).toNat
def okG (m : mS) (i j : Int) (g : Nat) : Bool := decide (g &&& jM m i j = g) && decide (lsG (pin m i j) (jM m i j) g (m (400 + i) 2).toNat ≠ -2)
def jall (m : mS) (i j : Int) : Nat × Nat × Nat := jfold (okG m i j) (fun g => btG (cof m i) g (m (400 + i) 2).toNat) (2 ^ (m (400 + i) 2).toNat)
def okH (P : Nat → Int) (s h : Nat) : Bool := decide (lsH P h s ≠ -2)
theorem jall_C {m : mS} {i j : Int} {P : Nat → Int} {C : Nat → Nat} (h6 : 0 ≤ m (400 + i) 2 ∧ m (400 + i) 2 ≤ 6)
    (hP : ∀ q : Nat, (q : Int) < m (400 + i) 2 → pin m i j q ≠ -1 → P (popN (jM m i j) q) = pin m i j q ∧ C (popN (jM m i j) q) = cof m i q) :
    jall m i j = jfold (okH P (popN (jM m i j) (m (400 + i) 2).toNat)) (fun h => btG C h (popN (jM m i j) (m (400 + i) 2).toNat)) (2 ^ popN (jM m i j) (m (400 + i) 2).toNat) := by
  generalize hn : (m (400 + i) 2).toNat = n at *
  have hM : jM m i j < 2 ^ n := by unfold jM; rw [hn]; exact mskF_b m i j n
  have ht : ∀ q : Nat, (jM m i j).testBit q = true ↔ (q < n ∧ pin m i j q ≠ -1) := fun q => by unfold jM; rw [hn]; exact mskF_t m i j q n
  unfold jall
  rw [hn]
  refine jfold_eq (by omega) hM (fun g h => ?_) (fun h hh => ?_)
  · unfold okG at h
    rw [Bool.and_eq_true] at h
    exact of_decide_eq_true h.1
  · have he : ∀ q : Nat, q < n → (emb (jM m i j) h n).testBit q = ((jM m i j).testBit q && h.testBit (popN (jM m i j) q)) := fun q hq => by rw [emb_t, show decide (q < n) = true by simpa using hq, Bool.true_and]
    have hl : emb (jM m i j) h n < 2 ^ n := by
      have hm : emb (jM m i j) h n ∈ (List.range (2 ^ n)).filter (fun g => Nat.beq (g &&& jM m i j) g) := by
        rw [emb_ok (by omega) hM]
        exact List.mem_map.mpr ⟨h, List.mem_range.mpr hh, rfl⟩
      exact List.mem_range.mp (List.mem_filter.mp hm).1
    have hsb : emb (jM m i j) h n &&& jM m i j = emb (jM m i j) h n := by
      have hm : emb (jM m i j) h n ∈ (List.range (2 ^ n)).filter (fun g => Nat.beq (g &&& jM m i j) g) := by
        rw [emb_ok (by omega) hM]
        exact List.mem_map.mpr ⟨h, List.mem_range.mpr hh, rfl⟩
      exact Nat.eq_of_beq_eq_true (List.mem_filter.mp hm).2
    refine ⟨?_, ?_, ?_⟩
    · unfold okG okH
      rw [hn, hsb, ls_eq (P := P) (h := h) (n := n) (fun q q1 q2 => (hP q (by omega) ((ht q).mp q2).2).1) (fun q q1 q2 => by rw [he q q1, q2, Bool.true_and]) n (Nat.le_refl n)]
      simp
    · exact bt_eq (fun q q1 q2 => (hP q (by omega) ((ht q).mp q2).2).2) he n (Nat.le_refl n)
    · have h2 := pop_eqH he n (Nat.le_refl n)
      have h3 := popN_lt hl (16 - n)
      have h4 : popN (jM m i j) n ≤ n := popN_le _ _
      have h5 := popN_lt hh (16 - popN (jM m i j) n)
      rw [show n + (16 - n) = 16 by omega] at h3
      rw [show popN (jM m i j) n + (16 - popN (jM m i j) n) = 16 by omega] at h5
      unfold pop
      rw [h3, h5, h2]
theorem lsH_full (P : Nat → Int) (s : Nat) : ∀ t : Nat, t ≤ s → lsH P (2 ^ s - 1) t = -1
  | 0, _ => rfl
  | t + 1, h => by
    have ih := lsH_full P s t (by omega)
    show (if lsH P (2 ^ s - 1) t = -2 then -2 else if (2 ^ s - 1).testBit t = false then (if P t < lsH P (2 ^ s - 1) t then -2 else P t) else lsH P (2 ^ s - 1) t) = -1
    rw [ih, if_neg (by decide), Nat.testBit_two_pow_sub_one, show decide (t < s) = true by simp; omega, if_neg (by decide)]
theorem pop_6 {x : Nat} (h : x < 64) : pop x ≤ 6 := by
  have h1 : popN x 16 = popN x 6 := popN_lt (k := 6) (show x < 2 ^ 6 from h) 10
  have h2 := popN_le x 6
  unfold pop
  omega
theorem jall_7 {P : Nat → Int} {b : Nat → Nat} {s : Nat} (hs : s ≤ 6) : (jfold (okH P s) b (2 ^ s)).1 < 7 := by
  have h2 : 2 ^ s ≤ 2 ^ 6 := Nat.pow_le_pow_right (by decide) hs
  have h1 : 1 ≤ 2 ^ s := Nat.one_le_two_pow
  have h := (jfold_le (okH P s) b (2 ^ s)).2 (2 ^ s - 1) (by omega) (by unfold okH; rw [lsH_full P s s (Nat.le_refl s)]; decide)
  have := pop_6 (x := 2 ^ s - 1) (by omega)
  omega
/-- the next reading of the rank -/
def isNxt (m : mS) (i v : Int) : Prop := (v = -1 ∧ ∀ q : Int, i < q → q < m 0 6 → m (400 + q) 0 ≠ m (400 + i) 0) ∨ (i < v ∧ v < m 0 6 ∧ m (400 + v) 0 = m (400 + i) 0 ∧ ∀ q : Int, i < q → q < v → m (400 + q) 0 ≠ m (400 + i) 0)
theorem isNxt_u {m : mS} {i v w : Int} (h0 : 0 ≤ i) (h1 : isNxt m i v) (h2 : isNxt m i w) : v = w := by
  rcases h1 with ⟨a1, a2⟩ | ⟨a1, a2, a3, a4⟩ <;> rcases h2 with ⟨b1, b2⟩ | ⟨b1, b2, b3, b4⟩
  · omega
  · exact absurd b3 (a2 w b1 b2)
  · exact absurd a3 (b2 v a1 a2)
  · rcases Int.lt_trichotomy v w with q | q | q
    · exact absurd a3 (b4 v a1 q)
    · exact q
    · exact absurd b3 (a4 w b1 q)
def jval (m : mS) (i j w : Int) : Nat := if w = 0 then (jall m i j).1 else if w = 1 then (jall m i j).2.1 else (jall m i j).2.2
def vjump (m : mS) (i w : Int) : Prop := (0 ≤ i ∧ i < m 0 6) ∧ (0 ≤ w ∧ w ≤ 2)
def isjump (m : mS) (i w v : Int) : Prop := (¬ vjump m i w ∧ v = -1) ∨ (vjump m i w ∧ ((isNxt m i (-1) ∧ v = -1) ∨ ∃ j : Int, isNxt m i j ∧ i < j ∧ v = ((jval m i j w : Nat) : Int)))
theorem isjump_u {m : mS} {i w u v : Int} (h1 : isjump m i w u) (h2 : isjump m i w v) : u = v := by
  rcases h1 with ⟨a1, a2⟩ | ⟨a1, a2⟩ <;> rcases h2 with ⟨b1, b2⟩ | ⟨b1, b2⟩
  · omega
  · exact absurd b1 a1
  · exact absurd a1 b1
  · have h0 := a1.1.1
    rcases a2 with ⟨c1, c2⟩ | ⟨j, c1, c2, c3⟩ <;> rcases b2 with ⟨d1, d2⟩ | ⟨k, d1, d2, d3⟩
    · omega
    · have := isNxt_u h0 c1 d1; omega
    · have := isNxt_u h0 c1 d1; omega
    · have := isNxt_u h0 c1 d1
      subst this
      omega
theorem jN_m1 (b : Nat) : jI (-1) &&& jI (b : Int) = jI (b : Int) := by
  show Int32.ofInt (-1) &&& _ = _
  exact Int32.neg_one_and
