/-! ===== rings of wishes: rk, ws: where a cab stands and where it wishes to; S: the bits of the chosen ===== -/
def wt (c : Nat) : Int := 1048576 - 2 ^ c
theorem wt_b {c : Nat} (h : c < 16) : 1015808 ≤ wt c ∧ wt c < 1048576 := by
  have h1 : (2 : Nat) ^ c ≤ 2 ^ 15 := Nat.pow_le_pow_right (by decide) (by omega)
  have h2 : 1 ≤ (2 : Nat) ^ c := Nat.one_le_two_pow
  have e : ((2 ^ c : Nat) : Int) = 2 ^ c := by rw [Int.natCast_pow]; rfl
  unfold wt
  omega
def xb (S c : Nat) : Int := if S.testBit c = true then 1 else 0
def dl (f : Int → Int) (rk ws : Nat → Int) (c : Nat) : Int := f (ws c) - f (rk c)
/-- sum over the chosen -/
def sm (S : Nat) (g : Nat → Int) : Nat → Int
  | 0 => 0
  | c + 1 => sm S g c + (if S.testBit c = true then g c else 0)
def ind (r : Int) : Int → Int := fun v => if v = r then 1 else 0
def bal (rk ws : Nat → Int) (S n : Nat) (r : Int) : Int := sm S (dl (ind r) rk ws) n
theorem sm_R6 {rk ws : Nat → Int} {S : Nat} (f : Int → Int) : ∀ n : Nat, (∀ c : Nat, c < n → S.testBit c = true → (0 ≤ rk c ∧ rk c < 6) ∧ (0 ≤ ws c ∧ ws c < 6)) →
    sm S (dl f rk ws) n = f 0 * bal rk ws S n 0 + f 1 * bal rk ws S n 1 + f 2 * bal rk ws S n 2 + f 3 * bal rk ws S n 3 + f 4 * bal rk ws S n 4 + f 5 * bal rk ws S n 5
  | 0, _ => by show (0 : Int) = f 0 * 0 + f 1 * 0 + f 2 * 0 + f 3 * 0 + f 4 * 0 + f 5 * 0; simp
  | n + 1, h => by
    have ih := sm_R6 f n (fun c hc => h c (by omega))
    have e : ∀ r, bal rk ws S (n + 1) r = bal rk ws S n r + (if S.testBit n = true then dl (ind r) rk ws n else 0) := fun r => rfl
    show sm S (dl f rk ws) n + (if S.testBit n = true then dl f rk ws n else 0) = _
    rw [ih, e, e, e, e, e, e]
    by_cases q : S.testBit n = true
    · simp only [if_pos q]
      obtain ⟨h1, h2⟩ := h n (by omega) q
      have key : dl f rk ws n = f 0 * dl (ind 0) rk ws n + f 1 * dl (ind 1) rk ws n + f 2 * dl (ind 2) rk ws n + f 3 * dl (ind 3) rk ws n + f 4 * dl (ind 4) rk ws n + f 5 * dl (ind 5) rk ws n := by
        unfold dl
        have a1 : rk n = 0 ∨ rk n = 1 ∨ rk n = 2 ∨ rk n = 3 ∨ rk n = 4 ∨ rk n = 5 := by omega
        have a2 : ws n = 0 ∨ ws n = 1 ∨ ws n = 2 ∨ ws n = 3 ∨ ws n = 4 ∨ ws n = 5 := by omega
        rcases a1 with a | a | a | a | a | a <;> rcases a2 with b | b | b | b | b | b <;> rw [a, b] <;> simp [ind] <;> omega
      rw [key]
      simp only [Int.mul_add]
      omega
    · simp only [if_neg q, Int.add_zero]
def isRg (rk ws : Nat → Int) (S n : Nat) : Prop := ∀ r : Int, 0 ≤ r → r < 6 → bal rk ws S n r = 0
theorem sm_ring {rk ws : Nat → Int} {S n : Nat} (f : Int → Int) (h : ∀ c : Nat, c < n → S.testBit c = true → (0 ≤ rk c ∧ rk c < 6) ∧ (0 ≤ ws c ∧ ws c < 6)) (hR : isRg rk ws S n) : sm S (dl f rk ws) n = 0 := by
  rw [sm_R6 f n h, hR 0 (by omega) (by omega), hR 1 (by omega) (by omega), hR 2 (by omega) (by omega), hR 3 (by omega) (by omega), hR 4 (by omega) (by omega), hR 5 (by omega) (by omega)]
  simp
/-- prices of the ranks that show that nothing gains -/
def feas (f : Int → Int) (rk ws : Nat → Int) (S n : Nat) : Prop := ∀ c : Nat, c < n → ws c ≠ -1 → (S.testBit c = false → wt c ≤ dl f rk ws c) ∧ (S.testBit c = true → dl f rk ws c ≤ wt c)
theorem feas_le {f : Int → Int} {rk ws : Nat → Int} {S T n : Nat} (h : feas f rk ws S n) (hT : ∀ c : Nat, c < n → T.testBit c = true → ws c ≠ -1) (hS : ∀ c : Nat, c < n → S.testBit c = true → ws c ≠ -1) :
    ∀ k : Nat, k ≤ n → sm T wt k - sm T (dl f rk ws) k ≤ sm S wt k - sm S (dl f rk ws) k
  | 0, _ => by show (0 : Int) - 0 ≤ 0 - 0; omega
  | k + 1, hk => by
    have ih := feas_le h hT hS k (by omega)
    show sm T wt k + (if T.testBit k = true then wt k else 0) - (sm T (dl f rk ws) k + (if T.testBit k = true then dl f rk ws k else 0)) ≤ sm S wt k + (if S.testBit k = true then wt k else 0) - (sm S (dl f rk ws) k + (if S.testBit k = true then dl f rk ws k else 0))
    by_cases a : T.testBit k = true
    · rw [if_pos a, if_pos a]
      by_cases b : S.testBit k = true
      · rw [if_pos b, if_pos b]; omega
      · rw [if_neg b, if_neg b]
        have := (h k (by omega) (hT k (by omega) a)).1 (by simpa using b)
        omega
    · rw [if_neg a, if_neg a]
      by_cases b : S.testBit k = true
      · rw [if_pos b, if_pos b]
        have := (h k (by omega) (hS k (by omega) b)).2 b
        omega
      · rw [if_neg b, if_neg b]; omega
/-- a heap of wishing cabs below n -/
def isHp (rk ws : Nat → Int) (S n : Nat) : Prop := ∀ c : Nat, S.testBit c = true → c < n ∧ ws c ≠ -1
def rkOK (rk ws : Nat → Int) (n : Nat) : Prop := ∀ c : Nat, c < n → ws c ≠ -1 → (0 ≤ rk c ∧ rk c < 6) ∧ (0 ≤ ws c ∧ ws c < 6) ∧ rk c ≠ ws c
theorem opt_le {f : Int → Int} {rk ws : Nat → Int} {S T n : Nat} (ok : rkOK rk ws n) (h : feas f rk ws S n) (hS : isHp rk ws S n) (hT : isHp rk ws T n) (rS : isRg rk ws S n) (rT : isRg rk ws T n) : sm T wt n ≤ sm S wt n := by
  have h1 := feas_le h (fun c _ q => (hT c q).2) (fun c _ q => (hS c q).2) n (Nat.le_refl n)
  rw [sm_ring f (fun c hc q => ⟨(ok c hc (hT c q).2).1, (ok c hc (hT c q).2).2.1⟩) rT, sm_ring f (fun c hc q => ⟨(ok c hc (hS c q).2).1, (ok c hc (hS c q).2).2.1⟩) rS] at h1
  omega
theorem sm_wt (S : Nat) : ∀ n : Nat, sm S wt n = 1048576 * (popN S n : Int) - ((S % 2 ^ n : Nat) : Int)
  | 0 => by rw [Nat.pow_zero, Nat.mod_one]; rfl
  | n + 1 => by
    show sm S wt n + (if S.testBit n = true then wt n else 0) = _
    rw [sm_wt S n, popN_t, Nat.mod_pow_succ]
    have e : ((2 ^ n : Nat) : Int) = 2 ^ n := by rw [Int.natCast_pow]; rfl
    have ht := tb_i S n
    have hb := tb_b S n
    rw [show S / 2 ^ n % 2 = tb S n from rfl]
    by_cases q : S.testBit n = true
    · rw [if_pos q, if_pos q, ht.mp q]
      unfold wt
      omega
    · have h0 : tb S n = 0 := by have : ¬ tb S n = 1 := fun z => q (ht.mpr z); omega
      rw [if_neg q, if_neg q, h0]
      omega
/-! layers of ways from s -/
def tlA (rk ws : Nat → Int) (S c : Nat) : Int := if S.testBit c = true then ws c else rk c
def hdA (rk ws : Nat → Int) (S c : Nat) : Int := if S.testBit c = true then rk c else ws c
def gnA (S c : Nat) : Int := if S.testBit c = true then -wt c else wt c
def stM (rk ws : Nat → Int) (S : Nat) (f : Int → Int) (v : Int) : Nat → Int
  | 0 => f v
  | c + 1 => if ws c ≠ -1 ∧ hdA rk ws S c = v ∧ f (tlA rk ws S c) ≠ (-268435456) ∧ stM rk ws S f v c < f (tlA rk ws S c) + gnA S c then f (tlA rk ws S c) + gnA S c else stM rk ws S f v c
def lyM (rk ws : Nat → Int) (S n : Nat) (s : Int) : Nat → Int → Int
  | 0 => fun v => if v = s then 0 else (-268435456)
  | k + 1 => fun v => stM rk ws S (lyM rk ws S n s k) v n
theorem gnA_b {S c : Nat} (h : c < 16) : -1048576 ≤ gnA S c ∧ gnA S c ≤ 1048576 := by
  have := wt_b h
  unfold gnA
  split <;> omega
theorem stM_ge (rk ws : Nat → Int) (S : Nat) (f : Int → Int) (v : Int) : ∀ c : Nat, f v ≤ stM rk ws S f v c
  | 0 => Int.le_refl _
  | c + 1 => by
    have ih := stM_ge rk ws S f v c
    unfold stM
    split <;> omega
theorem stM_arc (rk ws : Nat → Int) (S : Nat) (f : Int → Int) : ∀ n c : Nat, c < n → ws c ≠ -1 → f (tlA rk ws S c) ≠ (-268435456) → f (tlA rk ws S c) + gnA S c ≤ stM rk ws S f (hdA rk ws S c) n
  | 0, c, h, _, _ => by omega
  | n + 1, c, h, h1, h2 => by
    by_cases q : c = n
    · subst q
      unfold stM
      split
      · exact Int.le_refl _
      · rename_i z
        have : ¬ stM rk ws S f (hdA rk ws S c) c < f (tlA rk ws S c) + gnA S c := fun w => z ⟨h1, rfl, h2, w⟩
        omega
    · have ih := stM_arc rk ws S f n c (by omega) h1 h2
      have hm : stM rk ws S f (hdA rk ws S c) n ≤ stM rk ws S f (hdA rk ws S c) (n + 1) := by
        conv => rhs; unfold stM
        split <;> omega
      omega
theorem stM_att (rk ws : Nat → Int) (S : Nat) (f : Int → Int) (v : Int) : ∀ n : Nat, stM rk ws S f v n = f v ∨ ∃ c : Nat, c < n ∧ ws c ≠ -1 ∧ hdA rk ws S c = v ∧ f (tlA rk ws S c) ≠ (-268435456) ∧ stM rk ws S f v n = f (tlA rk ws S c) + gnA S c
  | 0 => Or.inl rfl
  | n + 1 => by
    have ih := stM_att rk ws S f v n
    unfold stM
    split
    · rename_i z
      exact Or.inr ⟨n, by omega, z.1, z.2.1, z.2.2.1, rfl⟩
    · rcases ih with a | ⟨c, a1, a2, a3, a4, a5⟩
      · exact Or.inl a
      · exact Or.inr ⟨c, by omega, a2, a3, a4, a5⟩
theorem lyM_b {rk ws : Nat → Int} {S n : Nat} {s : Int} (hn : n ≤ 16) : ∀ (k : Nat) (v : Int), k ≤ 200 → lyM rk ws S n s k v = (-268435456) ∨ (-1048576 * (k : Int) ≤ lyM rk ws S n s k v ∧ lyM rk ws S n s k v ≤ 1048576 * (k : Int))
  | 0, v, _ => by
    show (if v = s then 0 else (-268435456)) = (-268435456) ∨ _
    by_cases q : v = s
    · rw [if_pos q]; right; show _ ≤ (if v = s then 0 else (-268435456)) ∧ (if v = s then 0 else (-268435456)) ≤ _; rw [if_pos q]; omega
    · rw [if_neg q]; exact Or.inl rfl
  | k + 1, v, hk => by
    have ih := fun v => lyM_b hn (rk := rk) (ws := ws) (S := S) (s := s) k v (by omega)
    show stM rk ws S (lyM rk ws S n s k) v n = (-268435456) ∨ (_ ≤ stM rk ws S (lyM rk ws S n s k) v n ∧ stM rk ws S (lyM rk ws S n s k) v n ≤ _)
    rcases stM_att rk ws S (lyM rk ws S n s k) v n with a | ⟨c, a1, a2, a3, a4, a5⟩
    · rw [a]
      rcases ih v with z | z
      · exact Or.inl z
      · right; omega
    · rw [a5]
      have := gnA_b (S := S) (c := c) (by omega)
      rcases ih (tlA rk ws S c) with z | z
      · exact absurd z a4
      · right; omega
theorem pigI {n : Nat} : ∀ (f : Nat → Int), (∀ i : Nat, i < n + 1 → 0 ≤ f i ∧ f i < (n : Int)) → ∃ i j : Nat, i < j ∧ j < n + 1 ∧ f i = f j := by
  induction n with
  | zero => intro f h; have := h 0 (by omega); omega
  | succ n ih =>
    intro f h
    by_cases q : ∃ i : Nat, i < n + 1 ∧ f i = f (n + 1)
    · obtain ⟨i, i1, i2⟩ := q
      exact ⟨i, n + 1, by omega, by omega, i2⟩
    · -- send the greatest value to that of the last
      have hq : ∀ i : Nat, i < n + 1 → f i ≠ f (n + 1) := fun i hi e => q ⟨i, hi, e⟩
      have hl := h (n + 1) (by omega)
      obtain ⟨i, j, a1, a2, a3⟩ := ih (fun i => if f i = (n : Int) then f (n + 1) else f i) (fun i hi => by
        have h1 := h i (by omega)
        have h2 := hq i hi
        show 0 ≤ (if f i = (n : Int) then f (n + 1) else f i) ∧ (if f i = (n : Int) then f (n + 1) else f i) < (n : Int)
        split <;> omega)
      refine ⟨i, j, a1, by omega, ?_⟩
      have b1 := hq i (by omega)
      have b2 := hq j (by omega)
      have a3 : (if f i = (n : Int) then f (n + 1) else f i) = (if f j = (n : Int) then f (n + 1) else f j) := a3
      split at a3 <;> split at a3 <;> omega
theorem tlA_b {rk ws : Nat → Int} {S n c : Nat} (ok : rkOK rk ws n) (hc : c < n) (hw : ws c ≠ -1) : (0 ≤ tlA rk ws S c ∧ tlA rk ws S c < 6) ∧ (0 ≤ hdA rk ws S c ∧ hdA rk ws S c < 6) ∧ tlA rk ws S c ≠ hdA rk ws S c := by
  have := ok c hc hw
  unfold tlA hdA
  split <;> omega
/-- an arrow gains no more than the prices say -/
theorem gn_le {f : Int → Int} {rk ws : Nat → Int} {S n c : Nat} (h : feas f rk ws S n) (hc : c < n) (hw : ws c ≠ -1) : gnA S c ≤ f (hdA rk ws S c) - f (tlA rk ws S c) := by
  have h1 := h c hc hw
  unfold dl at h1
  unfold gnA hdA tlA
  by_cases q : S.testBit c = true
  · rw [if_pos q, if_pos q, if_pos q]; have := h1.2 q; omega
  · rw [if_neg q, if_neg q, if_neg q]; have := h1.1 (by simpa using q); omega
theorem ly_chain {f : Int → Int} {rk ws : Nat → Int} {S n : Nat} {s : Int} (ok : rkOK rk ws n) (hf : feas f rk ws S n) (hs : 0 ≤ s ∧ s < 6) : ∀ (k : Nat) (v : Int), (0 ≤ v ∧ v < 6) → lyM rk ws S n s k v < lyM rk ws S n s (k + 1) v →
    ∃ g : Nat → Int, g (k + 1) = v ∧ (∀ j : Nat, j ≤ k + 1 → 0 ≤ g j ∧ g j < 6) ∧ ∀ j : Nat, j ≤ k → lyM rk ws S n s j (g (j + 1)) < lyM rk ws S n s (j + 1) (g (j + 1)) ∧ lyM rk ws S n s (j + 1) (g (j + 1)) - f (g (j + 1)) ≤ lyM rk ws S n s j (g j) - f (g j) := by
  intro k
  induction k with
  | zero =>
    intro v hv h
    rcases stM_att rk ws S (lyM rk ws S n s 0) v n with a | ⟨c, a1, a2, a3, a4, a5⟩
    · have : lyM rk ws S n s (0 + 1) v = lyM rk ws S n s 0 v := a
      omega
    · have a5 : lyM rk ws S n s 1 v = lyM rk ws S n s 0 (tlA rk ws S c) + gnA S c := a5
      have hb := tlA_b (S := S) ok a1 a2
      have hg := gn_le hf a1 a2
      refine ⟨fun j => if j = 0 then tlA rk ws S c else v, rfl, fun j hj => ?_, fun j hj => ?_⟩
      · show 0 ≤ (if j = 0 then tlA rk ws S c else v) ∧ (if j = 0 then tlA rk ws S c else v) < 6
        split <;> omega
      · have : j = 0 := by omega
        subst this
        refine ⟨h, ?_⟩
        show lyM rk ws S n s 1 v - f v ≤ lyM rk ws S n s 0 (tlA rk ws S c) - f (tlA rk ws S c)
        rw [a3] at hg
        omega
  | succ k ih =>
    intro v hv h
    rcases stM_att rk ws S (lyM rk ws S n s (k + 1)) v n with a | ⟨c, a1, a2, a3, a4, a5⟩
    · have : lyM rk ws S n s (k + 1 + 1) v = lyM rk ws S n s (k + 1) v := a
      omega
    · have a5 : lyM rk ws S n s (k + 1 + 1) v = lyM rk ws S n s (k + 1) (tlA rk ws S c) + gnA S c := a5
      have hb := tlA_b (S := S) ok a1 a2
      have hg := gn_le hf a1 a2
      have hup : lyM rk ws S n s k (tlA rk ws S c) < lyM rk ws S n s (k + 1) (tlA rk ws S c) := by
        have h1 : lyM rk ws S n s k (tlA rk ws S c) ≤ lyM rk ws S n s (k + 1) (tlA rk ws S c) := stM_ge rk ws S _ _ n
        by_cases q : lyM rk ws S n s k (tlA rk ws S c) = (-268435456)
        · omega
        · have h2 : lyM rk ws S n s k (tlA rk ws S c) + gnA S c ≤ lyM rk ws S n s (k + 1) (hdA rk ws S c) := stM_arc rk ws S (lyM rk ws S n s k) n c a1 a2 q
          rw [a3] at h2
          omega
      obtain ⟨g, g1, g2, g3⟩ := ih (tlA rk ws S c) hb.1 hup
      refine ⟨fun j => if j = k + 1 + 1 then v else g j, if_pos rfl, fun j hj => ?_, fun j hj => ?_⟩
      · show 0 ≤ (if j = k + 1 + 1 then v else g j) ∧ (if j = k + 1 + 1 then v else g j) < 6
        split
        · exact hv
        · exact g2 j (by omega)
      · by_cases q : j = k + 1
        · subst q
          simp only [if_pos, if_neg (show ¬ k + 1 = k + 1 + 1 by omega)]
          rw [g1]
          rw [a3] at hg
          exact ⟨h, by omega⟩
        · simp only [if_neg (show ¬ j + 1 = k + 1 + 1 by omega), if_neg (show ¬ j = k + 1 + 1 by omega)]
          exact g3 j (by omega)
theorem ly_mono (rk ws : Nat → Int) (S n : Nat) (s v : Int) : ∀ (d k : Nat), lyM rk ws S n s k v ≤ lyM rk ws S n s (k + d) v
  | 0, _ => Int.le_refl _
  | d + 1, k => by
    have ih := ly_mono rk ws S n s v d k
    have h1 : lyM rk ws S n s (k + d) v ≤ lyM rk ws S n s (k + d + 1) v := stM_ge rk ws S _ _ n
    rw [show k + (d + 1) = k + d + 1 by omega]
    omega
/-- no way has more than five steps -/
theorem ly_fix {f : Int → Int} {rk ws : Nat → Int} {S n : Nat} {s : Int} (ok : rkOK rk ws n) (hf : feas f rk ws S n) (hs : 0 ≤ s ∧ s < 6) (v : Int) (hv : 0 ≤ v ∧ v < 6) : lyM rk ws S n s 6 v = lyM rk ws S n s 5 v := by
  have hm : lyM rk ws S n s 5 v ≤ lyM rk ws S n s 6 v := stM_ge rk ws S _ _ n
  rcases Int.lt_or_le (lyM rk ws S n s 5 v) (lyM rk ws S n s 6 v) with q | q
  · exfalso
    obtain ⟨g, -, g2, g3⟩ := ly_chain ok hf hs 5 v hv q
    obtain ⟨i, j, h1, h2, h3⟩ := pigI (n := 6) g (fun i hi => g2 i (by omega))
    have tel : ∀ d : Nat, i + d ≤ 6 → lyM rk ws S n s (i + d) (g (i + d)) - f (g (i + d)) ≤ lyM rk ws S n s i (g i) - f (g i) := by
      intro d
      induction d with
      | zero => intro _; exact Int.le_refl _
      | succ d ihd =>
        intro hd
        have := ihd (by omega)
        have := (g3 (i + d) (by omega)).2
        rw [show i + (d + 1) = i + d + 1 by omega]
        omega
    have t1 := tel (j - i) (by omega)
    rw [show i + (j - i) = j by omega, ← h3] at t1
    have t2 := (g3 (j - 1) (by omega)).1
    rw [show j - 1 + 1 = j by omega, ← h3] at t2
    have t3 := ly_mono rk ws S n s (g i) (j - 1 - i) i
    rw [show i + (j - 1 - i) = j - 1 by omega] at t3
    omega
  · omega
