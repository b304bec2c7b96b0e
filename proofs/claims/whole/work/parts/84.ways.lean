/-! ===== the search for ways: what holds of best and via ===== -/
def uf (b : Int → Int) (i v : Int) : Int → Int := fun j => if j = i then v else b j
theorem uf_eq {b : Int → Int} {i v : Int} : uf b i v i = v := if_pos rfl
theorem uf_ne {b : Int → Int} {i v j : Int} (h : j ≠ i) : uf b i v j = b j := if_neg h
def ptr (rk ws : Nat → Int) (S n : Nat) (s : Int) (b via : Int → Int) (τ : Int → Nat) : Prop := ∀ v : Int, 0 ≤ v → v < 6 → v ≠ s → b v ≠ (-268435456) → ∃ c : Nat, via v = (c : Int) ∧ c < n ∧ ws c ≠ -1 ∧ hdA rk ws S c = v ∧ b (tlA rk ws S c) ≠ (-268435456) ∧ b v ≤ b (tlA rk ws S c) + gnA S c ∧ (b v = b (tlA rk ws S c) + gnA S c → τ (tlA rk ws S c) < τ v)
def fwI (f : Int → Int) (rk ws : Nat → Int) (S n : Nat) (s : Int) (b via : Int → Int) (t : Nat) : Prop :=
  b s = 0 ∧ (∀ v : Int, 0 ≤ v → v < 6 → b v = (-268435456) ∨ (-1048576 * (t : Int) ≤ b v ∧ b v ≤ 1048576 * (t : Int))) ∧ (∀ v : Int, 0 ≤ v → v < 6 → b v ≠ (-268435456) → b v ≤ f v - f s) ∧
  (∀ v : Int, 0 ≤ v → v < 6 → b v ≠ (-268435456) → b v ≤ lyM rk ws S n s 5 v) ∧ aw_bx (∃ (τ : Int → Nat) (T : Nat), (∀ v, τ v ≤ T) ∧ ptr rk ws S n s b via τ)
/-- nothing more to gain -/
def fwF (rk ws : Nat → Int) (S n : Nat) (b : Int → Int) (i : Nat) : Prop := ∀ c : Nat, c < i → ws c ≠ -1 → b (tlA rk ws S c) ≠ (-268435456) → b (tlA rk ws S c) + gnA S c ≤ b (hdA rk ws S c)
def fwLo (rk ws : Nat → Int) (S n : Nat) (s : Int) (b : Int → Int) (k : Nat) : Prop := ∀ v : Int, 0 ≤ v → v < 6 → lyM rk ws S n s k v ≤ b v
def fwR (rk ws : Nat → Int) (S n : Nat) (s : Int) (b : Int → Int) (k i : Nat) : Prop := ∀ c : Nat, c < i → ws c ≠ -1 → lyM rk ws S n s k (tlA rk ws S c) ≠ (-268435456) → lyM rk ws S n s k (tlA rk ws S c) + gnA S c ≤ b (hdA rk ws S c)
theorem fwI_0 {f : Int → Int} {rk ws : Nat → Int} {S n : Nat} {s : Int} (via b : Int → Int) (hb : ∀ v : Int, 0 ≤ v → v < 6 → b v = if v = s then 0 else (-268435456)) (hs : 0 ≤ s ∧ s < 6) : fwI f rk ws S n s b via 0 ∧ fwLo rk ws S n s b 0 := by
  have e : b s = 0 := by rw [hb s hs.1 hs.2, if_pos rfl]
  have en : ∀ v : Int, 0 ≤ v → v < 6 → v ≠ s → b v = (-268435456) := fun v v1 v2 h => by rw [hb v v1 v2, if_neg h]
  refine ⟨⟨e, fun v v1 v2 => ?_, fun v v1 v2 h => ?_, fun v v1 v2 h => ?_, aw_mb ⟨fun _ => 0, 0, fun _ => Nat.le_refl 0, fun v v1 v2 h1 h2 => absurd (en v v1 v2 h1) h2⟩⟩, fun v v1 v2 => ?_⟩
  · by_cases q : v = s
    · right; rw [q, e]; omega
    · exact Or.inl (en v v1 v2 q)
  · by_cases q : v = s
    · rw [q, e]; omega
    · exact absurd (en v v1 v2 q) h
  · by_cases q : v = s
    · have := ly_mono rk ws S n s s 5 0
      have e0 : lyM rk ws S n s 0 s = 0 := if_pos rfl
      rw [q, e]
      rw [e0] at this
      exact this
    · exact absurd (en v v1 v2 q) h
  · rw [hb v v1 v2]
    exact Int.le_refl _
theorem fw_upd {f : Int → Int} {rk ws : Nat → Int} {S n c t : Nat} {s : Int} {b via : Int → Int} (ok : rkOK rk ws n) (hn : n ≤ 16) (hf : feas f rk ws S n) (hs : 0 ≤ s ∧ s < 6) (ht : t ≤ 100) (hc : c < n) (hw : ws c ≠ -1)
    (h : fwI f rk ws S n s b via t) (h1 : b (tlA rk ws S c) ≠ (-268435456)) (h2 : b (hdA rk ws S c) < b (tlA rk ws S c) + gnA S c) :
    fwI f rk ws S n s (uf b (hdA rk ws S c) (b (tlA rk ws S c) + gnA S c)) (uf via (hdA rk ws S c) (c : Int)) (t + 1) := by
  obtain ⟨i1, i2, i3, i4, i5⟩ := h
  obtain ⟨τ, T, j1, j2⟩ := aw_ub i5
  have hb := tlA_b (S := S) ok hc hw
  have hg := gn_le hf hc hw
  have hgb := gnA_b (S := S) (c := c) (by omega)
  obtain ⟨v, hv⟩ : ∃ v, v = hdA rk ws S c := ⟨_, rfl⟩
  obtain ⟨u, hu⟩ : ∃ u, u = tlA rk ws S c := ⟨_, rfl⟩
  rw [← hv, ← hu] at hb hg ⊢
  rw [← hv, ← hu] at h2
  rw [← hu] at h1
  have r1 := i2 u hb.1.1 hb.1.2
  have r2 := i3 u hb.1.1 hb.1.2 h1
  have hvs : v ≠ s := fun e => by rw [e] at h2 hg; omega
  refine ⟨by rw [uf_ne (Ne.symm hvs)]; exact i1, fun x x1 x2 => ?_, fun x x1 x2 x3 => ?_, fun x x1 x2 x3 => ?_, aw_mb ⟨fun x => if x = v then T + 1 else τ x, T + 1, fun x => ?_, fun x x1 x2 x3 x4 => ?_⟩⟩
  · by_cases q : x = v
    · rw [q, uf_eq]; right; omega
    · rw [uf_ne q]; rcases i2 x x1 x2 with z | z
      · exact Or.inl z
      · right; omega
  · by_cases q : x = v
    · rw [q, uf_eq]; omega
    · rw [uf_ne q] at x3 ⊢; exact i3 x x1 x2 x3
  · by_cases q : x = v
    · rw [q, uf_eq]
      have a1 := i4 u hb.1.1 hb.1.2 h1
      have a2 := stM_arc rk ws S (lyM rk ws S n s 5) n c hc hw (by rw [← hu]; omega)
      have a3 : stM rk ws S (lyM rk ws S n s 5) v n = lyM rk ws S n s 5 v := ly_fix ok hf hs v hb.2.1
      rw [← hu, ← hv, a3] at a2
      omega
    · rw [uf_ne q] at x3 ⊢; exact i4 x x1 x2 x3
  · show (if x = v then T + 1 else τ x) ≤ T + 1
    have := j1 x
    split <;> omega
  · by_cases q : x = v
    · subst q
      refine ⟨c, uf_eq, hc, hw, hv.symm, ?_, ?_, fun _ => ?_⟩
      · rw [← hu, uf_ne hb.2.2]; exact h1
      · rw [uf_eq, ← hu, uf_ne hb.2.2]; exact Int.le_refl _
      · rw [← hu]
        show (if u = x then T + 1 else τ u) < (if x = x then T + 1 else τ x)
        rw [if_neg hb.2.2, if_pos rfl]
        have := j1 u
        omega
    · rw [uf_ne q] at x4
      obtain ⟨d, d1, d2, d3, d4, d5, d6, d7⟩ := j2 x x1 x2 x3 x4
      refine ⟨d, by rw [uf_ne q]; exact d1, d2, d3, d4, ?_, ?_, ?_⟩
      · by_cases z : tlA rk ws S d = v
        · rw [z, uf_eq]; omega
        · rw [uf_ne z]; exact d5
      · by_cases z : tlA rk ws S d = v
        · rw [z] at d6 ⊢; rw [uf_ne q, uf_eq]; omega
        · rw [uf_ne q, uf_ne z]; exact d6
      · by_cases z : tlA rk ws S d = v
        · rw [z] at d6 ⊢; rw [uf_ne q, uf_eq]; intro w; omega
        · rw [uf_ne q, uf_ne z]
          intro w
          show (if tlA rk ws S d = v then T + 1 else τ (tlA rk ws S d)) < (if x = v then T + 1 else τ x)
          rw [if_neg z, if_neg q]
          exact d7 w
theorem fwL_s {rk ws : Nat → Int} {S n k : Nat} {s : Int} {b : Int → Int} (h : fwLo rk ws S n s b k) (hr : fwR rk ws S n s b k n) : fwLo rk ws S n s b (k + 1) := fun v v1 v2 => by
  show stM rk ws S (lyM rk ws S n s k) v n ≤ b v
  rcases stM_att rk ws S (lyM rk ws S n s k) v n with a | ⟨c, a1, a2, a3, a4, a5⟩
  · rw [a]; exact h v v1 v2
  · rw [a5, ← a3]; exact hr c a1 a2 a4
theorem fwF_5 {f : Int → Int} {rk ws : Nat → Int} {S n t : Nat} {s : Int} {b via : Int → Int} (ok : rkOK rk ws n) (hf : feas f rk ws S n) (hs : 0 ≤ s ∧ s < 6) (h : fwI f rk ws S n s b via t) (hl : fwLo rk ws S n s b 5) : fwF rk ws S n b n := fun c hc hw h1 => by
  have hb := tlA_b (S := S) ok hc hw
  obtain ⟨i1, i2, i3, i4, i5⟩ := h
  have a1 := i4 _ hb.1.1 hb.1.2 h1
  have a0 := hl _ hb.1.1 hb.1.2
  have a2 := stM_arc rk ws S (lyM rk ws S n s 5) n c hc hw (by omega)
  have a3 : stM rk ws S (lyM rk ws S n s 5) (hdA rk ws S c) n = lyM rk ws S n s 5 (hdA rk ws S c) := ly_fix ok hf hs _ hb.2.1
  have a4 := hl _ hb.2.1.1 hb.2.1.2
  rw [a3] at a2
  omega
/-- at the end: every via is tight, and earlier ones come before -/
def tight (rk ws : Nat → Int) (S n : Nat) (s : Int) (b via : Int → Int) (τ : Int → Nat) : Prop := ∀ v : Int, 0 ≤ v → v < 6 → v ≠ s → b v ≠ (-268435456) → ∃ c : Nat, via v = (c : Int) ∧ c < n ∧ ws c ≠ -1 ∧ hdA rk ws S c = v ∧ b (tlA rk ws S c) ≠ (-268435456) ∧ b v = b (tlA rk ws S c) + gnA S c ∧ τ (tlA rk ws S c) < τ v
theorem fw_tight {f : Int → Int} {rk ws : Nat → Int} {S n t : Nat} {s : Int} {b via : Int → Int} (h : fwI f rk ws S n s b via t) (hF : fwF rk ws S n b n) : ∃ τ, tight rk ws S n s b via τ := by
  obtain ⟨i1, i2, i3, i4, i5⟩ := h
  obtain ⟨τ, T, j1, j2⟩ := aw_ub i5
  refine ⟨τ, fun v v1 v2 v3 v4 => ?_⟩
  obtain ⟨c, d1, d2, d3, d4, d5, d6, d7⟩ := j2 v v1 v2 v3 v4
  have := hF c d2 d3 d5
  rw [d4] at this
  have e : b v = b (tlA rk ws S c) + gnA S c := by omega
  exact ⟨c, d1, d2, d3, d4, d5, e, d7 e⟩
/-- the new prices -/
theorem new_feas {f : Int → Int} {rk ws : Nat → Int} {S n : Nat} {b : Int → Int} (ok : rkOK rk ws n) (hn : n ≤ 16) (hf : feas f rk ws S n) (hF : fwF rk ws S n b n) (hb : ∀ v : Int, 0 ≤ v → v < 6 → b v = (-268435456) ∨ (-134217728 ≤ b v ∧ b v ≤ 134217728)) :
    ∃ f' : Int → Int, (∀ v : Int, 0 ≤ v → v < 6 → b v ≠ (-268435456) → f' v = b v) ∧ (∀ v : Int, 0 ≤ v → v < 6 → b v = (-268435456) → f' v ≤ -300000000) ∧ feas f' rk ws S n := by
  obtain ⟨K, hK⟩ : ∃ K : Int, ∀ v : Int, 0 ≤ v → v < 6 → f v ≤ K := by
    refine ⟨max (f 0) (max (f 1) (max (f 2) (max (f 3) (max (f 4) (f 5))))), fun v v1 v2 => ?_⟩
    rcases (show v = 0 ∨ v = 1 ∨ v = 2 ∨ v = 3 ∨ v = 4 ∨ v = 5 by omega) with rfl | rfl | rfl | rfl | rfl | rfl <;> omega
  refine ⟨fun v => if b v = (-268435456) then f v - K - 300000000 else b v, fun v v1 v2 h => if_neg h, fun v v1 v2 h => ?_, fun c hc hw => ?_⟩
  · show (if b v = (-268435456) then f v - K - 300000000 else b v) ≤ _
    rw [if_pos h]
    have := hK v v1 v2
    omega
  · have hbb := tlA_b (S := S) ok hc hw
    have hg := gn_le hf hc hw
    have hF1 := hF c hc hw
    have hgb := gnA_b (S := S) (c := c) (by omega)
    have key : gnA S c ≤ (if b (hdA rk ws S c) = (-268435456) then f (hdA rk ws S c) - K - 300000000 else b (hdA rk ws S c)) - (if b (tlA rk ws S c) = (-268435456) then f (tlA rk ws S c) - K - 300000000 else b (tlA rk ws S c)) := by
      have k1 := hK _ hbb.1.1 hbb.1.2
      have k2 := hK _ hbb.2.1.1 hbb.2.1.2
      have r2 := hb _ hbb.2.1.1 hbb.2.1.2
      have r1 := hb _ hbb.1.1 hbb.1.2
      by_cases q : b (tlA rk ws S c) = (-268435456)
      · rw [if_pos q]
        by_cases z : b (hdA rk ws S c) = (-268435456)
        · rw [if_pos z]; omega
        · rw [if_neg z]; omega
      · have h3 := hF1 q
        rw [if_neg q]
        by_cases z : b (hdA rk ws S c) = (-268435456)
        · rw [z] at h3; omega
        · rw [if_neg z]; omega
    unfold gnA hdA tlA at key
    unfold dl
    refine ⟨fun w => ?_, fun w => ?_⟩
    · rw [w] at key
      simp only [Bool.false_eq_true, if_false] at key
      exact key
    · rw [w] at key
      simp only [if_true] at key
      show (if b (ws c) = (-268435456) then f (ws c) - K - 300000000 else b (ws c)) - (if b (rk c) = (-268435456) then f (rk c) - K - 300000000 else b (rk c)) ≤ wt c
      omega
/-! the round is taken -/
def xorb (S c : Nat) : Nat := S ^^^ 2 ^ c
theorem xorb_t (S c d : Nat) : (S ^^^ 2 ^ c).testBit d = (if d = c then !(S.testBit d) else S.testBit d) := by
  rw [Nat.testBit_xor, Nat.testBit_two_pow]
  by_cases q : d = c
  · subst q; simp
  · rw [if_neg q, show decide (c = d) = false by simp; exact fun e => q e.symm, Bool.xor_false]
theorem sm_flip {S S' c : Nat} {g : Nat → Int} (h : ∀ d : Nat, S'.testBit d = if d = c then !(S.testBit d) else S.testBit d) : ∀ n : Nat, sm S' g n = sm S g n + (if c < n then (if S.testBit c = true then -g c else g c) else 0)
  | 0 => by show (0 : Int) = 0 + _; rw [if_neg (by omega)]; rfl
  | n + 1 => by
    have ih := sm_flip h (g := g) n
    show sm S' g n + (if S'.testBit n = true then g n else 0) = sm S g n + (if S.testBit n = true then g n else 0) + _
    rw [ih, h n]
    by_cases q : n = c
    · subst q
      rw [if_pos rfl, if_neg (show ¬ n < n by omega), if_pos (show n < n + 1 by omega)]
      cases S.testBit n
      · simp
      · simp only [Bool.not_true, Bool.false_eq_true, if_false, if_true]; omega
    · rw [if_neg q]
      by_cases z : c < n
      · rw [if_pos z, if_pos (show c < n + 1 by omega)]; omega
      · rw [if_neg z, if_neg (show ¬ c < n + 1 by omega)]; omega
/-- after some steps back from g: the heap S' carries one from v to g -/
def onway (rk ws : Nat → Int) (S' n : Nat) (g v : Int) : Prop := ∀ r : Int, 0 ≤ r → r < 6 → bal rk ws S' n r = ind r g - ind r v
theorem onway_s {rk ws : Nat → Int} {S' n c : Nat} {g v : Int} (hc : c < n) (h : onway rk ws S' n g v) (hh : hdA rk ws S' c = v) : onway rk ws (S' ^^^ 2 ^ c) n g (tlA rk ws S' c) := fun r r1 r2 => by
  have e := sm_flip (S := S') (S' := S' ^^^ 2 ^ c) (c := c) (g := dl (ind r) rk ws) (xorb_t S' c) n
  have h1 := h r r1 r2
  unfold bal at h1 ⊢
  rw [e, h1, if_pos hc, ← hh]
  unfold hdA tlA dl
  by_cases q : S'.testBit c = true
  · rw [if_pos q, if_pos q, if_pos q]; omega
  · rw [if_neg q, if_neg q, if_neg q]; omega
theorem feas_x {f : Int → Int} {rk ws : Nat → Int} {S' n c : Nat} (h : feas f rk ws S' n) (ht : dl f rk ws c = wt c) : feas f rk ws (S' ^^^ 2 ^ c) n := fun d hd hw => by
  have h1 := h d hd hw
  rw [xorb_t]
  by_cases q : d = c
  · subst q; exact ⟨fun _ => by omega, fun _ => by omega⟩
  · rw [if_neg q]; exact h1
