/-! ===== least ways over arcs, from any start (i0: what a start costs) ===== -/
def bfM (act : Nat → Bool) (tl hd w : Nat → Int) (f : Int → Int) (v : Int) : Nat → Int
  | 0 => f v
  | e + 1 => if act e = true ∧ hd e = v ∧ f (tl e) + w e < bfM act tl hd w f v e then f (tl e) + w e else bfM act tl hd w f v e
def bfL (act : Nat → Bool) (tl hd w : Nat → Int) (n : Nat) (i0 : Int → Int) : Nat → Int → Int
  | 0 => i0
  | k + 1 => fun v => bfM act tl hd w (bfL act tl hd w n i0 k) v n
section BF
variable {act : Nat → Bool} {tl hd w : Nat → Int} {n : Nat} {i0 : Int → Int}
theorem bfM_le (f : Int → Int) (v : Int) : ∀ e : Nat, bfM act tl hd w f v e ≤ f v
  | 0 => Int.le_refl _
  | e + 1 => by
    have ih := bfM_le f v e
    unfold bfM
    split <;> omega
theorem bfM_arc (f : Int → Int) : ∀ n e : Nat, e < n → act e = true → bfM act tl hd w f (hd e) n ≤ f (tl e) + w e
  | 0, e, h, _ => by omega
  | n + 1, e, h, h1 => by
    by_cases q : e = n
    · subst q
      unfold bfM
      split
      · exact Int.le_refl _
      · rename_i z
        have : ¬ f (tl e) + w e < bfM act tl hd w f (hd e) e := fun y => z ⟨h1, rfl, y⟩
        omega
    · have ih := bfM_arc f n e (by omega) h1
      have hm : bfM act tl hd w f (hd e) (n + 1) ≤ bfM act tl hd w f (hd e) n := by
        conv => lhs; unfold bfM
        split <;> omega
      omega
theorem bfM_att (f : Int → Int) (v : Int) : ∀ n : Nat, bfM act tl hd w f v n = f v ∨ ∃ e : Nat, e < n ∧ act e = true ∧ hd e = v ∧ bfM act tl hd w f v n = f (tl e) + w e
  | 0 => Or.inl rfl
  | n + 1 => by
    have ih := bfM_att f v n
    unfold bfM
    split
    · rename_i z
      exact Or.inr ⟨n, by omega, z.1, z.2.1, rfl⟩
    · rcases ih with a | ⟨e, a1, a2, a3, a4⟩
      · exact Or.inl a
      · exact Or.inr ⟨e, by omega, a2, a3, a4⟩
/-- nodes below V -/
def bfV (act : Nat → Bool) (tl hd : Nat → Int) (n V : Nat) : Prop := ∀ e : Nat, e < n → act e = true → (0 ≤ tl e ∧ tl e < (V : Int)) ∧ (0 ≤ hd e ∧ hd e < (V : Int)) ∧ tl e ≠ hd e
/-- prices: no round gains -/
def bfP (act : Nat → Bool) (tl hd w : Nat → Int) (n : Nat) (f : Int → Int) : Prop := ∀ e : Nat, e < n → act e = true → f (hd e) ≤ f (tl e) + w e
theorem bf_chain {V : Nat} {f : Int → Int} (ok : bfV act tl hd n V) (hf : bfP act tl hd w n f) : ∀ (k : Nat) (v : Int), (0 ≤ v ∧ v < (V : Int)) → bfL act tl hd w n i0 (k + 1) v < bfL act tl hd w n i0 k v →
    ∃ g : Nat → Int, g (k + 1) = v ∧ (∀ j : Nat, j ≤ k + 1 → 0 ≤ g j ∧ g j < (V : Int)) ∧ ∀ j : Nat, j ≤ k → bfL act tl hd w n i0 (j + 1) (g (j + 1)) < bfL act tl hd w n i0 j (g (j + 1)) ∧ bfL act tl hd w n i0 j (g j) - f (g j) ≤ bfL act tl hd w n i0 (j + 1) (g (j + 1)) - f (g (j + 1)) := by
  intro k
  induction k with
  | zero =>
    intro v hv h
    rcases bfM_att (act := act) (tl := tl) (hd := hd) (w := w) (bfL act tl hd w n i0 0) v n with a | ⟨e, a1, a2, a3, a4⟩
    · have : bfL act tl hd w n i0 (0 + 1) v = bfL act tl hd w n i0 0 v := a
      omega
    · have a4 : bfL act tl hd w n i0 (0 + 1) v = bfL act tl hd w n i0 0 (tl e) + w e := a4
      have hb := ok e a1 a2
      have hg := hf e a1 a2
      refine ⟨fun j => if j = 0 then tl e else v, rfl, fun j hj => ?_, fun j hj => ?_⟩
      · show 0 ≤ (if j = 0 then tl e else v) ∧ (if j = 0 then tl e else v) < (V : Int)
        split
        · exact hb.1
        · exact hv
      · have : j = 0 := by omega
        subst this
        refine ⟨h, ?_⟩
        show bfL act tl hd w n i0 0 (tl e) - f (tl e) ≤ bfL act tl hd w n i0 (0 + 1) v - f v
        rw [a3] at hg
        omega
  | succ k ih =>
    intro v hv h
    rcases bfM_att (act := act) (tl := tl) (hd := hd) (w := w) (bfL act tl hd w n i0 (k + 1)) v n with a | ⟨e, a1, a2, a3, a4⟩
    · have : bfL act tl hd w n i0 (k + 1 + 1) v = bfL act tl hd w n i0 (k + 1) v := a
      omega
    · have a4 : bfL act tl hd w n i0 (k + 1 + 1) v = bfL act tl hd w n i0 (k + 1) (tl e) + w e := a4
      have hb := ok e a1 a2
      have hg := hf e a1 a2
      have hup : bfL act tl hd w n i0 (k + 1) (tl e) < bfL act tl hd w n i0 k (tl e) := by
        have h1 : bfL act tl hd w n i0 (k + 1) (tl e) ≤ bfL act tl hd w n i0 k (tl e) := bfM_le _ _ n
        have h2 : bfL act tl hd w n i0 (k + 1) (hd e) ≤ bfL act tl hd w n i0 k (tl e) + w e := bfM_arc (bfL act tl hd w n i0 k) n e a1 a2
        rw [a3] at h2
        omega
      obtain ⟨g, g1, g2, g3⟩ := ih (tl e) hb.1 hup
      refine ⟨fun j => if j = k + 1 + 1 then v else g j, if_pos rfl, fun j hj => ?_, fun j hj => ?_⟩
      · show 0 ≤ (if j = k + 1 + 1 then v else g j) ∧ (if j = k + 1 + 1 then v else g j) < (V : Int)
        split
        · exact hv
        · exact g2 j (by omega)
      · by_cases q : j = k + 1
        · subst q
          simp only [if_pos, if_neg (show ¬ k + 1 = k + 1 + 1 by omega)]
          rw [g1]
          rw [a3] at hg
          exact ⟨h, by omega⟩
        · simp only [if_neg (show ¬ j + 1 = k + 1 + 1 by omega), if_neg (show ¬ j = k + 1 + 1 by omega)]
          exact g3 j (by omega)
theorem bf_mono (v : Int) : ∀ (d k : Nat), bfL act tl hd w n i0 (k + d) v ≤ bfL act tl hd w n i0 k v
  | 0, _ => Int.le_refl _
  | d + 1, k => by
    have ih := bf_mono v d k
    have h1 : bfL act tl hd w n i0 (k + d + 1) v ≤ bfL act tl hd w n i0 (k + d) v := bfM_le _ _ n
    rw [show k + (d + 1) = k + d + 1 by omega]
    omega
theorem bf_fix {V : Nat} {f : Int → Int} (ok : bfV act tl hd n (V + 1)) (hf : bfP act tl hd w n f) (v : Int) (hv : 0 ≤ v ∧ v < ((V + 1 : Nat) : Int)) : bfL act tl hd w n i0 (V + 1) v = bfL act tl hd w n i0 V v := by
  have hm : bfL act tl hd w n i0 (V + 1) v ≤ bfL act tl hd w n i0 V v := bfM_le _ _ n
  rcases Int.lt_or_le (bfL act tl hd w n i0 (V + 1) v) (bfL act tl hd w n i0 V v) with q | q
  · exfalso
    obtain ⟨g, -, g2, g3⟩ := bf_chain ok hf V v hv q
    obtain ⟨i, j, h1, h2, h3⟩ := pigI (n := V + 1) g (fun i hi => g2 i (by omega))
    have tel : ∀ d : Nat, i + d ≤ V + 1 → bfL act tl hd w n i0 i (g i) - f (g i) ≤ bfL act tl hd w n i0 (i + d) (g (i + d)) - f (g (i + d)) := by
      intro d
      induction d with
      | zero => intro _; exact Int.le_refl _
      | succ d ihd =>
        intro hd
        have := ihd (by omega)
        have := (g3 (i + d) (by omega)).2
        rw [show i + (d + 1) = i + d + 1 by omega]
        omega
    have t1 := tel (j - i) (by omega)
    rw [show i + (j - i) = j by omega, ← h3] at t1
    have t2 := (g3 (j - 1) (by omega)).1
    rw [show j - 1 + 1 = j by omega, ← h3] at t2
    have t3 := bf_mono (act := act) (tl := tl) (hd := hd) (w := w) (n := n) (i0 := i0) (g i) (j - 1 - i) i
    rw [show i + (j - 1 - i) = j - 1 by omega] at t3
    omega
  · omega
/-- what holds of the costs b and of where they come from, fr -/
def bfQ (act : Nat → Bool) (tl hd w : Nat → Int) (n V : Nat) (i0 b fr : Int → Int) (τ : Int → Nat) : Prop := ∀ v : Int, 0 ≤ v → v < (V : Int) → (fr v = -1 ∧ b v = i0 v) ∨ ∃ e : Nat, e < n ∧ act e = true ∧ hd e = v ∧ fr v = tl e ∧ b (tl e) + w e ≤ b v ∧ (b v = b (tl e) + w e → τ (tl e) < τ v)
def bfI (act : Nat → Bool) (tl hd w : Nat → Int) (n V : Nat) (i0 f b fr : Int → Int) : Prop :=
  (∀ v : Int, 0 ≤ v → v < (V : Int) → b v ≤ i0 v) ∧ (∀ v : Int, 0 ≤ v → v < (V : Int) → bfL act tl hd w n i0 (V - 1) v ≤ b v) ∧ aw_bx (∃ (τ : Int → Nat) (T : Nat), (∀ v, τ v ≤ T) ∧ bfQ act tl hd w n V i0 b fr τ)
theorem bfI_0 {V : Nat} {f b fr : Int → Int} (hb : ∀ v : Int, 0 ≤ v → v < (V : Int) → b v = i0 v ∧ fr v = -1) : bfI act tl hd w n V i0 f b fr := by
  refine ⟨fun v v1 v2 => by rw [(hb v v1 v2).1]; exact Int.le_refl _, fun v v1 v2 => ?_, aw_mb ⟨fun _ => 0, 0, fun _ => Nat.le_refl 0, fun v v1 v2 => Or.inl ⟨(hb v v1 v2).2, (hb v v1 v2).1⟩⟩⟩
  have := bf_mono (act := act) (tl := tl) (hd := hd) (w := w) (n := n) (i0 := i0) v (V - 1) 0
  rw [(hb v v1 v2).1, Nat.zero_add] at *
  exact this
theorem bf_upd {V e : Nat} {f b fr : Int → Int} (ok : bfV act tl hd n (V + 1)) (hf : bfP act tl hd w n f) (he : e < n) (ha : act e = true) (h : bfI act tl hd w n (V + 1) i0 f b fr) (h2 : b (tl e) + w e < b (hd e)) :
    bfI act tl hd w n (V + 1) i0 f (uf b (hd e) (b (tl e) + w e)) (uf fr (hd e) (tl e)) := by
  obtain ⟨i1, i2, i3⟩ := h
  obtain ⟨τ, T, j1, j2⟩ := aw_ub i3
  have hb := ok e he ha
  obtain ⟨v, hv⟩ : ∃ v, v = hd e := ⟨_, rfl⟩
  obtain ⟨u, hu⟩ : ∃ u, u = tl e := ⟨_, rfl⟩
  rw [← hv, ← hu] at hb h2 ⊢
  refine ⟨fun x x1 x2 => ?_, fun x x1 x2 => ?_, aw_mb ⟨fun x => if x = v then T + 1 else τ x, T + 1, fun x => ?_, fun x x1 x2 => ?_⟩⟩
  · by_cases q : x = v
    · rw [q, uf_eq]; have := i1 v hb.2.1.1 hb.2.1.2; omega
    · rw [uf_ne q]; exact i1 x x1 x2
  · by_cases q : x = v
    · rw [q, uf_eq]
      have a1 := i2 u hb.1.1 hb.1.2
      have a2 := bfM_arc (act := act) (tl := tl) (hd := hd) (w := w) (bfL act tl hd w n i0 V) n e he ha
      have a3 : bfM act tl hd w (bfL act tl hd w n i0 V) v n = bfL act tl hd w n i0 V v := bf_fix ok hf v hb.2.1
      rw [← hu, ← hv, a3] at a2
      have e9 : V + 1 - 1 = V := by omega
      rw [e9] at a1 ⊢
      omega
    · rw [uf_ne q]; exact i2 x x1 x2
  · show (if x = v then T + 1 else τ x) ≤ T + 1
    have := j1 x
    split <;> omega
  · by_cases q : x = v
    · subst q
      refine Or.inr ⟨e, he, ha, hv.symm, by rw [uf_eq]; exact hu, ?_, fun _ => ?_⟩
      · rw [uf_eq, ← hu, uf_ne hb.2.2]; exact Int.le_refl _
      · rw [← hu]
        show (if u = x then T + 1 else τ u) < (if x = x then T + 1 else τ x)
        rw [if_neg hb.2.2, if_pos rfl]
        have := j1 u
        omega
    · rw [uf_ne q, uf_ne q]
      rcases j2 x x1 x2 with z | ⟨d, d1, d2, d3, d4, d5, d6⟩
      · exact Or.inl z
      · refine Or.inr ⟨d, d1, d2, d3, d4, ?_, ?_⟩
        · by_cases z : tl d = v
          · rw [z] at d5 ⊢; rw [uf_eq]; omega
          · rw [uf_ne z]; exact d5
        · by_cases z : tl d = v
          · rw [z] at d5 ⊢; rw [uf_eq]; intro y; omega
          · rw [uf_ne z]
            intro y
            show (if tl d = v then T + 1 else τ (tl d)) < (if x = v then T + 1 else τ x)
            rw [if_neg z, if_neg q]
            exact d6 y
/-- after a round -/
def bfU (act : Nat → Bool) (tl hd w : Nat → Int) (n V : Nat) (i0 b : Int → Int) (k : Nat) : Prop := ∀ v : Int, 0 ≤ v → v < (V : Int) → b v ≤ bfL act tl hd w n i0 k v
def bfR (act : Nat → Bool) (tl hd w : Nat → Int) (n : Nat) (i0 b : Int → Int) (k i : Nat) : Prop := ∀ e : Nat, e < i → act e = true → b (hd e) ≤ bfL act tl hd w n i0 k (tl e) + w e
theorem bfU_s {V k : Nat} {b : Int → Int} (h : bfU act tl hd w n V i0 b k) (hr : bfR act tl hd w n i0 b k n) : bfU act tl hd w n V i0 b (k + 1) := fun v v1 v2 => by
  show b v ≤ bfM act tl hd w (bfL act tl hd w n i0 k) v n
  rcases bfM_att (act := act) (tl := tl) (hd := hd) (w := w) (bfL act tl hd w n i0 k) v n with a | ⟨e, a1, a2, a3, a4⟩
  · rw [a]; exact h v v1 v2
  · rw [a4, ← a3]; exact hr e a1 a2
/-- at the end: nothing more to save, every pointer tight -/
theorem bf_end {V : Nat} {f b fr : Int → Int} (ok : bfV act tl hd n (V + 1)) (hf : bfP act tl hd w n f) (h : bfI act tl hd w n (V + 1) i0 f b fr) (hU : bfU act tl hd w n (V + 1) i0 b (V + 1)) : bfP act tl hd w n b ∧
    ∃ τ : Int → Nat, ∀ v : Int, 0 ≤ v → v < ((V + 1 : Nat) : Int) → (fr v = -1 ∧ b v = i0 v) ∨ ∃ e : Nat, e < n ∧ act e = true ∧ hd e = v ∧ fr v = tl e ∧ b v = b (tl e) + w e ∧ τ (tl e) < τ v := by
  obtain ⟨i1, i2, i3⟩ := h
  obtain ⟨τ, T, j1, j2⟩ := aw_ub i3
  have hfix : bfP act tl hd w n b := fun e he ha => by
    have hb := ok e he ha
    have a1 := i2 (tl e) hb.1.1 hb.1.2
    have a2 := bfM_arc (act := act) (tl := tl) (hd := hd) (w := w) (bfL act tl hd w n i0 V) n e he ha
    have a4 := hU (hd e) hb.2.1.1 hb.2.1.2
    have a5 : bfL act tl hd w n i0 (V + 1) (hd e) = bfM act tl hd w (bfL act tl hd w n i0 V) (hd e) n := rfl
    have e9 : V + 1 - 1 = V := by omega
    rw [e9] at a1
    omega
  refine ⟨hfix, τ, fun v v1 v2 => ?_⟩
  rcases j2 v v1 v2 with z | ⟨d, d1, d2, d3, d4, d5, d6⟩
  · exact Or.inl z
  · have := hfix d d1 d2
    rw [d3] at this
    have e9 : b v = b (tl d) + w d := by omega
    exact Or.inr ⟨d, d1, d2, d3, d4, e9, d6 e9⟩
/-- costs stay above prices that the starts are above -/
theorem bf_lo {V : Nat} {f b fr : Int → Int} (hf : bfP act tl hd w n f) (ok : bfV act tl hd n V) (hi : ∀ v : Int, 0 ≤ v → v < (V : Int) → f v ≤ i0 v) : ∀ (k : Nat) (v : Int), 0 ≤ v → v < (V : Int) → f v ≤ bfL act tl hd w n i0 k v
  | 0, v, v1, v2 => hi v v1 v2
  | k + 1, v, v1, v2 => by
    show f v ≤ bfM act tl hd w (bfL act tl hd w n i0 k) v n
    rcases bfM_att (act := act) (tl := tl) (hd := hd) (w := w) (bfL act tl hd w n i0 k) v n with a | ⟨e, a1, a2, a3, a4⟩
    · rw [a]; exact bf_lo (b := b) (fr := fr) hf ok hi k v v1 v2
    · have hb := ok e a1 a2
      have h1 := bf_lo (b := b) (fr := fr) hf ok hi k (tl e) hb.1.1 hb.1.2
      have h2 := hf e a1 a2
      rw [a3] at h2
      rw [a4]
      omega
end BF
