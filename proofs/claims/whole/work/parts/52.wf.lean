/-! ===== what holds of the day stays, whoever comes or leaves ===== -/
theorem wfCab_m {m m' : mS} {N c : Int} {x : Int → Int} (h0 : m' 0 0 = m 0 0) (h3 : m' 0 3 = m 0 3) (h1 : ∀ r : Int, m' 1 r = m 1 r) (h : wfCab m 0 N c x) : wfCab m' 0 N c x := by
  unfold wfCab at h ⊢
  rw [h0, h3, h1]
  exact h
/-- all but the cab c, which is in no row -/
def wfD1 (m : mS) (N c : Int) : Prop :=
  (0 ≤ m 0 3 ∧ m 0 3 ≤ 300 * N) ∧ (0 ≤ m 0 4 ∧ m 0 4 ≤ 16) ∧ (0 ≤ m 0 5 ∧ m 0 5 ≤ 40) ∧
  (∀ r : Int, 0 ≤ r → r < 6 → (0 ≤ m 10 r ∧ m 10 r ≤ 16) ∧ (0 ≤ m 11 r ∧ m 11 r ≤ 20) ∧ (m 0 0 ≤ r → m 10 r = 0) ∧ (r < m 0 0 → m 10 r ≤ m 2 r + m 3 r)) ∧
  (∀ e : Int, 0 ≤ e → e < m 0 4 → e ≠ c → wfCab m 0 N e (m (100 + e))) ∧
  (∀ r k : Int, 0 ≤ r → r < 6 → 0 ≤ k → k < m 10 r → (0 ≤ m (200 + r) k ∧ m (200 + r) k < m 0 4) ∧ m (200 + r) k ≠ c ∧ m (100 + m (200 + r) k) 1 = 2 ∧ m (100 + m (200 + r) k) 3 = r) ∧
  (∀ r k j : Int, 0 ≤ r → r < 6 → 0 ≤ k → k < m 10 r → 0 ≤ j → j < m 10 r → m (200 + r) k = m (200 + r) j → k = j) ∧
  (∀ e : Int, 0 ≤ e → e < m 0 4 → e ≠ c → m (100 + e) 1 = 2 → aw_bx (∃ k : Int, 0 ≤ k ∧ k < m 10 (m (100 + e) 3) ∧ m (200 + m (100 + e) 3) k = e))
theorem wfDay_0 {m : mS} {N : Int} (h : wfDay m 0 N) :
  (0 ≤ m 0 3 ∧ m 0 3 ≤ 300 * N) ∧ (0 ≤ m 0 4 ∧ m 0 4 ≤ 16) ∧ (0 ≤ m 0 5 ∧ m 0 5 ≤ 40) ∧
  (∀ r : Int, 0 ≤ r → r < 6 → (0 ≤ m 10 r ∧ m 10 r ≤ 16) ∧ (0 ≤ m 11 r ∧ m 11 r ≤ 20) ∧ (m 0 0 ≤ r → m 10 r = 0) ∧ (r < m 0 0 → m 10 r ≤ m 2 r + m 3 r)) ∧
  (∀ c : Int, 0 ≤ c → c < m 0 4 → wfCab m 0 N c (m (100 + c))) ∧
  (∀ r k : Int, 0 ≤ r → r < 6 → 0 ≤ k → k < m 10 r → (0 ≤ m (200 + r) k ∧ m (200 + r) k < m 0 4) ∧ m (100 + m (200 + r) k) 1 = 2 ∧ m (100 + m (200 + r) k) 3 = r) ∧
  (∀ r k j : Int, 0 ≤ r → r < 6 → 0 ≤ k → k < m 10 r → 0 ≤ j → j < m 10 r → m (200 + r) k = m (200 + r) j → k = j) ∧
  (∀ c : Int, 0 ≤ c → c < m 0 4 → m (100 + c) 1 = 2 → aw_bx (∃ k : Int, 0 ≤ k ∧ k < m 10 (m (100 + c) 3) ∧ m (200 + m (100 + c) 3) k = c)) := by
  unfold wfDay at h
  simp only [Int.zero_add] at h
  exact h
theorem wfDay_of0 {m : mS} {N : Int} (h : (0 ≤ m 0 3 ∧ m 0 3 ≤ 300 * N) ∧ (0 ≤ m 0 4 ∧ m 0 4 ≤ 16) ∧ (0 ≤ m 0 5 ∧ m 0 5 ≤ 40) ∧
  (∀ r : Int, 0 ≤ r → r < 6 → (0 ≤ m 10 r ∧ m 10 r ≤ 16) ∧ (0 ≤ m 11 r ∧ m 11 r ≤ 20) ∧ (m 0 0 ≤ r → m 10 r = 0) ∧ (r < m 0 0 → m 10 r ≤ m 2 r + m 3 r)) ∧
  (∀ c : Int, 0 ≤ c → c < m 0 4 → wfCab m 0 N c (m (100 + c))) ∧
  (∀ r k : Int, 0 ≤ r → r < 6 → 0 ≤ k → k < m 10 r → (0 ≤ m (200 + r) k ∧ m (200 + r) k < m 0 4) ∧ m (100 + m (200 + r) k) 1 = 2 ∧ m (100 + m (200 + r) k) 3 = r) ∧
  (∀ r k j : Int, 0 ≤ r → r < 6 → 0 ≤ k → k < m 10 r → 0 ≤ j → j < m 10 r → m (200 + r) k = m (200 + r) j → k = j) ∧
  (∀ c : Int, 0 ≤ c → c < m 0 4 → m (100 + c) 1 = 2 → aw_bx (∃ k : Int, 0 ≤ k ∧ k < m 10 (m (100 + c) 3) ∧ m (200 + m (100 + c) 3) k = c))) : wfDay m 0 N := by
  unfold wfDay
  simp only [Int.zero_add]
  exact h
theorem wfD1_of {m : mS} {N c : Int} (h : wfDay m 0 N) (hc : m (100 + c) 1 ≠ 2) : wfD1 m N c := by
  obtain ⟨v1, v2, v3, v4, v5, v6, v7, v8⟩ := wfDay_0 h
  refine ⟨v1, v2, v3, v4, fun e e1 e2 _ => v5 e e1 e2, fun r k r1 r2 k1 k2 => ?_, v7, fun e e1 e2 _ => v8 e e1 e2⟩
  have h6 := v6 r k r1 r2 k1 k2
  exact ⟨h6.1, fun q => hc (by rw [← q]; exact h6.2.1), h6.2⟩
theorem wfD1_upr {m : mS} {N c : Int} {x : Int → Int} (hc : 0 ≤ c ∧ c < m 0 4) (h : wfD1 m N c) : wfD1 (upr m (100 + c) x) N c := by
  obtain ⟨v1, v2, v3, v4, v5, v6, v7, v8⟩ := h
  have u : ∀ b : Int, b < 100 ∨ 116 ≤ b → upr m (100 + c) x b = m b := fun b hb => upr_rne (by omega)
  have u0 := u 0 (by omega)
  refine ⟨by rw [u0]; exact v1, by rw [u0]; exact v2, by rw [u0]; exact v3, fun r r1 r2 => ?_, fun e e1 e2 e3 => ?_, fun r k r1 r2 k1 k2 => ?_, fun r k j r1 r2 k1 k2 j1 j2 q => ?_, fun e e1 e2 e3 e4 => ?_⟩
  · rw [u 10 (by omega), u 11 (by omega), u0, u 2 (by omega), u 3 (by omega)]; exact v4 r r1 r2
  · rw [u0] at e2
    rw [upr_rne (by omega)]
    exact wfCab_m (by rw [u0]) (by rw [u0]) (fun r => by rw [u 1 (by omega)]) (v5 e e1 e2 e3)
  · rw [u 10 (by omega)] at k2
    rw [u (200 + r) (by omega), u0]
    have h6 := v6 r k r1 r2 k1 k2
    rw [upr_rne (by have := h6.2.1; omega)]
    exact h6
  · rw [u 10 (by omega)] at k2 j2
    rw [u (200 + r) (by omega)] at q
    exact v7 r k j r1 r2 k1 k2 j1 j2 q
  · rw [u0] at e2
    have e100 : upr m (100 + c) x (100 + e) = m (100 + e) := upr_rne (by omega)
    rw [e100] at e4 ⊢
    have h8 := v8 e e1 e2 e3 e4
    have h5 := v5 e e1 e2 e3
    unfold wfCab at h5
    have hr := h5.2.2.2.1 (Or.inr e4)
    rw [u 10 (by omega), u (200 + m (100 + e) 3) (by omega)]
    exact h8
/-- the cab c, not standing, with any fields that may be -/
theorem wf_put {m : mS} {N c : Int} {x : Int → Int} (hc : 0 ≤ c ∧ c < m 0 4) (h : wfD1 m N c) (hx : wfCab m 0 N c x) (h2 : x 1 ≠ 2) : wfDay (upr m (100 + c) x) 0 N := by
  have h16 := h.2.1
  have h9 := wfD1_upr (x := x) hc h
  have u : ∀ b : Int, b < 100 ∨ 116 ≤ b → upr m (100 + c) x b = m b := fun b hb => upr_rne (by omega)
  obtain ⟨v1, v2, v3, v4, v5, v6, v7, v8⟩ := h9
  refine wfDay_of0 ⟨v1, v2, v3, v4, fun e e1 e2 => ?_, fun r k r1 r2 k1 k2 => ?_, v7, fun e e1 e2 e3 => ?_⟩
  · by_cases q : e = c
    · subst q
      rw [upr_row]
      exact wfCab_m (by rw [u 0 (by omega)]) (by rw [u 0 (by omega)]) (fun r => by rw [u 1 (by omega)]) hx
    · exact v5 e e1 e2 q
  · have h6 := v6 r k r1 r2 k1 k2
    exact ⟨h6.1, h6.2.2⟩
  · refine v8 e e1 e2 (fun q => ?_) e3
    subst q
    rw [upr_eq] at e3
    exact h2 e3
/-- the cab c comes into the row r, at k -/
theorem wf_ins {m : mS} {N c r k : Int} {x : Int → Int} (hc : 0 ≤ c ∧ c < m 0 4) (h : wfD1 m N c) (hr : 0 ≤ r ∧ r < m 0 0 ∧ m 0 0 ≤ 6) (hk : 0 ≤ k ∧ k ≤ m 10 r) (hroom : m 10 r < m 2 r + m 3 r) (hx : wfCab m 0 N c x) (h2 : x 1 = 2) (h3 : x 3 = r) : wfDay (upr (mrow m r k c) (100 + c) x) 0 N := by
  obtain ⟨v1, v2, v3, v4, v5, v6, v7, v8⟩ := h
  have hlt : m 10 r < m 0 4 := pig_c hc ((v4 r (by omega) (by omega)).1.1) (fun k k1 k2 => by have := v6 r k (by omega) (by omega) k1 k2; exact ⟨this.1, this.2.1⟩) (fun k j k1 k2 j1 j2 q => v7 r k j (by omega) (by omega) k1 k2 j1 j2 q)
  have ur : ∀ a j : Int, a < 100 ∨ 116 ≤ a → upr (mrow m r k c) (100 + c) x a j = mrow m r k c a j := fun a j h => upr_ne (by omega)
  have un : ∀ a j : Int, a < 100 ∨ 116 ≤ a → a ≠ 200 + r → ¬ (a = 10 ∧ j = r) → upr (mrow m r k c) (100 + c) x a j = m a j := fun a j h q1 q2 => (ur a j h).trans (mrow_ne q1 q2)
  have uc : ∀ e j : Int, 0 ≤ e → e < 16 → e ≠ c → upr (mrow m r k c) (100 + c) x (100 + e) j = m (100 + e) j := fun e j e1 e2 e3 => (upr_ne (by omega)).trans (mrow_ne (by omega) (by omega))
  have us : upr (mrow m r k c) (100 + c) x 10 r = m 10 r + 1 := (ur 10 r (by omega)).trans (mrow_s hr.1)
  have uw : ∀ j : Int, upr (mrow m r k c) (100 + c) x (200 + r) j = if j < k then m (200 + r) j else if j = k then c else m (200 + r) (j - 1) := fun j => (ur _ j (by omega)).trans mrow_r
  have e4 := un 0 4 (by omega) (by omega) (by omega)
  have wm : ∀ (e : Int) (y : Int → Int), wfCab m 0 N e y → wfCab (upr (mrow m r k c) (100 + c) x) 0 N e y := fun e y h => wfCab_m (un 0 0 (by omega) (by omega) (by omega)) (un 0 3 (by omega) (by omega) (by omega)) (fun q => un 1 q (by omega) (by omega) (by omega)) h
  have rowval : ∀ j : Int, 0 ≤ j → j < m 10 r + 1 → (upr (mrow m r k c) (100 + c) x (200 + r) j = c ∧ j = k) ∨ ∃ i : Int, (0 ≤ i ∧ i < m 10 r) ∧ upr (mrow m r k c) (100 + c) x (200 + r) j = m (200 + r) i ∧ ((j < k ∧ i = j) ∨ (k < j ∧ i = j - 1)) := fun j j1 j2 => by
    rw [uw]
    by_cases q1 : j < k
    · right; exact ⟨j, by omega, by rw [if_pos q1], Or.inl ⟨q1, rfl⟩⟩
    · rw [if_neg q1]
      by_cases q2 : j = k
      · left; exact ⟨by rw [if_pos q2], q2⟩
      · right; exact ⟨j - 1, by omega, by rw [if_neg q2], Or.inr ⟨by omega, rfl⟩⟩
  refine wfDay_of0 ⟨?_, ?_, ?_, fun q q1 q2 => ?_, fun e e1 e2 => ?_, fun q j q1 q2 j1 j2 => ?_, fun q j i q1 q2 j1 j2 i1 i2 hq => ?_, fun e e1 e2 e3 => ?_⟩
  · rw [un 0 3 (by omega) (by omega) (by omega)]; exact v1
  · rw [e4]; exact v2
  · rw [un 0 5 (by omega) (by omega) (by omega)]; exact v3
  · rw [un 11 q (by omega) (by omega) (by omega), un 0 0 (by omega) (by omega) (by omega), un 2 q (by omega) (by omega) (by omega), un 3 q (by omega) (by omega) (by omega)]
    have h4 := v4 q q1 q2
    by_cases e : q = r
    · subst e
      rw [us]
      exact ⟨by omega, h4.2.1, fun z => by omega, fun _ => by omega⟩
    · rw [un 10 q (by omega) (by omega) (by omega)]; exact h4
  · rw [e4] at e2
    by_cases q : e = c
    · subst q
      rw [upr_row]
      exact wm _ _ hx
    · rw [show upr (mrow m r k c) (100 + c) x (100 + e) = m (100 + e) from funext (fun j => uc e j e1 (by omega) q)]
      exact wm _ _ (v5 e e1 e2 q)
  · rw [e4]
    by_cases e : q = r
    · subst e
      rw [us] at j2
      rcases rowval j j1 j2 with ⟨g1, -⟩ | ⟨i, gi, g1, -⟩
      · rw [g1, upr_eq, upr_eq]; exact ⟨hc, h2, h3⟩
      · have h6 := v6 q i q1 q2 gi.1 gi.2
        rw [g1, uc _ _ h6.1.1 (by omega) h6.2.1, uc _ _ h6.1.1 (by omega) h6.2.1]
        exact ⟨h6.1, h6.2.2⟩
    · rw [un 10 q (by omega) (by omega) (by omega)] at j2
      have h6 := v6 q j q1 q2 j1 j2
      rw [un (200 + q) j (by omega) (by omega) (by omega), uc _ _ h6.1.1 (by omega) h6.2.1, uc _ _ h6.1.1 (by omega) h6.2.1]
      exact ⟨h6.1, h6.2.2⟩
  · by_cases e : q = r
    · subst e
      rw [us] at j2 i2
      rcases rowval j j1 j2 with ⟨g1, g2⟩ | ⟨y, gy, g1, g2⟩ <;> rcases rowval i i1 i2 with ⟨f1, f2⟩ | ⟨z, fz, f1, f2⟩
      · omega
      · have h6 := v6 q z q1 q2 fz.1 fz.2
        exact absurd (f1.symm.trans (hq.symm.trans g1)) h6.2.1
      · have h6 := v6 q y q1 q2 gy.1 gy.2
        exact absurd (g1.symm.trans (hq.trans f1)) h6.2.1
      · have h7 := v7 q y z q1 q2 gy.1 gy.2 fz.1 fz.2 (g1.symm.trans (hq.trans f1))
        omega
    · rw [un 10 q (by omega) (by omega) (by omega)] at j2 i2
      rw [un (200 + q) j (by omega) (by omega) (by omega), un (200 + q) i (by omega) (by omega) (by omega)] at hq
      exact v7 q j i q1 q2 j1 j2 i1 i2 hq
  · rw [e4] at e2
    by_cases q : e = c
    · subst q
      rw [upr_eq, h3, us]
      exact aw_mb ⟨k, by omega, by omega, by rw [uw, if_neg (by omega), if_pos rfl]⟩
    · rw [uc e 1 e1 (by omega) q] at e3
      rw [uc e 3 e1 (by omega) q]
      have h5 := v5 e e1 e2 q
      unfold wfCab at h5
      have hr5 := h5.2.2.2.1 (Or.inr e3)
      obtain ⟨i, i1, i2, i3⟩ := aw_ub (v8 e e1 e2 q e3)
      by_cases z : m (100 + e) 3 = r
      · rw [z] at i2 i3 ⊢
        rw [us]
        by_cases zz : i < k
        · exact aw_mb ⟨i, i1, by omega, by rw [uw, if_pos zz]; exact i3⟩
        · exact aw_mb ⟨i + 1, by omega, by omega, by rw [uw, if_neg (by omega), if_neg (by omega), show (i + 1 - 1 : Int) = i by omega]; exact i3⟩
      · rw [un 10 _ (by omega) (by omega) (by omega)]
        exact aw_mb ⟨i, i1, i2, by rw [un _ _ (by omega) (by omega) (by omega)]; exact i3⟩
/-- the cab c, which stands in the row r at k, leaves it -/
theorem wf_rem {m : mS} {N c r k : Int} (h : wfDay m 0 N) (hc : 0 ≤ c ∧ c < m 0 4) (hr : 0 ≤ r ∧ r < m 0 0 ∧ m 0 0 ≤ 6) (hk : 0 ≤ k ∧ k < m 10 r) (hck : m (200 + r) k = c) : wfD1 (mrem m r k) N c := by
  obtain ⟨v1, v2, v3, v4, v5, v6, v7, v8⟩ := wfDay_0 h
  have un : ∀ a j : Int, a ≠ 200 + r → ¬ (a = 10 ∧ j = r) → mrem m r k a j = m a j := fun a j q1 q2 => mrem_ne q1 q2
  have us : mrem m r k 10 r = m 10 r - 1 := mrem_s hr.1
  have uw : ∀ j : Int, mrem m r k (200 + r) j = if j < k then m (200 + r) j else m (200 + r) (j + 1) := fun j => mrem_r
  have e4 := un 0 4 (by omega) (by omega)
  have hck6 := v6 r k (by omega) (by omega) hk.1 hk.2
  rw [hck] at hck6
  have rowval : ∀ j : Int, 0 ≤ j → j < m 10 r - 1 → ∃ i : Int, (0 ≤ i ∧ i < m 10 r ∧ i ≠ k) ∧ mrem m r k (200 + r) j = m (200 + r) i ∧ ((j < k ∧ i = j) ∨ (k ≤ j ∧ i = j + 1)) := fun j j1 j2 => by
    rw [uw]
    by_cases q1 : j < k
    · exact ⟨j, by omega, by rw [if_pos q1], Or.inl ⟨q1, rfl⟩⟩
    · exact ⟨j + 1, by omega, by rw [if_neg q1], Or.inr ⟨by omega, rfl⟩⟩
  refine ⟨?_, ?_, ?_, fun q q1 q2 => ?_, fun e e1 e2 e3 => ?_, fun q j q1 q2 j1 j2 => ?_, fun q j i q1 q2 j1 j2 i1 i2 hq => ?_, fun e e1 e2 e3 e5 => ?_⟩
  · rw [un 0 3 (by omega) (by omega)]; exact v1
  · rw [e4]; exact v2
  · rw [un 0 5 (by omega) (by omega)]; exact v3
  · rw [un 11 q (by omega) (by omega), un 0 0 (by omega) (by omega), un 2 q (by omega) (by omega), un 3 q (by omega) (by omega)]
    have h4 := v4 q q1 q2
    by_cases e : q = r
    · subst e
      rw [us]
      exact ⟨by omega, h4.2.1, fun z => by omega, fun z => by have := h4.2.2.2 z; omega⟩
    · rw [un 10 q (by omega) (by omega)]; exact h4
  · rw [e4] at e2
    rw [show mrem m r k (100 + e) = m (100 + e) from funext (fun j => un _ j (by omega) (by omega))]
    exact wfCab_m (un 0 0 (by omega) (by omega)) (un 0 3 (by omega) (by omega)) (fun z => un 1 z (by omega) (by omega)) (v5 e e1 e2)
  · rw [e4]
    by_cases e : q = r
    · subst e
      rw [us] at j2
      obtain ⟨i, gi, g1, -⟩ := rowval j j1 j2
      have h6 := v6 q i q1 q2 gi.1 gi.2.1
      rw [g1, un _ 1 (by omega) (by omega), un _ 3 (by omega) (by omega)]
      exact ⟨h6.1, fun z => gi.2.2 (v7 q i k q1 q2 gi.1 gi.2.1 hk.1 hk.2 (z.trans hck.symm)), h6.2⟩
    · rw [un 10 q (by omega) (by omega)] at j2
      have h6 := v6 q j q1 q2 j1 j2
      rw [un (200 + q) j (by omega) (by omega), un _ 1 (by omega) (by omega), un _ 3 (by omega) (by omega)]
      exact ⟨h6.1, fun z => by rw [z] at h6; omega, h6.2⟩
  · by_cases e : q = r
    · subst e
      rw [us] at j2 i2
      obtain ⟨y, gy, g1, g2⟩ := rowval j j1 j2
      obtain ⟨z, fz, f1, f2⟩ := rowval i i1 i2
      have h7 := v7 q y z q1 q2 gy.1 gy.2.1 fz.1 fz.2.1 (g1.symm.trans (hq.trans f1))
      omega
    · rw [un 10 q (by omega) (by omega)] at j2 i2
      rw [un (200 + q) j (by omega) (by omega), un (200 + q) i (by omega) (by omega)] at hq
      exact v7 q j i q1 q2 j1 j2 i1 i2 hq
  · rw [e4] at e2
    rw [un _ 1 (by omega) (by omega)] at e5
    rw [un (100 + e) 3 (by omega) (by omega)]
    have h5 := v5 e e1 e2
    unfold wfCab at h5
    have hr5 := h5.2.2.2.1 (Or.inr e5)
    obtain ⟨i, i1, i2, i3⟩ := aw_ub (v8 e e1 e2 e5)
    by_cases z : m (100 + e) 3 = r
    · rw [z] at i2 i3 ⊢
      rw [us]
      have hne : i ≠ k := fun q => e3 (by rw [← i3, q]; exact hck)
      by_cases zz : i < k
      · exact aw_mb ⟨i, i1, by omega, by rw [uw, if_pos zz]; exact i3⟩
      · exact aw_mb ⟨i - 1, by omega, by omega, by rw [uw, if_neg (by omega), show (i - 1 + 1 : Int) = i by omega]; exact i3⟩
    · rw [un 10 _ (by omega) (by omega)]
      exact aw_mb ⟨i, i1, i2, by rw [un _ _ (by omega) (by omega)]; exact i3⟩
