theorem tk_e {m' : mS} {c r k0 : Int} (hr : m' (100 + c) 9 = r) (hk : ffr (m' (200 + r)) (m' 10 r).toNat = k0) (a j : Int) : tk m' c a j = if a = 100 + c then xtn m' c r j else if a = 200 + r ∧ j = k0 then c else m' a j := by
  unfold tk upr up
  rw [hr, hk]
theorem clr_o {m : mS} {S : Nat} {c a j : Int} (h : ¬ (200 ≤ a ∧ a < 206)) : clr m S c a j = m a j := if_neg (fun z => h z.1)
theorem clr_n {m : mS} {S c : Nat} (h : S.testBit c = false) : clr m S ((c : Int) + 1) = clr m S (c : Int) := by
  funext a j
  unfold clr
  by_cases q : m a j = (c : Int)
  · rw [if_neg (fun z => by have := z.2.2.2; rw [q, Int.toNat_natCast, h] at this; cases this), if_neg (fun z => by have := z.2.2.1; omega)]
  · by_cases z : (200 ≤ a ∧ a < 206) ∧ (0 ≤ j ∧ j < m 10 (a - 200)) ∧ m a j < (c : Int) ∧ S.testBit (m a j).toNat = true
    · rw [if_pos z, if_pos ⟨z.1, z.2.1, by omega, z.2.2.2⟩]
    · rw [if_neg z, if_neg (fun w => z ⟨w.1, w.2.1, by have := w.2.2.1; omega, w.2.2.2⟩)]
/-- bounds alone -/
def wkq (m' : mS) : Prop := (0 ≤ m' 0 4 ∧ m' 0 4 ≤ 16) ∧ (∀ r : Int, 0 ≤ r → r < 6 → 0 ≤ m' 10 r ∧ m' 10 r ≤ 16) ∧ (∀ r k : Int, 0 ≤ r → r < 6 → 0 ≤ k → k < m' 10 r → -1 ≤ m' (200 + r) k ∧ m' (200 + r) k ≤ 15) ∧
  (∀ c : Int, 0 ≤ c → c < m' 0 4 → (0 ≤ m' (100 + c) 1 ∧ m' (100 + c) 1 ≤ 3) ∧ (m' (100 + c) 1 = 2 → 0 ≤ m' (100 + c) 3 ∧ m' (100 + c) 3 < 6))
theorem wkq_clr {m : mS} {N : Int} {S : Nat} (c : Int) (wC : wfCity m) (wD : wfDay m 0 N) : wkq (clr m S c) := by
  obtain ⟨v1, v2, v3, v4, v5, v6, v7, v8⟩ := wfDay_0 wD
  have h6 := wC.1
  unfold wkq
  simp only [clr_o (m := m) (S := S) (c := c) (a := 0) (by omega), clr_o (m := m) (S := S) (c := c) (a := 10) (by omega)]
  refine ⟨v2, fun r r1 r2 => (v4 r r1 r2).1, fun r k r1 r2 k1 k2 => ?_, fun e e1 e2 => ?_⟩
  · have := (v6 r k r1 r2 k1 k2).1
    unfold clr
    split <;> omega
  · rw [clr_o (by omega), clr_o (by omega)]
    have w5 := v5 e e1 e2
    unfold wfCab at w5
    refine ⟨w5.2.1, fun z => ?_⟩
    have := w5.2.2.2.1 (Or.inr z)
    omega
theorem wkq_Q {m m' : mS} {N : Int} {S c : Nat} (wC : wfCity m) (wD : wfDay m 0 N) (hp : isHp (rkm m) (wsm m) S (m 0 4).toNat) (h : Q m S c m') : wkq m' := by
  obtain ⟨v1, v2, v3, v4, v5, v6, v7, v8⟩ := wfDay_0 wD
  obtain ⟨q0, q1, q2, q3, q4, q5⟩ := h
  have h6 := wC.1
  have e0 : ∀ j, m' 0 j = m 0 j := fun j => q0 0 j (by omega) (fun ⟨d, d1, d2, _⟩ => by omega)
  have e10 : ∀ j, m' 10 j = m 10 j := fun j => q0 10 j (by omega) (fun ⟨d, d1, d2, _⟩ => by omega)
  unfold wkq
  simp only [e0, e10]
  refine ⟨v2, fun r r1 r2 => (v4 r r1 r2).1, fun r k r1 r2 k1 k2 => ?_, fun e e1 e2 => ?_⟩
  · rcases q2 r k r1 r2 k1 k2 with z | ⟨z1, _⟩ <;> omega
  · have w5 := v5 e e1 e2
    unfold wfCab at w5
    by_cases w : ∃ d : Nat, 100 + e = 100 + (d : Int) ∧ d < c ∧ S.testBit d = true
    · obtain ⟨d, d1, d2, d3⟩ := w
      have hws := ok_ws wC wD hp d3
      have hcd : e = (d : Int) := by omega
      rw [d1, q1 d d2 d3, q1 d d2 d3]
      have y1 : xtn m (d : Int) (wsm m d) 1 = m (100 + (d : Int)) 1 := rfl
      have y3 : xtn m (d : Int) (wsm m d) 3 = wsm m d := rfl
      rw [y1, y3]
      rw [hcd] at w5
      exact ⟨w5.2.1, fun _ => hws⟩
    · rw [q0 _ _ (by omega) w, q0 _ _ (by omega) w]
      refine ⟨w5.2.1, fun z => ?_⟩
      have := w5.2.2.2.1 (Or.inr z)
      omega
theorem dayC_clr {σ : aw_S} {m : mS} {N : Int} {S c : Nat} {k : Int} (wC : wfCity m) (wD : wfDay m 0 N) (hD : dayC σ 21 0 (clr m S (c : Int))) (hc : (c : Int) < m 0 4) (hS : S.testBit c = true) (h2 : m (100 + (c : Int)) 1 = 2)
    (hk : 0 ≤ k ∧ k < m 10 (m (100 + (c : Int)) 3)) (hk2 : m (200 + m (100 + (c : Int)) 3) k = (c : Int)) : dayC (aw_si σ (21 + 3 + (m (100 + (c : Int)) 3).toNat) k (-1)) 21 0 (clr m S ((c : Int) + 1)) := by
  obtain ⟨v1, v2, v3, v4, v5, v6, v7, v8⟩ := wfDay_0 wD
  have w5 := v5 (c : Int) (by omega) hc
  unfold wfCab at w5
  have h6 := wC.1
  have hr := w5.2.2.2.1 (Or.inr h2)
  have eo : ∀ a j : Int, ¬ (200 ≤ a ∧ a < 206) → clr m S ((c : Int) + 1) a j = clr m S (c : Int) a j := fun a j h => by rw [clr_o h, clr_o h]
  obtain ⟨d1, d2, d3, d4, d5, d6, d7⟩ := hD
  refine ⟨?_, ?_, ?_, fun r r1 r2 => ?_, fun e f e1 e2 f1 f2 => ?_, fun r j r1 r2 j1 j2 => ?_, fun i w i1 i2 w1 w2 => ?_⟩
  · rw [eo _ _ (by omega), rd_si_ne (by omega)]; exact d1
  · rw [eo _ _ (by omega), rd_si_ne (by omega)]; exact d2
  · rw [eo _ _ (by omega), rd_si_ne (by omega)]; exact d3
  · rw [eo _ _ (by omega), eo _ _ (by omega), rd_si_ne (by omega), rd_si_ne (by omega)]; exact d4 r r1 r2
  · rw [eo _ _ (by omega)] at e2
    rw [eo _ _ (by rw [clr_o (by omega)] at e2; omega), rd_si_ne (by omega)]
    exact d5 e f e1 e2 f1 f2
  · rw [eo _ _ (by omega)] at j2
    have d6' := d6 r j r1 r2 j1 j2
    rw [clr_o (by omega), show (0 : Int) + 10 = 10 from rfl] at j2
    simp only [Int.zero_add] at d6' ⊢
    have hv := v6 r j r1 r2 j1 j2
    by_cases q : r = m (100 + (c : Int)) 3 ∧ j = k
    · rw [← q.1, q.2, rd_si_eq]
      unfold clr
      rw [if_pos]
      rw [q.1, hk2]
      exact ⟨by omega, by rw [show 200 + m (100 + (c : Int)) 3 - 200 = m (100 + (c : Int)) 3 by omega]; exact hk, by omega, by rw [Int.toNat_natCast]; exact hS⟩
    · have hne : m (200 + r) j ≠ (c : Int) := fun z => by
        rw [z] at hv
        have hrr : r = m (100 + (c : Int)) 3 := hv.2.2.symm
        refine q ⟨hrr, ?_⟩
        rw [← hrr] at hk hk2
        exact v7 r j k r1 r2 j1 j2 hk.1 hk.2 (z.trans hk2.symm)
      rw [rd_si, if_neg (fun z => q ⟨by omega, z.2⟩), d6']
      unfold clr
      by_cases y : (200 ≤ 200 + r ∧ 200 + r < 206) ∧ (0 ≤ j ∧ j < m 10 (200 + r - 200)) ∧ m (200 + r) j < (c : Int) ∧ S.testBit (m (200 + r) j).toNat = true
      · rw [if_pos y, if_pos ⟨y.1, y.2.1, by omega, y.2.2.2⟩]
      · rw [if_neg y, if_neg (fun w => y ⟨w.1, w.2.1, by have := w.2.2.1; omega, w.2.2.2⟩)]
  · rw [eo _ _ (by omega)] at i2
    rw [eo _ _ (by omega), rd_si_ne (by omega)]
    exact d7 i w i1 i2 w1 w2
theorem dayC_tk {σ : aw_S} {m' : mS} {c : Nat} {r k0 : Int} (hD : dayC σ 21 0 m') (w16 : m' 0 4 ≤ 16) (h5 : m' 0 5 ≤ 40) (hc : (c : Int) < m' 0 4) (hr : m' (100 + (c : Int)) 9 = r) (hr6 : 0 ≤ r ∧ r < 6) (hk : ffr (m' (200 + r)) (m' 10 r).toNat = k0) :
    dayC (aw_si (aw_si (aw_si (aw_si (aw_si σ (21 + 3 + r.toNat) k0 (c : Int)) (21 + 12 + ((c : Int)).toNat) 3 r) (21 + 12 + ((c : Int)).toNat) 2 (m' 1 r)) (21 + 12 + ((c : Int)).toNat) 9 (-1)) (21 + 12 + ((c : Int)).toNat) 10 0) 21 0 (tk m' (c : Int)) := by
  obtain ⟨d1, d2, d3, d4, d5, d6, d7⟩ := hD
  have T := tk_e (c := (c : Int)) hr hk
  have eo : ∀ a j : Int, ¬ (200 ≤ a ∧ a < 206) → ¬ a = 100 + (c : Int) → tk m' (c : Int) a j = m' a j := fun a j h1 h2 => by rw [T, if_neg h2, if_neg (by omega)]
  refine ⟨?_, ?_, ?_, fun x r1 r2 => ?_, fun e f e1 e2 f1 f2 => ?_, fun x j r1 r2 j1 j2 => ?_, fun i w i1 i2 w1 w2 => ?_⟩
  · rw [eo _ _ (by omega) (by omega)]; simp only [rd_si]; (repeat rw [if_neg (by omega)]); exact d1
  · rw [eo _ _ (by omega) (by omega)]; simp only [rd_si]; (repeat rw [if_neg (by omega)]); exact d2
  · rw [eo _ _ (by omega) (by omega)]; simp only [rd_si]; (repeat rw [if_neg (by omega)]); exact d3
  · rw [eo _ _ (by omega) (by omega), eo _ _ (by omega) (by omega)]; simp only [rd_si]; (repeat rw [if_neg (by omega)]); exact d4 x r1 r2
  · rw [eo _ _ (by omega) (by omega)] at e2
    have h := d5 e f e1 e2 f1 f2
    simp only [Int.zero_add] at h ⊢
    rw [T]
    by_cases q : e = (c : Int)
    · subst q
      rw [if_pos rfl]
      unfold xtn
      simp only [rd_si, true_and]
      by_cases z10 : f = 10
      · rw [if_pos z10, if_neg (by omega), if_neg (by omega), if_neg (by omega), if_pos z10]
      · rw [if_neg z10]
        by_cases z9 : f = 9
        · rw [if_pos z9, if_neg (by omega), if_neg (by omega), if_pos z9]
        · rw [if_neg z9]
          by_cases z2 : f = 2
          · rw [if_pos z2, if_neg (by omega), if_pos z2]
          · rw [if_neg z2]
            by_cases z3 : f = 3
            · rw [if_pos z3, if_pos z3]
            · rw [if_neg z3, if_neg z3, if_neg z2, if_neg z9, if_neg z10, if_neg (by omega)]
              exact h
    · rw [if_neg (by omega), if_neg (by omega)]
      simp only [rd_si]
      (repeat rw [if_neg (by omega)])
      exact h
  · rw [eo _ _ (by omega) (by omega)] at j2
    have h := d6 x j r1 r2 j1 j2
    simp only [Int.zero_add] at h ⊢
    rw [T, if_neg (by omega)]
    simp only [rd_si]
    rw [if_neg (by omega), if_neg (by omega), if_neg (by omega), if_neg (by omega)]
    by_cases q : x = r ∧ j = k0
    · rw [if_pos ⟨by omega, q.2⟩, if_pos ⟨by omega, q.2⟩]
    · rw [if_neg (fun z => q ⟨by omega, z.2⟩), if_neg (fun z => q ⟨by omega, z.2⟩)]
      exact h
  · rw [eo _ _ (by omega) (by omega)] at i2
    rw [eo _ _ (by omega) (by omega)]
    simp only [rd_si]
    (repeat rw [if_neg (by omega)])
    exact d7 i w i1 i2 w1 w2
theorem dayM_tk {σ : aw_S} {m' : mS} {c : Nat} {r k0 : Int} (hD : dayM σ m') (w16 : m' 0 4 ≤ 16) (h5 : m' 0 5 ≤ 40) (h10 : ∀ x : Int, 0 ≤ x → x < 6 → m' 10 x ≤ 16) (hc : (c : Int) < m' 0 4) (hr : m' (100 + (c : Int)) 9 = r) (hst : m' (100 + (c : Int)) 1 = 2) (hr6 : 0 ≤ r ∧ r < 6) (hk : ffr (m' (200 + r)) (m' 10 r).toNat = k0) (hk0 : 0 ≤ k0 ∧ k0 < 18) :
    dayM (aw_si (aw_si (aw_si (aw_si σ 183 (18 * r + k0) (c : Int)) 182 (11 * (c : Int) + 2) r) 182 (11 * (c : Int) + 8) (-1)) 182 (11 * (c : Int) + 10) 0) (tk m' (c : Int)) := by
  obtain ⟨d1, d2, d3, d4, d5, d6, d7⟩ := hD
  have T := tk_e (c := (c : Int)) hr hk
  have eo : ∀ a j : Int, ¬ (200 ≤ a ∧ a < 206) → ¬ a = 100 + (c : Int) → tk m' (c : Int) a j = m' a j := fun a j h1 h2 => by rw [T, if_neg h2, if_neg (by omega)]
  refine ⟨?_, ?_, ?_, fun x r1 r2 => ?_, fun e e1 e2 => ?_, fun x j r1 r2 j1 j2 => ?_, fun i w i1 i2 w1 w2 => ?_⟩
  · rw [eo _ _ (by omega) (by omega)]; simp only [rd_si]; (repeat rw [if_neg (by omega)]); exact d1
  · rw [eo _ _ (by omega) (by omega)]; simp only [rd_si]; (repeat rw [if_neg (by omega)]); exact d2
  · rw [eo _ _ (by omega) (by omega)]; simp only [rd_si]; (repeat rw [if_neg (by omega)]); exact d3
  · rw [eo _ _ (by omega) (by omega), eo _ _ (by omega) (by omega)]; simp only [rd_si]; (repeat rw [if_neg (by omega)]); exact d4 x r1 r2
  · rw [eo _ _ (by omega) (by omega)] at e2
    have h := d5 e e1 e2
    by_cases q : e = (c : Int)
    · subst q
      have hrow : tk m' (c : Int) (0 + 100 + (c : Int)) = xtn m' (c : Int) r := by
        funext f
        rw [T, if_pos (by omega)]
      rw [hrow]
      unfold cabM at h ⊢
      simp only [Int.zero_add] at h
      rw [hst] at h
      have y1 : xtn m' (c : Int) r 1 = 2 := hst
      have y0 : xtn m' (c : Int) r 0 = m' (100 + (c : Int)) 0 := rfl
      have y3 : xtn m' (c : Int) r 3 = r := rfl
      have y5 : xtn m' (c : Int) r 5 = m' (100 + (c : Int)) 5 := rfl
      have y6 : xtn m' (c : Int) r 6 = m' (100 + (c : Int)) 6 := rfl
      have y7 : xtn m' (c : Int) r 7 = m' (100 + (c : Int)) 7 := rfl
      have y8 : xtn m' (c : Int) r 8 = m' (100 + (c : Int)) 8 := rfl
      have y9 : xtn m' (c : Int) r 9 = -1 := rfl
      have y10 : xtn m' (c : Int) r 10 = 0 := rfl
      obtain ⟨k0', k9, k1, k2, k3, k4, k5, k6, k7, k8, k10⟩ := h
      rw [y1, y0, y3, y5, y6, y7, y8, y9, y10]
      simp only [rd_si, true_and]
      refine ⟨?_, ?_, fun z => by omega, fun _ => ?_, fun z => by omega, ?_, ?_, ?_, ?_, ?_, ?_⟩
      · (repeat rw [if_neg (by omega)]); exact k0'
      · (repeat rw [if_neg (by omega)]); exact k9
      · rw [if_neg (by omega), if_neg (by omega), if_pos True.intro]
      · (repeat rw [if_neg (by omega)]); exact k4
      · (repeat rw [if_neg (by omega)]); exact k5
      · (repeat rw [if_neg (by omega)]); exact k6
      · (repeat rw [if_neg (by omega)]); exact k7
      · rw [if_neg (by omega), if_pos True.intro]
      · rw [if_pos True.intro]
    · have hrow : tk m' (c : Int) (0 + 100 + e) = m' (0 + 100 + e) := by
        funext f
        rw [T, if_neg (by omega), if_neg (by omega)]
      rw [hrow]
      have hg : ∀ x : Int, 0 ≤ x → x ≤ 10 → (aw_si (aw_si (aw_si (aw_si σ 183 (18 * r + k0) (c : Int)) 182 (11 * (c : Int) + 2) r) 182 (11 * (c : Int) + 8) (-1)) 182 (11 * (c : Int) + 10) 0).1 182 (11 * e + x) = σ.1 182 (11 * e + x) := fun x x1 x2 => by
        simp only [rd_si]
        (repeat rw [if_neg (by omega)])
      have hg0 := hg 0 (by omega) (by omega)
      rw [Int.add_zero] at hg0
      unfold cabM at h ⊢
      rw [hg0, hg 9 (by omega) (by omega), hg 1 (by omega) (by omega), hg 2 (by omega) (by omega), hg 3 (by omega) (by omega), hg 4 (by omega) (by omega), hg 5 (by omega) (by omega), hg 6 (by omega) (by omega), hg 7 (by omega) (by omega), hg 8 (by omega) (by omega), hg 10 (by omega) (by omega)]
      exact h
  · rw [eo _ _ (by omega) (by omega)] at j2
    have h := d6 x j r1 r2 j1 j2
    have hj := h10 x r1 r2
    simp only [Int.zero_add] at h j2 ⊢
    rw [T, if_neg (by omega)]
    simp only [rd_si]
    rw [if_neg (by omega), if_neg (by omega), if_neg (by omega)]
    by_cases q : x = r ∧ j = k0
    · rw [if_pos ⟨trivial, by rw [q.1, q.2]⟩, if_pos ⟨by omega, q.2⟩]
    · rw [if_neg (fun z => by omega), if_neg (fun z => q ⟨by omega, z.2⟩)]
      exact h
  · rw [eo _ _ (by omega) (by omega)] at i2
    rw [eo _ _ (by omega) (by omega)]
    simp only [rd_si]
    (repeat rw [if_neg (by omega)])
    exact d7 i w i1 i2 w1 w2
