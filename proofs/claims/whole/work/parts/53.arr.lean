/-! ===== a cab comes to a rank: the model ===== -/
theorem AW.gen {l : Launch} {y : MethodName} {cc : ByteArray} {nL : Nat} {ret : Option FieldType} {F Lo mc ms : Nat} {she : aw_Sh} {Post : Option Value → aw_S → Prop} {sh : aw_Sh} {k n : Nat} {σ : aw_S} {pc : Nat} {ls : List (Option Value)} {st : List Value} (kk : ∀ σ' : aw_S, σ' = σ → AW l y cc nL ret F Lo mc ms she Post sh k n σ' pc ls st) : AW l y cc nL ret F Lo mc ms she Post sh k n σ pc ls st := kk σ rfl
/-- behind those who came by ticket -/
def btP (m : mS) (r k : Int) : Prop := (0 ≤ k ∧ k ≤ m 10 r) ∧ (∀ j : Int, 0 ≤ j → j < k → m (100 + m (200 + r) j) 10 = 1) ∧ (k = m 10 r ∨ m (100 + m (200 + r) k) 10 ≠ 1)
noncomputable def btp (m : mS) (r : Int) : Int := Classical.epsilon (fun k : Int => btP m r k)
theorem btp_eq {m : mS} {r k : Int} (h : btP m r k) : k = btp m r := by
  have h2 : btP m r (btp m r) := Classical.epsilon_spec (p := fun k : Int => btP m r k) ⟨k, h⟩
  obtain ⟨a1, a2, a3⟩ := h
  obtain ⟨b1, b2, b3⟩ := h2
  rcases Int.lt_trichotomy k (btp m r) with q | q | q
  · rcases a3 with a3 | a3
    · omega
    · exact absurd (b2 k a1.1 q) a3
  · exact q
  · rcases b3 with b3 | b3
    · omega
    · exact absurd (a2 _ b1.1 q) b3
def xst (m : mS) (c r by' : Int) : Int → Int := fun f => if f = 1 then 2 else if f = 2 then m 1 r else if f = 3 then r else if f = 4 then -1 else if f = 10 then by' else if (f = 5 ∨ f = 6) ∧ by' = 1 then -1 else m (100 + c) f
def xem (m : mS) (c p : Int) : Int → Int := fun f => if f = 1 then 0 else if f = 2 then p else if f = 3 ∨ f = 4 then -1 else m (100 + c) f
/-- what must hold of a cab that comes -/
def wfComer (m : mS) (N c r : Int) : Prop :=
  (0 ≤ c ∧ c < m 0 4) ∧ (m (100 + c) 3 = r ∧ 0 ≤ r ∧ r < m 0 0) ∧ (0 ≤ m (100 + c) 0 ∧ m (100 + c) 0 ≤ 3) ∧ (-1 ≤ m (100 + c) 5 ∧ m (100 + c) 5 < 6) ∧ (-1 ≤ m (100 + c) 6 ∧ m (100 + c) 6 ≤ 300 * N + 240) ∧ (0 ≤ m (100 + c) 7 ∧ m (100 + c) 7 ≤ 300000 * N) ∧ (0 ≤ m (100 + c) 8 ∧ m (100 + c) 8 ≤ 300 * N) ∧ m (100 + c) 9 = -1 ∧ (m (100 + c) 10 = 0 ∨ m (100 + c) 10 = 1)
theorem wfCab_xem {m : mS} {N c r : Int} (wC : wfCity m) (hN : 0 ≤ N) (h : wfComer m N c r) : wfCab m 0 N c (xem m c (m 1 r)) := by
  obtain ⟨a1, a2, a3, a4, a5, a6, a7, a8, a9⟩ := h
  have hp := (wC.2.1 r a2.2.1 a2.2.2).1
  have x0 : xem m c (m 1 r) 0 = m (100 + c) 0 := rfl
  have x1 : xem m c (m 1 r) 1 = 0 := rfl
  have x2 : xem m c (m 1 r) 2 = m 1 r := rfl
  have x3 : xem m c (m 1 r) 3 = -1 := rfl
  have x4 : xem m c (m 1 r) 4 = -1 := rfl
  have x5 : xem m c (m 1 r) 5 = m (100 + c) 5 := rfl
  have x6 : xem m c (m 1 r) 6 = m (100 + c) 6 := rfl
  have x7 : xem m c (m 1 r) 7 = m (100 + c) 7 := rfl
  have x8 : xem m c (m 1 r) 8 = m (100 + c) 8 := rfl
  have x9 : xem m c (m 1 r) 9 = m (100 + c) 9 := rfl
  have x10 : xem m c (m 1 r) 10 = m (100 + c) 10 := rfl
  unfold wfCab
  rw [x0, x1, x2, x3, x4, x5, x6, x7, x8, x9, x10]
  refine ⟨a3, by omega, hp, fun q => by omega, fun _ => rfl, fun q => by omega, fun _ => rfl, fun q => by omega, a4, a5, a6, a7, Or.inl a8, a9⟩
theorem wfCab_xst {m : mS} {N c r by' : Int} (wC : wfCity m) (hN : 0 ≤ N) (h : wfComer m N c r) (hb : by' = 0 ∨ by' = 1) : wfCab m 0 N c (xst m c r by') := by
  obtain ⟨a1, a2, a3, a4, a5, a6, a7, a8, a9⟩ := h
  have hp := (wC.2.1 r a2.2.1 a2.2.2).1
  have x0 : xst m c r by' 0 = m (100 + c) 0 := by unfold xst; rw [if_neg (by decide), if_neg (by decide), if_neg (by decide), if_neg (by decide), if_neg (by decide), if_neg (by omega)]
  have x1 : xst m c r by' 1 = 2 := rfl
  have x2 : xst m c r by' 2 = m 1 r := rfl
  have x3 : xst m c r by' 3 = r := rfl
  have x4 : xst m c r by' 4 = -1 := rfl
  have x5 : xst m c r by' 5 = if by' = 1 then -1 else m (100 + c) 5 := by
    unfold xst; rw [if_neg (by decide), if_neg (by decide), if_neg (by decide), if_neg (by decide), if_neg (by decide)]
    by_cases q : by' = 1
    · rw [if_pos ⟨Or.inl rfl, q⟩, if_pos q]
    · rw [if_neg (fun z => q z.2), if_neg q]
  have x6 : xst m c r by' 6 = if by' = 1 then -1 else m (100 + c) 6 := by
    unfold xst; rw [if_neg (by decide), if_neg (by decide), if_neg (by decide), if_neg (by decide), if_neg (by decide)]
    by_cases q : by' = 1
    · rw [if_pos ⟨Or.inr rfl, q⟩, if_pos q]
    · rw [if_neg (fun z => q z.2), if_neg q]
  have x7 : xst m c r by' 7 = m (100 + c) 7 := by unfold xst; rw [if_neg (by decide), if_neg (by decide), if_neg (by decide), if_neg (by decide), if_neg (by decide), if_neg (by omega)]
  have x8 : xst m c r by' 8 = m (100 + c) 8 := by unfold xst; rw [if_neg (by decide), if_neg (by decide), if_neg (by decide), if_neg (by decide), if_neg (by decide), if_neg (by omega)]
  have x9 : xst m c r by' 9 = m (100 + c) 9 := by unfold xst; rw [if_neg (by decide), if_neg (by decide), if_neg (by decide), if_neg (by decide), if_neg (by decide), if_neg (by omega)]
  have x10 : xst m c r by' 10 = by' := rfl
  unfold wfCab
  rw [x0, x1, x2, x3, x4, x5, x6, x7, x8, x9, x10]
  refine ⟨a3, by omega, hp, fun _ => a2.2, fun q => by omega, fun q => by omega, fun _ => rfl, fun _ => rfl, by split <;> omega, by split <;> omega, a6, a7, Or.inl a8, hb⟩
/-- the cab c has come to the rank r -/
noncomputable def marr (m : mS) (c r : Int) : mS := @ite _ (mayst m r (m (100 + c) 0) (m 0 3 / 60 % 24) 0 ∧ m 10 r < m 2 r + m 3 r) (Classical.propDecidable _)
  (if m (100 + c) 5 = r ∧ m 0 3 ≤ m (100 + c) 6 then mtell (upr (mrow m r (btp m r) c) (100 + c) (xst m c r 1)) c r 1 (m 10 r - btp m r) else upr (mrow m r (m 10 r) c) (100 + c) (xst m c r 0)) (upr m (100 + c) (xem m c (m 1 r)))
theorem frm_upr {m : mS} {c : Int} {x : Int → Int} (h : 0 ≤ c ∧ c < 16) : frm m (upr m (100 + c) x) := fun a j h1 h2 h3 => upr_ne (by omega)
theorem frm_arr {m : mS} {c r : Int} (h : 0 ≤ c ∧ c < 16) (hr : 0 ≤ r ∧ r < 6) : frm m (marr m c r) := by
  unfold marr
  split
  · split
    · exact frm_tr (frm_tr (rowD_frm hr (rowD_ins hr.1)) (frm_upr h)) frm_tell
    · exact frm_tr (rowD_frm hr (rowD_ins hr.1)) (frm_upr h)
  · exact frm_upr h
theorem wfDay_ps {m : mS} {N np : Int} {g : Int → Int → Int} (h60 : m 0 0 ≤ 6) (hn : 0 ≤ np ∧ np ≤ 40) (h : wfDay m 0 N) : wfDay (mps m np g) 0 N := by
  obtain ⟨v1, v2, v3, v4, v5, v6, v7, v8⟩ := wfDay_0 h
  have un : ∀ a j : Int, ¬ (a = 0 ∧ j = 5) → ¬ (300 ≤ a ∧ a < 340) → mps m np g a j = m a j := fun a j q1 q2 => mps_ne q1 q2
  have e4 := un 0 4 (by omega) (by omega)
  have uc : ∀ e : Int, 0 ≤ e → e < 16 → mps m np g (100 + e) = m (100 + e) := fun e e1 e2 => funext (fun j => un _ j (by omega) (by omega))
  have uw : ∀ r j : Int, 0 ≤ r → r < 6 → mps m np g (200 + r) j = m (200 + r) j := fun r j r1 r2 => un _ j (by omega) (by omega)
  refine wfDay_of0 ⟨?_, ?_, ?_, fun q q1 q2 => ?_, fun e e1 e2 => ?_, fun q j q1 q2 j1 j2 => ?_, fun q j i q1 q2 j1 j2 i1 i2 hq => ?_, fun e e1 e2 e3 => ?_⟩
  · rw [un 0 3 (by omega) (by omega)]; exact v1
  · rw [e4]; exact v2
  · rw [mps_np]; exact hn
  · rw [un 10 q (by omega) (by omega), un 11 q (by omega) (by omega), un 0 0 (by omega) (by omega), un 2 q (by omega) (by omega), un 3 q (by omega) (by omega)]; exact v4 q q1 q2
  · rw [e4] at e2
    rw [uc e e1 (by omega)]
    exact wfCab_m (un 0 0 (by omega) (by omega)) (un 0 3 (by omega) (by omega)) (fun z => un 1 z (by omega) (by omega)) (v5 e e1 e2)
  · rw [un 10 q (by omega) (by omega)] at j2
    have h6 := v6 q j q1 q2 j1 j2
    rw [e4, uw q j q1 q2, uc _ h6.1.1 (by omega)]
    exact h6
  · rw [un 10 q (by omega) (by omega)] at j2 i2
    rw [uw q j q1 q2, uw q i q1 q2] at hq
    exact v7 q j i q1 q2 j1 j2 i1 i2 hq
  · rw [e4] at e2
    rw [uc e e1 (by omega)] at e3 ⊢
    have h5 := v5 e e1 e2
    unfold wfCab at h5
    have hr5 := h5.2.2.2.1 (Or.inr e3)
    have h8 := aw_ub (v8 e e1 e2 e3)
    obtain ⟨i, i1, i2, i3⟩ := h8
    exact aw_mb ⟨i, i1, by rw [un 10 _ (by omega) (by omega)]; exact i2, by rw [uw _ _ hr5.1 (by omega)]; exact i3⟩
theorem wfDay_tell {m : mS} {N c rk law many : Int} (h60 : m 0 0 ≤ 6) (h : wfDay m 0 N) : wfDay (mtell m c rk law many) 0 N := by
  have h3 := (wfDay_0 h).2.2.1
  unfold mtell
  split
  · exact h
  · split
    · exact wfDay_ps h60 (by omega) h
    · exact wfDay_ps h60 (by omega) h
theorem wf_arr {m : mS} {N c r : Int} (wC : wfCity m) (hN : 0 ≤ N) (h1 : wfD1 m N c) (h : wfComer m N c r) (hb : btP m r (btp m r)) : wfDay (marr m c r) 0 N := by
  have hr : 0 ≤ r ∧ r < m 0 0 ∧ m 0 0 ≤ 6 := ⟨h.2.1.2.1, h.2.1.2.2, wC.1.2⟩
  unfold marr
  split
  · next q =>
    split
    · have e0 : upr (mrow m r (btp m r) c) (100 + c) (xst m c r 1) 0 0 = m 0 0 := (upr_ne (by have := h.1; omega)).trans (mrow_ne (by omega) (by omega))
      exact wfDay_tell (by rw [e0]; exact hr.2.2) (wf_ins h.1 h1 hr hb.1 q.2 (wfCab_xst wC hN h (Or.inr rfl)) rfl rfl)
    · exact wf_ins h.1 h1 hr ⟨(h1.2.2.2.1 r (by omega) (by omega)).1.1, Int.le_refl _⟩ q.2 (wfCab_xst wC hN h (Or.inl rfl)) rfl rfl
  · exact wf_put h.1 h1 (wfCab_xem wC hN h) (by show (0 : Int) ≠ 2; decide)
theorem btp_ex {m : mS} {r : Int} (h0 : 0 ≤ m 10 r) : btP m r (btp m r) := by
  have key : ∀ n : Nat, ∀ k : Int, 0 ≤ k → k ≤ m 10 r → (m 10 r - k).toNat ≤ n → (∀ j : Int, 0 ≤ j → j < k → m (100 + m (200 + r) j) 10 = 1) → ∃ k', btP m r k' := by
    intro n
    induction n with
    | zero => exact fun k k1 k2 k3 k4 => ⟨k, ⟨k1, k2⟩, k4, Or.inl (by omega)⟩
    | succ n ih =>
      intro k k1 k2 k3 k4
      by_cases q : k = m 10 r
      · exact ⟨k, ⟨k1, k2⟩, k4, Or.inl q⟩
      · by_cases q2 : m (100 + m (200 + r) k) 10 = 1
        · exact ih (k + 1) (by omega) (by omega) (by omega) (fun j j1 j2 => by
            by_cases e : j < k
            · exact k4 j j1 e
            · rw [show j = k by omega]; exact q2)
        · exact ⟨k, ⟨k1, k2⟩, k4, Or.inr q2⟩
  exact Classical.epsilon_spec (p := fun k : Int => btP m r k) (key _ 0 (Int.le_refl 0) h0 (Nat.le_refl _) (fun j j1 j2 => by omega))
