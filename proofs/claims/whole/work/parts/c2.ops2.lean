/-! ===== the calls that change more than the day ===== -/
theorem cityC_mm {σ : aw_S} {t : Nat} {m m' : mS} (h0 : m' 0 0 = m 0 0 ∧ m' 0 1 = m 0 1 ∧ m' 0 2 = m 0 2) (hr : ∀ a j : Int, 1 ≤ a → a ≤ 9 → m' a j = m a j) (hC : cityC σ t m) : cityC σ t m' := by
  unfold cityC at hC ⊢
  simp only [h0.1, h0.2.1, h0.2.2, fun j => hr 1 j (by omega) (by omega), fun j => hr 2 j (by omega) (by omega), fun j => hr 3 j (by omega) (by omega), fun j => hr 4 j (by omega) (by omega), fun j => hr 5 j (by omega) (by omega), fun j => hr 6 j (by omega) (by omega), fun j => hr 7 j (by omega) (by omega), fun j => hr 8 j (by omega) (by omega), fun j => hr 9 j (by omega) (by omega)]
  exact hC
theorem cityM_mm {σ : aw_S} {m m' : mS} (h0 : m' 0 0 = m 0 0 ∧ m' 0 1 = m 0 1 ∧ m' 0 2 = m 0 2) (hr : ∀ a j : Int, 1 ≤ a → a ≤ 9 → m' a j = m a j) (hC : cityM σ m) : cityM σ m' := by
  unfold cityM at hC ⊢
  simp only [h0.1, h0.2.1, h0.2.2, fun j => hr 1 j (by omega) (by omega), fun j => hr 2 j (by omega) (by omega), fun j => hr 3 j (by omega) (by omega), fun j => hr 4 j (by omega) (by omega), fun j => hr 5 j (by omega) (by omega), fun j => hr 6 j (by omega) (by omega), fun j => hr 7 j (by omega) (by omega), fun j => hr 8 j (by omega) (by omega), fun j => hr 9 j (by omega) (by omega)]
  exact hC
theorem wfCity_mm {m m' : mS} (h0 : m' 0 0 = m 0 0 ∧ m' 0 1 = m 0 1 ∧ m' 0 2 = m 0 2) (hr : ∀ a j : Int, 1 ≤ a → a ≤ 9 → m' a j = m a j) (hC : wfCity m) : wfCity m' := by
  unfold wfCity at hC ⊢
  simp only [h0.1, h0.2.1, h0.2.2, fun j => hr 1 j (by omega) (by omega), fun j => hr 2 j (by omega) (by omega), fun j => hr 3 j (by omega) (by omega), fun j => hr 4 j (by omega) (by omega), fun j => hr 5 j (by omega) (by omega), fun j => hr 6 j (by omega) (by omega), fun j => hr 7 j (by omega) (by omega), fun j => hr 8 j (by omega) (by omega), fun j => hr 9 j (by omega) (by omega)]
  exact hC
theorem cityM_kq {σ σ' : aw_S} {m : mS} (h : ∀ (b : Nat) (j : Int), (178 ≤ b ∧ b ≤ 181) ∨ (b = 171 ∧ (j = 14 ∨ j = 16 ∨ j = 20)) → σ'.1 b j = σ.1 b j) (hM : cityM σ m) : cityM σ' m := by
  unfold cityM at hM ⊢
  simp only [fun j => h 178 j (by omega), fun j => h 179 j (by omega), fun j => h 180 j (by omega), fun j => h 181 j (by omega), h 171 14 (by omega), h 171 16 (by omega), h 171 20 (by omega)]
  exact hM
/-- another text -/
def mtx (m : mS) (T : txt) : mS := fun a j => if a = 12 then T.1 j else if a = 0 ∧ j = 7 then T.2 else m a j
theorem mtx_e {m : mS} {T : txt} {a j : Int} (h : a ≠ 12 ∧ ¬ (a = 0 ∧ j = 7)) : mtx m T a j = m a j := by unfold mtx; rw [if_neg h.1, if_neg h.2]
theorem tx_fin {σ σ1 σ2 : aw_S} {N : Int} {tw cs : Bool} {t a : Nat} {m : mS} {T : txt} (hR2 : σ2.2.2 = RF tw cs) (hrt : RF tw cs 0 1 = some t) (hra : RF tw cs 1 2 = some a) (kC : KC σ t m) (kM : KM σ m) (w : WF m N) (wT : wfTx T.1 T.2)
    (f1 : ∀ (b : Nat) (j : Int), ¬ (b = 1 ∧ j = 1) → b ≠ 2 → σ1.1 b j = σ.1 b j) (h1 : txC σ1 T.1 T.2) (f2 : ∀ (b : Nat) (j : Int), ¬ (b = 171 ∧ j = 1) → b ≠ 172 → σ2.1 b j = σ1.1 b j) (h2 : txM σ2 T.1 T.2) : INV σ2 (N + 1) := by
  have hct : isCity t := (tw_n hra hrt).1.2
  have h13 : t = 3 ∨ t = 13 := hct
  have me : ∀ a j : Int, (a ≠ 12 ∧ ¬ (a = 0 ∧ j = 7)) → mtx m T a j = m a j := fun a j q => mtx_e q
  have w2 : WF (mtx m T) (N + 1) := ⟨wfCity_mm ⟨(me 0 0 (by omega)), (me 0 1 (by omega)), (me 0 2 (by omega))⟩ (fun a j q1 q2 => me a j (by omega)) w.1, wfDay_mono (by omega) (wfDay_tr w.1.1.2 ⟨(me 0 0 (by omega)), fun r => ⟨(me 1 r (by omega)), (me 2 r (by omega)), (me 3 r (by omega))⟩⟩ ⟨(me 0 3 (by omega)), (me 0 4 (by omega)), (me 0 5 (by omega))⟩ (fun x j x1 x2 => me _ _ (by omega)) w.2.1), wfBook_kp w.2.2.1 (me 0 0 (by omega)) ⟨(me 0 6 (by omega)), fun a j q1 q2 => me a j (by omega)⟩, wfCh_kp w.2.2.2.1 (me 0 0 (by omega)) (fun a j q1 q2 => me a j (by omega)), (fun k k1 k2 z => wfDay_mono (by omega) (imW_kp w.1.1.2 w.2.2.2.2.1 ⟨(me 0 0 (by omega)), fun r => ⟨(me 1 r (by omega)), (me 2 r (by omega)), (me 3 r (by omega))⟩⟩ (fun a j q => me a j (by omega)) k k1 k2 z)), wT⟩
  have kC1 : KC σ1 t (mtx m T) := by
    have ce : ∀ (b : Nat) (j : Int), (¬ (b = 1 ∧ j = 1) ∧ b ≠ 2) → σ1.1 b j = σ.1 b j := fun b j q => f1 b j q.1 q.2
    obtain ⟨k1, k2, k3, ⟨k4, k5⟩, k6, k7⟩ := kC
    exact ⟨cityC_mm ⟨(me 0 0 (by omega)), (me 0 1 (by omega)), (me 0 2 (by omega))⟩ (fun a j q1 q2 => me a j (by omega)) (cityC_kp (fun b j q1 q2 => ce b j (by omega)) k1), dayC_tr w.2.1 (fun b j q1 q2 => ce b j (by omega)) ⟨(me 0 3 (by omega)), (me 0 4 (by omega)), (me 0 5 (by omega))⟩ (fun x j x1 x2 => me _ _ (by omega)) k2, bookC_kp w.2.2.1 (fun b j q => ce b j (by omega)) ⟨(me 0 6 (by omega)), fun a j q1 q2 => me a j (by omega)⟩ k3, ⟨chC_kp (fun b j q1 q2 => ce b j (by omega)) (fun a j q1 q2 => me a j (by omega)) k4, mmo_kp (fun b j q => ce b j (by omega)) ⟨(me 0 0 (by omega)), (me 0 2 (by omega))⟩ (funext fun j => (me 1 j (by omega))) (funext fun j => (me 8 j (by omega))) ⟨funext fun j => (me 13 j (by omega)), funext fun j => (me 14 j (by omega)), funext fun j => (me 15 j (by omega))⟩ k5⟩, imC_kp w.2.2.2.2.1 (fun b j q => ce b j (by omega)) (fun a j q => me a j (by omega)) k6, h1⟩
  have kM2 : KM σ2 (mtx m T) := by
    have ce : ∀ (b : Nat) (j : Int), (¬ (b = 171 ∧ j = 1) ∧ b ≠ 172) → σ2.1 b j = σ1.1 b j := fun b j q => f2 b j q.1 q.2
    have kM1 : KM σ1 m := KM_hi w (fun b j q => f1 b j (by omega) (by omega)) kM
    obtain ⟨k1, k2, k3, k4, k6, k7⟩ := kM1
    exact ⟨cityM_mm ⟨(me 0 0 (by omega)), (me 0 1 (by omega)), (me 0 2 (by omega))⟩ (fun a j q1 q2 => me a j (by omega)) (cityM_kq (fun b j q => ce b j (by omega)) k1), dayG_tr w.2.1 ⟨ce _ _ (by omega), ce _ _ (by omega), ce _ _ (by omega)⟩ (fun j _ _ => ce _ _ (by omega)) (fun j _ _ => ce _ _ (by omega)) (fun j _ _ => ce _ _ (by omega)) (fun j _ _ => ce _ _ (by omega)) (fun j _ _ => ce _ _ (by omega)) ⟨(me 0 3 (by omega)), (me 0 4 (by omega)), (me 0 5 (by omega))⟩ (fun x j x1 x2 => me _ _ (by omega)) k2, bookM_kp w.2.2.1 (fun b j q => ce b j (by omega)) ⟨(me 0 6 (by omega)), fun a j q1 q2 => me a j (by omega)⟩ k3, chM_kp (fun j => ce _ _ (by omega)) (fun a j q1 q2 => me a j (by omega)) k4, imM_kp w.2.2.2.2.1 (fun b j q1 q2 => ce b j (by omega)) (fun a j q => me a j (by omega)) k6, h2⟩
  exact INV_mk hR2 hrt hra (KC_lo hct w2 (fun b j q => f2 b j (by omega) (by omega)) kC1) kM2 w2
theorem op_feed {l : Launch} {σ : aw_S} {N : Int} (hI0 : INV σ N) (hN : 0 ≤ N ∧ N ≤ 999) {a b c d e : Int} (hr : (-2147483648 ≤ a ∧ a ≤ 2147483647) ∧ (-2147483648 ≤ b ∧ b ≤ 2147483647) ∧ (-2147483648 ≤ c ∧ c ≤ 2147483647) ∧ (-2147483648 ≤ d ∧ d ≤ 2147483647) ∧ (-2147483648 ≤ e ∧ e ≤ 2147483647)) : AE l yX9_feed cX9_feed 6 (some .int) 1 22 0 0 SH SH σ [.ref 0, .int (jI a), .int (jI b), .int (jI c), .int (jI d), .int (jI e)] (fun v1 σ1 => ∃ vv : Int, v1 = some (.int (jI vv)) ∧ AE l yX10_feed cX10_feed 8 (some .int) 0 0 0 0 SH SH σ1 [.ref 171, .int (jI a), .int (jI b), .int (jI c), .int (jI d), .int (jI e)] (fun v2 σ2 => v2 = some (.int (jI vv)) ∧ INV σ2 (N + 1))) := by
  obtain ⟨tw, cs, t, ad, m, ⟨hR, hrt, hra⟩, kC, kM, w⟩ := hI0
  have hct : isCity t := (tw_n hra hrt).1.2
  have hca : isCity ad := (tw_n hra hrt).1.1
  have hR1 := hR
  have hcn := RF_ne hra hrt
  have kC' := kC
  have kM' := kM
  have w' := w
  obtain ⟨c1, c2, c3, ⟨c4, c5⟩, c6, c7⟩ := kC
  obtain ⟨m1, m2, m3, m4, m6, m7⟩ := kM
  obtain ⟨w1, w2, w3, w4, w5, w6⟩ := w
  have tw0 := w6.1
  refine c_X9_feed (hR := hR) (hr := hr) (T := (m 12, m 0 7)) (hT := c7) (wT := w6) (h1 := ?_) (h0 := ?_)
  · intro hv σ1 f1 h1
    have hR1 : σ1.2.2 = RF tw cs := (congrArg Prod.snd f1.2).trans hR
    have kM1 := KM_hi w' (fun b j q => f1.1 b j (by omega) (by omega)) kM'
    obtain ⟨m1, m2, m3, m4, m6, m7⟩ := kM1
    refine ⟨_, rfl, c_X10_feed (hR := hR1) (hr := hr) (T := (m 12, m 0 7)) (hT := m7) (wT := w6) (h1 := ?_) (h0 := ?_)⟩
    · intro _ σ2 f2 h2
      exact ⟨rfl, tx_fin ((congrArg Prod.snd f2.2).trans hR1) hrt hra kC' kM' w' (tfd_w (T := (m 12, m 0 7)) w6 20 (by have hv3 : m 0 7 ≤ 480 := hv; show m 0 7 + ((20 : Nat) : Int) ≤ 500; omega)) (fun b j q1 q2 => f1.1 b j q1 q2) h1 (fun b j q1 q2 => f2.1 b j q1 q2) h2⟩
    · intro q; exact absurd hv q
  · intro hv
    refine ⟨_, rfl, c_X10_feed (hR := hR1) (hr := hr) (T := (m 12, m 0 7)) (hT := m7) (wT := w6) (h1 := ?_) (h0 := ?_)⟩
    · intro q; exact absurd q hv
    · intro _; exact ⟨rfl, INV_mk hR hrt hra kC' kM' (WF_mono (Int.le_add_of_nonneg_right (by decide)) w')⟩
theorem op_end {l : Launch} {σ : aw_S} {N : Int} (hI0 : INV σ N) (hN : 0 ≤ N ∧ N ≤ 999) {n1 : Int} (hr : (-2147483648 ≤ n1 ∧ n1 ≤ 2147483647)) : AE l yX9_end cX9_end 2 (some .boolean) 1 22 0 0 SH SH σ [.ref 0, .int (jI n1)] (fun v1 σ1 => ∃ vv : Int, v1 = some (.int (jI vv)) ∧ AE l yX10_end cX10_end 2 (some .boolean) 1 22 0 0 SH SH σ1 [.ref 171, .int (jI n1)] (fun v2 σ2 => v2 = some (.int (jI vv)) ∧ INV σ2 (N + 1))) := by
  obtain ⟨tw, cs, t, ad, m, ⟨hR, hrt, hra⟩, kC, kM, w⟩ := hI0
  have hct : isCity t := (tw_n hra hrt).1.2
  have hca : isCity ad := (tw_n hra hrt).1.1
  have hR1 := hR
  have hcn := RF_ne hra hrt
  have kC' := kC
  have kM' := kM
  have w' := w
  obtain ⟨c1, c2, c3, ⟨c4, c5⟩, c6, c7⟩ := kC
  obtain ⟨m1, m2, m3, m4, m6, m7⟩ := kM
  obtain ⟨w1, w2, w3, w4, w5, w6⟩ := w
  refine c_X9_end (hR := hR) (ht := c7.1) (ht2 := w6.1) (hr := hr) (h1 := ?_) (h0 := ?_)
  · intro hv
    have f1 : ∀ (b : Nat) (j : Int), ¬ (b = 1 ∧ j = 1) → (aw_si σ 1 1 n1).1 b j = σ.1 b j := fun b j q => by by_cases e : b = 1; exact e ▸ rd_si_ni (fun z => q ⟨e, z⟩); exact rd_si_ne e
    have kM1 := KM_hi w' (σ' := aw_si σ 1 1 n1) (fun b j q => f1 b j (by omega)) kM'
    obtain ⟨m1, m2, m3, m4, m6, m7⟩ := kM1
    refine ⟨_, rfl, c_X10_end (hR := show (aw_si σ 1 1 n1).2.2 = RF tw cs from hR1) (ht := m7.1) (ht2 := w6.1) (hr := hr) (h1 := ?_) (h0 := ?_)⟩
    · intro _
      have f2 : ∀ (b : Nat) (j : Int), ¬ (b = 171 ∧ j = 1) → (aw_si (aw_si σ 1 1 n1) 171 1 n1).1 b j = (aw_si σ 1 1 n1).1 b j := fun b j q => by by_cases e : b = 171; exact e ▸ rd_si_ni (fun z => q ⟨e, z⟩); exact rd_si_ne e
      exact ⟨rfl, tx_fin (T := (m 12, n1)) hR1 hrt hra kC' kM' w' ⟨⟨hv.1, Int.le_trans hv.2 w6.1.2⟩, fun i i1 i2 => w6.2 i i1 (Int.lt_of_lt_of_le i2 hv.2)⟩ (fun b j q1 q2 => f1 b j q1) ⟨rd_si_eq, fun i i1 i2 => (f1 2 i (by omega)).trans (c7.2 i i1 (Int.lt_of_lt_of_le i2 hv.2))⟩ (fun b j q1 q2 => f2 b j q1) ⟨rd_si_eq, fun i i1 i2 => (f2 172 i (by omega)).trans (m7.2 i i1 (Int.lt_of_lt_of_le i2 hv.2))⟩⟩
    · intro q; exact absurd hv q
  · intro hv
    refine ⟨_, rfl, c_X10_end (hR := hR1) (ht := m7.1) (ht2 := w6.1) (hr := hr) (h1 := ?_) (h0 := ?_)⟩
    · intro q; exact absurd q hv
    · intro _; exact ⟨rfl, INV_mk hR hrt hra kC' kM' (WF_mono (Int.le_add_of_nonneg_right (by decide)) w')⟩
/-- another chance -/
def mch (m : mS) (r q mi to : Int) : mS := fun a j => if a = 13 ∧ j = r then q else if a = 14 ∧ j = r then mi else if a = 15 ∧ j = r then to else m a j
theorem mch_e {m : mS} {r q mi to a j : Int} (h : ¬ ((13 ≤ a ∧ a ≤ 15) ∧ j = r)) : mch m r q mi to a j = m a j := by unfold mch; rw [if_neg (by omega), if_neg (by omega), if_neg (by omega)]
theorem mch_13 {m : mS} {r q mi to : Int} : mch m r q mi to 13 r = q := if_pos ⟨rfl, rfl⟩
theorem mch_14 {m : mS} {r q mi to : Int} : mch m r q mi to 14 r = mi := by unfold mch; rw [if_neg (by omega), if_pos ⟨rfl, rfl⟩]
theorem mch_15 {m : mS} {r q mi to : Int} : mch m r q mi to 15 r = to := by unfold mch; rw [if_neg (by omega), if_neg (by omega), if_pos ⟨rfl, rfl⟩]
theorem ch_fin {σ σ1 σ2 : aw_S} {N : Int} {tw cs : Bool} {t a : Nat} {m : mS} {r q mi to : Int} (hR2 : σ2.2.2 = RF tw cs) (hrt : RF tw cs 0 1 = some t) (hra : RF tw cs 1 2 = some a) (kC : KC σ t m) (kM : KM σ m) (w : WF m N) (hv : vchance m r q mi to)
    (f1 : ∀ (b : Nat) (j : Int), ¬ ((52 ≤ b ∧ b ≤ 54) ∧ j = r) → ¬ (b = 51 ∧ j = 5) → σ1.1 b j = σ.1 b j) (h1 : σ1.1 52 r = q ∧ σ1.1 53 r = mi ∧ σ1.1 54 r = to ∧ σ1.1 51 5 = 0) (f2 : ∀ (b : Nat) (j : Int), ¬ (b = 187 ∧ 3 * r ≤ j ∧ j ≤ 3 * r + 2) → σ2.1 b j = σ1.1 b j) (h2 : σ2.1 187 (3 * r) = q ∧ σ2.1 187 (3 * r + 1) = mi ∧ σ2.1 187 (3 * r + 2) = to) : INV σ2 (N + 1) := by
  have hct : isCity t := (tw_n hra hrt).1.2
  have h13 : t = 3 ∨ t = 13 := hct
  have me : ∀ a j : Int, ¬ (13 ≤ a ∧ a ≤ 15) → mch m r q mi to a j = m a j := fun a j z => mch_e (by omega)
  have w2 : WF (mch m r q mi to) (N + 1) := ⟨wfCity_mm ⟨(me 0 0 (by omega)), (me 0 1 (by omega)), (me 0 2 (by omega))⟩ (fun a j q1 q2 => me a j (by omega)) w.1, wfDay_mono (by omega) (wfDay_tr w.1.1.2 ⟨(me 0 0 (by omega)), fun r => ⟨(me 1 r (by omega)), (me 2 r (by omega)), (me 3 r (by omega))⟩⟩ ⟨(me 0 3 (by omega)), (me 0 4 (by omega)), (me 0 5 (by omega))⟩ (fun x j x1 x2 => me _ _ (by omega)) w.2.1), wfBook_kp w.2.2.1 (me 0 0 (by omega)) ⟨(me 0 6 (by omega)), fun a j q1 q2 => me a j (by omega)⟩, (fun s s1 s2 => by
    unfold vchance at hv
    rw [me 0 0 (by omega)]
    by_cases e : s = r
    · subst e
      rw [mch_13, mch_14, mch_15]
      omega
    · rw [mch_e (by omega), mch_e (by omega), mch_e (by omega)]
      exact w.2.2.2.1 s s1 s2), (fun k k1 k2 z => wfDay_mono (by omega) (imW_kp w.1.1.2 w.2.2.2.2.1 ⟨(me 0 0 (by omega)), fun r => ⟨(me 1 r (by omega)), (me 2 r (by omega)), (me 3 r (by omega))⟩⟩ (fun a j q => me a j (by omega)) k k1 k2 z)), (by rw [(me 0 7 (by omega)), show _ = m 12 from funext fun j => (me 12 j (by omega))]; exact w.2.2.2.2.2)⟩
  have kC1 : KC σ1 t (mch m r q mi to) := by
    have ce : ∀ (b : Nat) (j : Int), ¬ (51 ≤ b ∧ b ≤ 54) → σ1.1 b j = σ.1 b j := fun b j z => f1 b j (by omega) (by omega)
    obtain ⟨k1, k2, k3, ⟨k4, k5⟩, k6, k7⟩ := kC
    exact ⟨cityC_mm ⟨(me 0 0 (by omega)), (me 0 1 (by omega)), (me 0 2 (by omega))⟩ (fun a j q1 q2 => me a j (by omega)) (cityC_kp (fun b j q1 q2 => ce b j (by omega)) k1), dayC_tr w.2.1 (fun b j q1 q2 => ce b j (by omega)) ⟨(me 0 3 (by omega)), (me 0 4 (by omega)), (me 0 5 (by omega))⟩ (fun x j x1 x2 => me _ _ (by omega)) k2, bookC_kp w.2.2.1 (fun b j q => ce b j (by omega)) ⟨(me 0 6 (by omega)), fun a j q1 q2 => me a j (by omega)⟩ k3, ⟨(fun s s1 s2 => by
      by_cases e : s = r
      · subst e
        rw [mch_13, mch_14, mch_15]
        exact ⟨h1.1, fun _ => ⟨h1.2.1, h1.2.2.1⟩⟩
      · rw [mch_e (by omega), mch_e (by omega), mch_e (by omega), f1 52 s (by omega) (by omega), f1 53 s (by omega) (by omega), f1 54 s (by omega) (by omega)]
        exact k4 s s1 s2), ⟨aw_mb ⟨0, by omega, h1.2.2.2, fun k s n z _ _ _ _ => absurd z (Nat.not_lt_zero k)⟩, (by
      have e55 : σ1.1 55 = σ.1 55 := funext (fun j => ce 55 j (by omega))
      intro s s1 s2
      rw [e55]
      exact k5.2 s s1 s2)⟩⟩, imC_kp w.2.2.2.2.1 (fun b j q => ce b j (by omega)) (fun a j q => me a j (by omega)) k6, ⟨(ce 1 1 (by omega)).trans (k7.1.trans (me 0 7 (by omega)).symm), fun i i1 i2 => (ce 2 i (by omega)).trans ((k7.2 i i1 (by rw [(me 0 7 (by omega))] at i2; exact i2)).trans (me 12 i (by omega)).symm)⟩⟩
  have kM2 : KM σ2 (mch m r q mi to) := by
    have ce : ∀ (b : Nat) (j : Int), b ≠ 187 → σ2.1 b j = σ1.1 b j := fun b j z => f2 b j (by omega)
    have kM1 : KM σ1 m := KM_hi w (fun b j q => f1 b j (by omega) (by omega)) kM
    obtain ⟨k1, k2, k3, k4, k6, k7⟩ := kM1
    exact ⟨cityM_mm ⟨(me 0 0 (by omega)), (me 0 1 (by omega)), (me 0 2 (by omega))⟩ (fun a j q1 q2 => me a j (by omega)) (cityM_kq (fun b j q => ce b j (by omega)) k1), dayG_tr w.2.1 ⟨ce _ _ (by omega), ce _ _ (by omega), ce _ _ (by omega)⟩ (fun j _ _ => ce _ _ (by omega)) (fun j _ _ => ce _ _ (by omega)) (fun j _ _ => ce _ _ (by omega)) (fun j _ _ => ce _ _ (by omega)) (fun j _ _ => ce _ _ (by omega)) ⟨(me 0 3 (by omega)), (me 0 4 (by omega)), (me 0 5 (by omega))⟩ (fun x j x1 x2 => me _ _ (by omega)) k2, bookM_kp w.2.2.1 (fun b j q => ce b j (by omega)) ⟨(me 0 6 (by omega)), fun a j q1 q2 => me a j (by omega)⟩ k3, (fun s s1 s2 => by
      by_cases e : s = r
      · subst e
        rw [mch_13, mch_14, mch_15]
        exact h2
      · rw [mch_e (by omega), mch_e (by omega), mch_e (by omega), f2 187 _ (by omega), f2 187 _ (by omega), f2 187 _ (by omega)]
        exact k4 s s1 s2), imM_kp w.2.2.2.2.1 (fun b j q1 q2 => ce b j (by omega)) (fun a j q => me a j (by omega)) k6, ⟨(ce 171 1 (by omega)).trans (k7.1.trans (me 0 7 (by omega)).symm), fun i i1 i2 => (ce 172 i (by omega)).trans ((k7.2 i i1 (by rw [(me 0 7 (by omega))] at i2; exact i2)).trans (me 12 i (by omega)).symm)⟩⟩
  exact INV_mk hR2 hrt hra (KC_lo hct w2 (fun b j z => f2 b j (by omega)) kC1) kM2 w2
theorem si_o {σ : aw_S} {a b : Nat} {i j v : Int} (h : ¬ (b = a ∧ j = i)) : (aw_si σ a i v).1 b j = σ.1 b j := by
  by_cases e : b = a
  · subst e; exact rd_si_ni (fun z => h ⟨rfl, z⟩)
  · exact rd_si_ne e
theorem op_chance {l : Launch} {σ : aw_S} {N : Int} (hI0 : INV σ N) (hN : 0 ≤ N ∧ N ≤ 999) {r q mi to : Int} (hr : (-2147483648 ≤ r ∧ r ≤ 2147483647) ∧ (-2147483648 ≤ q ∧ q ≤ 2147483647) ∧ (-2147483648 ≤ mi ∧ mi ≤ 2147483647) ∧ (-2147483648 ≤ to ∧ to ≤ 2147483647)) : AE l yX9_chance cX9_chance 5 (some .boolean) 2 43 0 0 SH SH σ [.ref 0, .int (jI r), .int (jI q), .int (jI mi), .int (jI to)] (fun v1 σ1 => ∃ vv : Int, v1 = some (.int (jI vv)) ∧ AE l yX10_chance cX10_chance 5 (some .boolean) 2 43 0 0 SH SH σ1 [.ref 171, .int (jI r), .int (jI q), .int (jI mi), .int (jI to)] (fun v2 σ2 => v2 = some (.int (jI vv)) ∧ INV σ2 (N + 1))) := by
  obtain ⟨tw, cs, t, ad, m, ⟨hR, hrt, hra⟩, kC, kM, w⟩ := hI0
  have hct : isCity t := (tw_n hra hrt).1.2
  have hca : isCity ad := (tw_n hra hrt).1.1
  have hR1 := hR
  have hcn := RF_ne hra hrt
  have kC' := kC
  have kM' := kM
  have w' := w
  obtain ⟨c1, c2, c3, ⟨c4, c5⟩, c6, c7⟩ := kC
  obtain ⟨m1, m2, m3, m4, m6, m7⟩ := kM
  obtain ⟨w1, w2, w3, w4, w5, w6⟩ := w
  refine c_X9_chance (hR := hR) (hct := hct) (hrt := hrt) (hC := c1) (wC := w1) (hr := hr) (h1 := ?_) (h0 := ?_)
  · intro hv
    have f1 : ∀ (b : Nat) (j : Int), ¬ ((52 ≤ b ∧ b ≤ 54) ∧ j = r) → ¬ (b = 51 ∧ j = 5) → (aw_si (aw_si (aw_si (aw_si σ 52 r q) 53 r mi) 54 r to) 51 5 0).1 b j = σ.1 b j := fun b j q1 q2 => by rw [si_o (by omega), si_o (by omega), si_o (by omega), si_o (by omega)]
    have h1 : (aw_si (aw_si (aw_si (aw_si σ 52 r q) 53 r mi) 54 r to) 51 5 0).1 52 r = q ∧ (aw_si (aw_si (aw_si (aw_si σ 52 r q) 53 r mi) 54 r to) 51 5 0).1 53 r = mi ∧ (aw_si (aw_si (aw_si (aw_si σ 52 r q) 53 r mi) 54 r to) 51 5 0).1 54 r = to ∧ (aw_si (aw_si (aw_si (aw_si σ 52 r q) 53 r mi) 54 r to) 51 5 0).1 51 5 = 0 := ⟨by rw [si_o (by omega), si_o (by omega), si_o (by omega)]; exact rd_si_eq, by rw [si_o (by omega), si_o (by omega)]; exact rd_si_eq, by rw [si_o (by omega)]; exact rd_si_eq, rd_si_eq⟩
    have hR1 : (aw_si (aw_si (aw_si (aw_si σ 52 r q) 53 r mi) 54 r to) 51 5 0).2.2 = RF tw cs := hR
    revert f1 h1 hR1
    generalize (aw_si (aw_si (aw_si (aw_si σ 52 r q) 53 r mi) 54 r to) 51 5 0) = σ1
    intro f1 h1 hR1
    have kM1 := KM_hi w' (σ' := σ1) (fun b j q => f1 b j (by omega) (by omega)) kM'
    obtain ⟨m1, m2, m3, m4, m6, m7⟩ := kM1
    refine ⟨_, rfl, c_X10_chance (hR := hR1) (hM := m1) (wC := w1) (hr := hr) (h1 := ?_) (h0 := ?_)⟩
    · intro _
      exact ⟨rfl, ch_fin (σ1 := σ1) hR1 hrt hra kC' kM' w' hv f1 h1 (fun b j q1 => by rw [si_o (by omega), si_o (by omega), si_o (by omega)]) ⟨by rw [si_o (by omega), si_o (by omega)]; exact rd_si_eq, by rw [si_o (by omega)]; exact rd_si_eq, rd_si_eq⟩⟩
    · intro q; exact absurd hv q
  · intro hv
    refine ⟨_, rfl, c_X10_chance (hR := hR1) (hM := m1) (wC := w1) (hr := hr) (h1 := ?_) (h0 := ?_)⟩
    · intro q; exact absurd q hv
    · intro _; exact ⟨rfl, INV_mk hR hrt hra kC' kM' (WF_mono (Int.le_add_of_nonneg_right (by decide)) w')⟩
theorem bk_fin {σ σ1 σ2 : aw_S} {N : Int} {tw cs : Bool} {t a : Nat} {m m' : mS} (hR2 : σ2.2.2 = RF tw cs) (hrt : RF tw cs 0 1 = some t) (hra : RF tw cs 1 2 = some a) (kC : KC σ t m) (kM : KM σ m) (w : WF m N)
    (me : ∀ a j : Int, ¬ (400 ≤ a ∧ a < 412) ∧ ¬ (a = 0 ∧ j = 6) → m' a j = m a j) (wB : wfBook m') (f1 : frB σ σ1) (h1 : bookC σ1 m') (f2 : frBM σ1 σ2) (h2 : bookM σ2 m') : INV σ2 (N + 1) := by
  have hct : isCity t := (tw_n hra hrt).1.2
  have h13 : t = 3 ∨ t = 13 := hct
  have w2 : WF m' (N + 1) := ⟨wfCity_mm ⟨(me 0 0 (by omega)), (me 0 1 (by omega)), (me 0 2 (by omega))⟩ (fun a j q1 q2 => me a j (by omega)) w.1, wfDay_mono (by omega) (wfDay_tr w.1.1.2 ⟨(me 0 0 (by omega)), fun r => ⟨(me 1 r (by omega)), (me 2 r (by omega)), (me 3 r (by omega))⟩⟩ ⟨(me 0 3 (by omega)), (me 0 4 (by omega)), (me 0 5 (by omega))⟩ (fun x j x1 x2 => me _ _ (by omega)) w.2.1), wB, wfCh_kp w.2.2.2.1 (me 0 0 (by omega)) (fun a j q1 q2 => me a j (by omega)), (fun k k1 k2 z => wfDay_mono (by omega) (imW_kp w.1.1.2 w.2.2.2.2.1 ⟨(me 0 0 (by omega)), fun r => ⟨(me 1 r (by omega)), (me 2 r (by omega)), (me 3 r (by omega))⟩⟩ (fun a j q => me a j (by omega)) k k1 k2 z)), (by rw [(me 0 7 (by omega)), show _ = m 12 from funext fun j => (me 12 j (by omega))]; exact w.2.2.2.2.2)⟩
  have kC1 : KC σ1 t m' := by
    have ce : ∀ (b : Nat) (j : Int), ¬ (64 ≤ b ∧ b ≤ 83) → σ1.1 b j = σ.1 b j := f1.1
    obtain ⟨k1, k2, k3, ⟨k4, k5⟩, k6, k7⟩ := kC
    exact ⟨cityC_mm ⟨(me 0 0 (by omega)), (me 0 1 (by omega)), (me 0 2 (by omega))⟩ (fun a j q1 q2 => me a j (by omega)) (cityC_kp (fun b j q1 q2 => ce b j (by omega)) k1), dayC_tr w.2.1 (fun b j q1 q2 => ce b j (by omega)) ⟨(me 0 3 (by omega)), (me 0 4 (by omega)), (me 0 5 (by omega))⟩ (fun x j x1 x2 => me _ _ (by omega)) k2, h1, ⟨chC_kp (fun b j q1 q2 => ce b j (by omega)) (fun a j q1 q2 => me a j (by omega)) k4, mmo_kp (fun b j q => ce b j (by omega)) ⟨(me 0 0 (by omega)), (me 0 2 (by omega))⟩ (funext fun j => (me 1 j (by omega))) (funext fun j => (me 8 j (by omega))) ⟨funext fun j => (me 13 j (by omega)), funext fun j => (me 14 j (by omega)), funext fun j => (me 15 j (by omega))⟩ k5⟩, imC_kp w.2.2.2.2.1 (fun b j q => ce b j (by omega)) (fun a j q => me a j (by omega)) k6, ⟨(ce 1 1 (by omega)).trans (k7.1.trans (me 0 7 (by omega)).symm), fun i i1 i2 => (ce 2 i (by omega)).trans ((k7.2 i i1 (by rw [(me 0 7 (by omega))] at i2; exact i2)).trans (me 12 i (by omega)).symm)⟩⟩
  have kM2 : KM σ2 m' := by
    have ce : ∀ (b : Nat) (j : Int), ¬ (188 ≤ b ∧ b ≤ 191) ∧ ¬ (b = 171 ∧ j = 30) → σ2.1 b j = σ1.1 b j := fun b j z => f2.1 b j z.1 z.2
    have kM1 : KM σ1 m := KM_hi w (fun b j q => f1.1 b j (by omega)) kM
    obtain ⟨k1, k2, k3, k4, k6, k7⟩ := kM1
    exact ⟨cityM_mm ⟨(me 0 0 (by omega)), (me 0 1 (by omega)), (me 0 2 (by omega))⟩ (fun a j q1 q2 => me a j (by omega)) (cityM_kq (fun b j q => ce b j (by omega)) k1), dayG_tr w.2.1 ⟨ce _ _ (by omega), ce _ _ (by omega), ce _ _ (by omega)⟩ (fun j _ _ => ce _ _ (by omega)) (fun j _ _ => ce _ _ (by omega)) (fun j _ _ => ce _ _ (by omega)) (fun j _ _ => ce _ _ (by omega)) (fun j _ _ => ce _ _ (by omega)) ⟨(me 0 3 (by omega)), (me 0 4 (by omega)), (me 0 5 (by omega))⟩ (fun x j x1 x2 => me _ _ (by omega)) k2, h2, chM_kp (fun j => ce _ _ (by omega)) (fun a j q1 q2 => me a j (by omega)) k4, imM_kp w.2.2.2.2.1 (fun b j q1 q2 => ce b j (by omega)) (fun a j q => me a j (by omega)) k6, ⟨(ce 171 1 (by omega)).trans (k7.1.trans (me 0 7 (by omega)).symm), fun i i1 i2 => (ce 172 i (by omega)).trans ((k7.2 i i1 (by rw [(me 0 7 (by omega))] at i2; exact i2)).trans (me 12 i (by omega)).symm)⟩⟩
  exact INV_mk hR2 hrt hra (KC_lo hct w2 (fun b j z => f2.1 b j (by omega) (by omega)) kC1) kM2 w2
theorem op_reading {l : Launch} {σ : aw_S} {N : Int} (hI0 : INV σ N) (hN : 0 ≤ N ∧ N ≤ 999) {r mi x : Int} (hr : (-2147483648 ≤ r ∧ r ≤ 2147483647) ∧ (-2147483648 ≤ mi ∧ mi ≤ 2147483647) ∧ (-2147483648 ≤ x ∧ x ≤ 2147483647)) : AE l yX9_reading cX9_reading 4 (some .int) 3 74 0 0 SH SH σ [.ref 0, .int (jI r), .int (jI mi), .int (jI x)] (fun v1 σ1 => ∃ vv : Int, v1 = some (.int (jI vv)) ∧ AE l yX10_reading cX10_reading 9 (some .int) 2 43 0 0 SH SH σ1 [.ref 171, .int (jI r), .int (jI mi), .int (jI x)] (fun v2 σ2 => v2 = some (.int (jI vv)) ∧ INV σ2 (N + 1))) := by
  obtain ⟨tw, cs, t, ad, m, ⟨hR, hrt, hra⟩, kC, kM, w⟩ := hI0
  have hct : isCity t := (tw_n hra hrt).1.2
  have hca : isCity ad := (tw_n hra hrt).1.1
  have hR1 := hR
  have hcn := RF_ne hra hrt
  have kC' := kC
  have kM' := kM
  have w' := w
  obtain ⟨c1, c2, c3, ⟨c4, c5⟩, c6, c7⟩ := kC
  obtain ⟨m1, m2, m3, m4, m6, m7⟩ := kM
  obtain ⟨w1, w2, w3, w4, w5, w6⟩ := w
  refine c_X9_reading (hR := hR) (hct := hct) (hrt := hrt) (hC := c1) (wC := w1) (hD := c2) (wD := w2) (hN := ⟨hN.1, Int.le_trans hN.2 (by decide)⟩) (hB := c3) (wB := w3) (hr := hr) (h1 := ?_) (h0 := ?_)
  · intro hv σ1 h1 f1
    have hR1 : σ1.2.2 = RF tw cs := (congrArg Prod.snd f1.2).trans hR
    have kM1 := KM_hi w' (fun b j q => f1.1 b j (by omega)) kM'
    obtain ⟨m1, m2, m3, m4, m6, m7⟩ := kM1
    refine ⟨_, rfl, c_X10_reading (hR := hR1) (hM := m1) (wC := w1) (hM2 := m2) (wD := w2) (hN := ⟨hN.1, Int.le_trans hN.2 (by decide)⟩) (hB := m3) (wB := w3) (hr := hr) (h1 := ?_) (h0 := ?_)⟩
    · intro _ σ2 h2 f2
      have q := hv
      unfold vread at q
      have w3a := w3.1
      exact ⟨rfl, bk_fin ((congrArg Prod.snd f2.2).trans hR1) hrt hra kC' kM' w' (fun a j z => mread_e (by omega) (by omega)) (wfBook_read w3 w2 hv (by omega)) f1 h1 f2 h2⟩
    · intro q; exact absurd hv q
  · intro hv σ1 h1 f1
    have hR1 : σ1.2.2 = RF tw cs := (congrArg Prod.snd f1.2).trans hR
    have kM1 := KM_hi w' (fun b j q => f1.1 b j (by omega)) kM'
    obtain ⟨m1, m2, m3, m4, m6, m7⟩ := kM1
    refine ⟨_, rfl, c_X10_reading (hR := hR1) (hM := m1) (wC := w1) (hM2 := m2) (wD := w2) (hN := ⟨hN.1, Int.le_trans hN.2 (by decide)⟩) (hB := m3) (wB := w3) (hr := hr) (h1 := ?_) (h0 := ?_)⟩
    · intro q; exact absurd q hv
    · intro _ σ2 h2 f2
      exact ⟨rfl, bk_fin ((congrArg Prod.snd f2.2).trans hR1) hrt hra kC' kM' w' (fun _ _ _ => rfl) w3 f1 h1 f2 h2⟩
/-- the day kept as the image k -/
def mim (m : mS) (k : Int) : mS := fun a j => if a = 16 ∧ j = k then 1 else if 1000 * (k + 1) ≤ a ∧ a < 1000 * (k + 2) then m (a - 1000 * (k + 1)) j else m a j
theorem mim_e {m : mS} {k a j : Int} (h : ¬ (a = 16 ∧ j = k) ∧ ¬ (1000 * (k + 1) ≤ a ∧ a < 1000 * (k + 2))) : mim m k a j = m a j := by unfold mim; rw [if_neg h.1, if_neg h.2]
theorem mim_k {m : mS} {k : Int} : mim m k 16 k = 1 := if_pos ⟨rfl, rfl⟩
theorem mim_r {m : mS} {k x j : Int} (hk : 0 ≤ k) (hx : 0 ≤ x ∧ x < 1000) : mim m k (1000 * (k + 1) + x) j = m (0 + x) j := by
  unfold mim
  rw [if_neg (by omega), if_pos (by omega)]
  congr 1
  omega
theorem mim_b {m : mS} {k j : Int} (hk : 0 ≤ k) : mim m k (1000 * (k + 1)) j = m 0 j := by
  have h := mim_r (m := m) (k := k) (x := 0) (j := j) hk (by omega)
  rw [Int.add_zero] at h
  exact h
theorem im_fin {σ σ1 σ2 : aw_S} {N : Int} {tw cs : Bool} {t a : Nat} {m : mS} {k : Int} (hR2 : σ2.2.2 = RF tw cs) (hrt : RF tw cs 0 1 = some t) (hra : RF tw cs 1 2 = some a) (kC : KC σ t m) (kM : KM σ m) (w : WF m N) (hk : 0 ≤ k ∧ k ≤ 2)
    (f1 : ∀ (b : Nat) (j : Int), ¬ (imd k ≤ b ∧ b < imd k + 28) → ¬ (b = 50 ∧ j = k) → σ1.1 b j = σ.1 b j) (d1 : dayC σ1 (imd k) 0 m) (h1 : σ1.1 50 k = 1) (f2 : frMi k σ1 σ2) (d2 : dayMi σ2 k 0 m) (h2 : σ2.1 192 k = 1) : INV σ2 (N + 1) := by
  have hct : isCity t := (tw_n hra hrt).1.2
  have h13 : t = 3 ∨ t = 13 := hct
  have hid : imd k = 87 + 28 * k.toNat := rfl
  have me : ∀ a j : Int, (a < 1000 ∧ a ≠ 16) → mim m k a j = m a j := fun a j z => mim_e (by omega)
  have mo : ∀ s x j : Int, 0 ≤ s → s ≤ 2 → s ≠ k → 0 ≤ x → x < 1000 → mim m k (1000 * (s + 1) + x) j = m (1000 * (s + 1) + x) j := fun s x j s1 s2 s3 x1 x2 => mim_e (by omega)
  have mo0 : ∀ s j : Int, 0 ≤ s → s ≤ 2 → s ≠ k → mim m k (1000 * (s + 1)) j = m (1000 * (s + 1)) j := fun s j s1 s2 s3 => mim_e (by omega)
  have w2 : WF (mim m k) (N + 1) := ⟨wfCity_mm ⟨(me 0 0 (by omega)), (me 0 1 (by omega)), (me 0 2 (by omega))⟩ (fun a j q1 q2 => me a j (by omega)) w.1, wfDay_mono (by omega) (wfDay_tr w.1.1.2 ⟨(me 0 0 (by omega)), fun r => ⟨(me 1 r (by omega)), (me 2 r (by omega)), (me 3 r (by omega))⟩⟩ ⟨(me 0 3 (by omega)), (me 0 4 (by omega)), (me 0 5 (by omega))⟩ (fun x j x1 x2 => me _ _ (by omega)) w.2.1), wfBook_kp w.2.2.1 (me 0 0 (by omega)) ⟨(me 0 6 (by omega)), fun a j q1 q2 => me a j (by omega)⟩, wfCh_kp w.2.2.2.1 (me 0 0 (by omega)) (fun a j q1 q2 => me a j (by omega)), (fun s s1 s2 z => by
    refine wfDay_mono (show N ≤ N + 1 by omega) ?_
    by_cases e : s = k
    · subst e
      exact wfDay_tr w.1.1.2 ⟨me 0 0 (by omega), fun r => ⟨me 1 r (by omega), me 2 r (by omega), me 3 r (by omega)⟩⟩ ⟨mim_b s1, mim_b s1, mim_b s1⟩ (fun x j x1 x2 => mim_r s1 (by omega)) w.2.1
    · rw [mim_e (by omega)] at z
      exact wfDay_tr w.1.1.2 ⟨me 0 0 (by omega), fun r => ⟨me 1 r (by omega), me 2 r (by omega), me 3 r (by omega)⟩⟩ ⟨mo0 s 3 s1 s2 e, mo0 s 4 s1 s2 e, mo0 s 5 s1 s2 e⟩ (fun x j x1 x2 => mo s x j s1 s2 e (by omega) (by omega)) (w.2.2.2.2.1 s s1 s2 z)), (by rw [(me 0 7 (by omega)), show _ = m 12 from funext fun j => (me 12 j (by omega))]; exact w.2.2.2.2.2)⟩
  have kC1 : KC σ1 t (mim m k) := by
    have ce : ∀ (b : Nat) (j : Int), b ≤ 86 ∧ b ≠ 50 → σ1.1 b j = σ.1 b j := fun b j z => f1 b j (by omega) (by omega)
    obtain ⟨k1, k2, k3, ⟨k4, k5⟩, k6, k7⟩ := kC
    exact ⟨cityC_mm ⟨(me 0 0 (by omega)), (me 0 1 (by omega)), (me 0 2 (by omega))⟩ (fun a j q1 q2 => me a j (by omega)) (cityC_kp (fun b j q1 q2 => ce b j (by omega)) k1), dayC_tr w.2.1 (fun b j q1 q2 => ce b j (by omega)) ⟨(me 0 3 (by omega)), (me 0 4 (by omega)), (me 0 5 (by omega))⟩ (fun x j x1 x2 => me _ _ (by omega)) k2, bookC_kp w.2.2.1 (fun b j q => ce b j (by omega)) ⟨(me 0 6 (by omega)), fun a j q1 q2 => me a j (by omega)⟩ k3, ⟨chC_kp (fun b j q1 q2 => ce b j (by omega)) (fun a j q1 q2 => me a j (by omega)) k4, mmo_kp (fun b j q => ce b j (by omega)) ⟨(me 0 0 (by omega)), (me 0 2 (by omega))⟩ (funext fun j => (me 1 j (by omega))) (funext fun j => (me 8 j (by omega))) ⟨funext fun j => (me 13 j (by omega)), funext fun j => (me 14 j (by omega)), funext fun j => (me 15 j (by omega))⟩ k5⟩, (fun s s1 s2 => by
      by_cases e : s = k
      · subst e
        rw [mim_k]
        exact ⟨⟨h1, Or.inr rfl⟩, fun _ => dayC_tr w.2.1 (fun _ _ _ _ => rfl) ⟨mim_b s1, mim_b s1, mim_b s1⟩ (fun x j x1 x2 => mim_r s1 (by omega)) d1⟩
      · rw [mim_e (by omega), f1 50 s (by omega) (by omega)]
        refine ⟨(k6 s s1 s2).1, fun z => ?_⟩
        have his : imd s = 87 + 28 * s.toNat := rfl
        exact dayC_tr (w.2.2.2.2.1 s s1 s2 z) (fun b j q1 q2 => f1 b j (by omega) (by omega)) ⟨mo0 s 3 s1 s2 e, mo0 s 4 s1 s2 e, mo0 s 5 s1 s2 e⟩ (fun x j x1 x2 => mo s x j s1 s2 e (by omega) (by omega)) ((k6 s s1 s2).2 z)), ⟨(ce 1 1 (by omega)).trans (k7.1.trans (me 0 7 (by omega)).symm), fun i i1 i2 => (ce 2 i (by omega)).trans ((k7.2 i i1 (by rw [(me 0 7 (by omega))] at i2; exact i2)).trans (me 12 i (by omega)).symm)⟩⟩
  have kM2 : KM σ2 (mim m k) := by
    have ce : ∀ (b : Nat) (j : Int), ¬ (192 ≤ b ∧ b ≤ 200) → σ2.1 b j = σ1.1 b j := fun b j z => f2.1 b j (by omega) (by omega) (by omega) (by omega) (by omega)
    have kM1 : KM σ1 m := KM_hi w (fun b j q => f1 b j (by omega) (by omega)) kM
    obtain ⟨k1, k2, k3, k4, k6, k7⟩ := kM1
    exact ⟨cityM_mm ⟨(me 0 0 (by omega)), (me 0 1 (by omega)), (me 0 2 (by omega))⟩ (fun a j q1 q2 => me a j (by omega)) (cityM_kq (fun b j q => ce b j (by omega)) k1), dayG_tr w.2.1 ⟨ce _ _ (by omega), ce _ _ (by omega), ce _ _ (by omega)⟩ (fun j _ _ => ce _ _ (by omega)) (fun j _ _ => ce _ _ (by omega)) (fun j _ _ => ce _ _ (by omega)) (fun j _ _ => ce _ _ (by omega)) (fun j _ _ => ce _ _ (by omega)) ⟨(me 0 3 (by omega)), (me 0 4 (by omega)), (me 0 5 (by omega))⟩ (fun x j x1 x2 => me _ _ (by omega)) k2, bookM_kp w.2.2.1 (fun b j q => ce b j (by omega)) ⟨(me 0 6 (by omega)), fun a j q1 q2 => me a j (by omega)⟩ k3, chM_kp (fun j => ce _ _ (by omega)) (fun a j q1 q2 => me a j (by omega)) k4, (fun s s1 s2 => by
      by_cases e : s = k
      · subst e
        rw [mim_k]
        exact ⟨h2, fun _ => dayG_tr w.2.1 ⟨rfl, rfl, rfl⟩ (fun _ _ _ => rfl) (fun _ _ _ => rfl) (fun _ _ _ => rfl) (fun _ _ _ => rfl) (fun _ _ _ => rfl) ⟨mim_b s1, mim_b s1, mim_b s1⟩ (fun x j x1 x2 => mim_r s1 (by omega)) d2⟩
      · rw [mim_e (by omega), f2.1 192 s (by omega) (by omega) (by omega) (by omega) (by omega)]
        refine ⟨(k6 s s1 s2).1, fun z => ?_⟩
        exact dayG_tr (w.2.2.2.2.1 s s1 s2 z) ⟨f2.1 _ _ (by omega) (by omega) (by omega) (by omega) (by omega), f2.1 _ _ (by omega) (by omega) (by omega) (by omega) (by omega), f2.1 _ _ (by omega) (by omega) (by omega) (by omega) (by omega)⟩ (fun j _ _ => f2.1 _ _ (by omega) (by omega) (by omega) (by omega) (by omega)) (fun j _ _ => f2.1 _ _ (by omega) (by omega) (by omega) (by omega) (by omega)) (fun j _ _ => f2.1 _ _ (by omega) (by omega) (by omega) (by omega) (by omega)) (fun j _ _ => f2.1 _ _ (by omega) (by omega) (by omega) (by omega) (by omega)) (fun j _ _ => f2.1 _ _ (by omega) (by omega) (by omega) (by omega) (by omega)) ⟨mo0 s 3 s1 s2 e, mo0 s 4 s1 s2 e, mo0 s 5 s1 s2 e⟩ (fun x j x1 x2 => mo s x j s1 s2 e (by omega) (by omega)) ((k6 s s1 s2).2 z)), ⟨(ce 171 1 (by omega)).trans (k7.1.trans (me 0 7 (by omega)).symm), fun i i1 i2 => (ce 172 i (by omega)).trans ((k7.2 i i1 (by rw [(me 0 7 (by omega))] at i2; exact i2)).trans (me 12 i (by omega)).symm)⟩⟩
  exact INV_mk hR2 hrt hra (KC_lo hct w2 (fun b j z => f2.1 b j (by omega) (by omega) (by omega) (by omega) (by omega)) kC1) kM2 w2
theorem op_image {l : Launch} {σ : aw_S} {N : Int} (hI0 : INV σ N) (hN : 0 ≤ N ∧ N ≤ 999) {k : Int} (hr : (-2147483648 ≤ k ∧ k ≤ 2147483647)) : AE l yX9_image cX9_image 2 (some .boolean) 2 48 0 0 SH SH σ [.ref 0, .int (jI k)] (fun v1 σ1 => ∃ vv : Int, v1 = some (.int (jI vv)) ∧ AE l yX10_image cX10_image 3 (some .boolean) 1 22 0 0 SH SH σ1 [.ref 171, .int (jI k)] (fun v2 σ2 => v2 = some (.int (jI vv)) ∧ INV σ2 (N + 1))) := by
  obtain ⟨tw, cs, t, ad, m, ⟨hR, hrt, hra⟩, kC, kM, w⟩ := hI0
  have hct : isCity t := (tw_n hra hrt).1.2
  have hca : isCity ad := (tw_n hra hrt).1.1
  have hR1 := hR
  have hcn := RF_ne hra hrt
  have kC' := kC
  have kM' := kM
  have w' := w
  obtain ⟨c1, c2, c3, ⟨c4, c5⟩, c6, c7⟩ := kC
  obtain ⟨m1, m2, m3, m4, m6, m7⟩ := kM
  obtain ⟨w1, w2, w3, w4, w5, w6⟩ := w
  refine c_X9_image (hR := hR) (hct := hct) (hrt := hrt) (hC := c1) (wC := w1) (hD := c2) (wD := w2) (hN := ⟨hN.1, Int.le_trans hN.2 (by decide)⟩) (hr := hr) (h1 := ?_) (h0 := ?_)
  · intro hv σ0 d0 f0
    have hid : imd k = 87 + 28 * k.toNat := rfl
    have hk := hv.2
    have f1 : ∀ (b : Nat) (j : Int), ¬ (imd k ≤ b ∧ b < imd k + 28) → ¬ (b = 50 ∧ j = k) → (aw_si σ0 50 k 1).1 b j = σ.1 b j := fun b j q1 q2 => (si_o q2).trans (f0.1 b j q1)
    have h1 : (aw_si σ0 50 k 1).1 50 k = 1 := rd_si_eq
    have d1 : dayC (aw_si σ0 50 k 1) (imd k) 0 m := dayC_tr w2 (fun b j q1 q2 => si_o (by omega)) ⟨rfl, rfl, rfl⟩ (fun _ _ _ _ => rfl) d0
    have hR1 : (aw_si σ0 50 k 1).2.2 = RF tw cs := (congrArg Prod.snd f0.2).trans hR
    revert f1 h1 d1 hR1
    generalize aw_si σ0 50 k 1 = σ1
    intro f1 h1 d1 hR1
    have kM1 := KM_hi w' (σ' := σ1) (fun b j q => f1 b j (by omega) (by omega)) kM'
    obtain ⟨m1, m2, m3, m4, m6, m7⟩ := kM1
    refine ⟨_, rfl, c_X10_image (hR := hR1) (hM := m1) (wC := w1) (hM2 := m2) (wD := w2) (hN := ⟨hN.1, Int.le_trans hN.2 (by decide)⟩) (hr := hr) (h1 := ?_) (h0 := ?_)⟩
    · intro _ σ2 d2 h2 f2
      exact ⟨rfl, im_fin ((congrArg Prod.snd f2.2).trans hR1) hrt hra kC' kM' w' hk f1 d1 h1 f2 d2 h2⟩
    · intro q; exact absurd hv q
  · intro hv
    refine ⟨_, rfl, c_X10_image (hR := hR1) (hM := m1) (wC := w1) (hM2 := m2) (wD := w2) (hN := ⟨hN.1, Int.le_trans hN.2 (by decide)⟩) (hr := hr) (h1 := ?_) (h0 := ?_)⟩
    · intro q; exact absurd q hv
    · intro _; exact ⟨rfl, INV_mk hR hrt hra kC' kM' (WF_mono (Int.le_add_of_nonneg_right (by decide)) w')⟩
/-- the image k as the day -/
def mbk (m : mS) (k : Int) : mS := fun a j => if (a = 0 ∧ 3 ≤ j ∧ j ≤ 5) ∨ a = 10 ∨ a = 11 ∨ (100 ≤ a ∧ a < 340) then m (1000 * (k + 1) + a) j else m a j
theorem mbk_f {m : mS} {k : Int} : frm m (mbk m k) := fun a j q1 q2 q3 => by unfold mbk; rw [if_neg (by omega)]
theorem mbk_0 {m : mS} {k j : Int} (h : 3 ≤ j ∧ j ≤ 5) : mbk m k 0 j = m (1000 * (k + 1)) j := by unfold mbk; rw [if_pos (by omega), Int.add_zero]
theorem mbk_r {m : mS} {k x j : Int} (h : x = 10 ∨ x = 11 ∨ (100 ≤ x ∧ x < 340)) : mbk m k (0 + x) j = m (1000 * (k + 1) + x) j := by rw [Int.zero_add]; unfold mbk; rw [if_pos (by omega)]
theorem op_back {l : Launch} {σ : aw_S} {N : Int} (hI0 : INV σ N) (hN : 0 ≤ N ∧ N ≤ 999) {k : Int} (hr : (-2147483648 ≤ k ∧ k ≤ 2147483647)) : AE l yX9_back cX9_back 2 (some .boolean) 2 48 0 0 SH SH σ [.ref 0, .int (jI k)] (fun v1 σ1 => ∃ vv : Int, v1 = some (.int (jI vv)) ∧ AE l yX10_back cX10_back 3 (some .boolean) 1 22 0 0 SH SH σ1 [.ref 171, .int (jI k)] (fun v2 σ2 => v2 = some (.int (jI vv)) ∧ INV σ2 (N + 1))) := by
  obtain ⟨tw, cs, t, ad, m, ⟨hR, hrt, hra⟩, kC, kM, w⟩ := hI0
  have hct : isCity t := (tw_n hra hrt).1.2
  have hca : isCity ad := (tw_n hra hrt).1.1
  have hR1 := hR
  have hcn := RF_ne hra hrt
  have kC' := kC
  have kM' := kM
  have w' := w
  obtain ⟨c1, c2, c3, ⟨c4, c5⟩, c6, c7⟩ := kC
  obtain ⟨m1, m2, m3, m4, m6, m7⟩ := kM
  obtain ⟨w1, w2, w3, w4, w5, w6⟩ := w
  refine c_X9_back (hR := hR) (hi := (fun k k1 k2 => (c6 k k1 k2).1)) (hI := (fun z y => ⟨(c6 _ z.1 z.2).2 y, w5 _ z.1 z.2 y⟩)) (hr := hr) (h1 := ?_) (h0 := ?_)
  · intro hv σ1 d1 f1
    have hR1 : σ1.2.2 = RF tw cs := (congrArg Prod.snd f1.2).trans hR
    have wk := w5 k hv.1.1 hv.1.2 hv.2
    have kM1 := KM_hi w' (fun b j q => f1.1 b j (by omega)) kM'
    obtain ⟨m1, m2, m3, m4, m6, m7⟩ := kM1
    refine ⟨_, rfl, c_X10_back (hR := hR1) (hi := (fun k k1 k2 => ⟨(m6 k k1 k2).1, (c6 k k1 k2).1.2⟩)) (hI := (fun z y => ⟨(m6 _ z.1 z.2).2 y, w5 _ z.1 z.2 y⟩)) (hr := hr) (h1 := ?_) (h0 := ?_)⟩
    · intro _ σ2 d2 f2
      have fr := mbk_f (m := m) (k := k)
      refine ⟨rfl, day_fin (m' := mbk m k) ((congrArg Prod.snd f2.2).trans hR1) hrt hra kC' kM' w' fr (wfDay_mono (Int.le_add_of_nonneg_right (by decide)) (wfDay_tr w1.1.2 ⟨fr 0 0 (by omega) (by omega) (by omega), fun r => ⟨fr 1 r (by omega) (by omega) (by omega), fr 2 r (by omega) (by omega) (by omega), fr 3 r (by omega) (by omega) (by omega)⟩⟩ ⟨mbk_0 (by omega), mbk_0 (by omega), mbk_0 (by omega)⟩ (fun x j x1 x2 => mbk_r (by omega)) wk)) (fun b j q1 q2 => f1.1 b j q1) ?_ (fun b j q1 q2 q3 => f2.1 b j q1 q3) ?_⟩
      · exact dayC_tr wk (fun _ _ _ _ => rfl) ⟨mbk_0 (by omega), mbk_0 (by omega), mbk_0 (by omega)⟩ (fun x j x1 x2 => mbk_r (by omega)) d1
      · exact dayG_tr wk ⟨rfl, rfl, rfl⟩ (fun _ _ _ => rfl) (fun _ _ _ => rfl) (fun _ _ _ => rfl) (fun _ _ _ => rfl) (fun _ _ _ => rfl) ⟨mbk_0 (by omega), mbk_0 (by omega), mbk_0 (by omega)⟩ (fun x j x1 x2 => mbk_r (by omega)) d2
    · intro q; exact absurd hv q
  · intro hv
    refine ⟨_, rfl, c_X10_back (hR := hR1) (hi := (fun k k1 k2 => ⟨(m6 k k1 k2).1, (c6 k k1 k2).1.2⟩)) (hI := (fun z y => ⟨(m6 _ z.1 z.2).2 y, w5 _ z.1 z.2 y⟩)) (hr := hr) (h1 := ?_) (h0 := ?_)⟩
    · intro q; exact absurd q hv
    · intro _; exact ⟨rfl, INV_mk hR hrt hra kC' kM' (WF_mono (Int.le_add_of_nonneg_right (by decide)) w')⟩
/-- a new city -/
def mcy (d : mS) : mS := fun a j => if (a = 0 ∧ 0 ≤ j ∧ j ≤ 2) ∨ (1 ≤ a ∧ a ≤ 9) then d a j else 0
theorem mcy_r {d : mS} {a j : Int} (h : 1 ≤ a ∧ a ≤ 9) : mcy d a j = d a j := if_pos (Or.inr h)
theorem mcy_0 {d : mS} {j : Int} (h : 0 ≤ j ∧ j ≤ 2) : mcy d 0 j = d 0 j := if_pos (Or.inl ⟨rfl, h⟩)
theorem mcy_z {d : mS} {a j : Int} (h : ¬ (a = 0 ∧ 0 ≤ j ∧ j ≤ 2) ∧ ¬ (1 ≤ a ∧ a ≤ 9)) : mcy d a j = 0 := if_neg (by omega)
theorem WF_cy {d : mS} {B : Int → Int} {n N : Int} (hN : 0 ≤ N) (wG : wfDr B n d) (h10 : d 0 10 = 1) : WF (mcy d) N := by
  obtain ⟨g1, g2, g3, g4, g5, g6, g7, g8, -⟩ := wG
  have z : ∀ a j : Int, ¬ (a = 0 ∧ 0 ≤ j ∧ j ≤ 2) ∧ ¬ (1 ≤ a ∧ a ≤ 9) → mcy d a j = 0 := fun a j q => mcy_z q
  refine ⟨?_, ⟨?_, ?_, ?_, ?_, ?_, ?_, ?_, ?_⟩, ⟨?_, ?_⟩, ?_, ?_, ⟨?_, ?_⟩⟩
  · unfold wfCity
    simp only [mcy_0 (d := d) (j := 0) (by omega), mcy_0 (d := d) (j := 1) (by omega), mcy_0 (d := d) (j := 2) (by omega), fun j => mcy_r (d := d) (a := 1) (j := j) (by omega), fun j => mcy_r (d := d) (a := 2) (j := j) (by omega), fun j => mcy_r (d := d) (a := 3) (j := j) (by omega), fun j => mcy_r (d := d) (a := 4) (j := j) (by omega), fun j => mcy_r (d := d) (a := 5) (j := j) (by omega), fun j => mcy_r (d := d) (a := 6) (j := j) (by omega), fun j => mcy_r (d := d) (a := 7) (j := j) (by omega), fun j => mcy_r (d := d) (a := 8) (j := j) (by omega), fun j => mcy_r (d := d) (a := 9) (j := j) (by omega)]
    obtain ⟨q1, q2, q3, q4⟩ := g6 h10
    exact ⟨g1, g2, g3, g4, g5, fun _ => ⟨q1, q2, q3, q4, g8⟩, g7.1, g7.2⟩
  · rw [z 0 3 (by omega)]; omega
  · rw [z 0 4 (by omega)]; omega
  · rw [z 0 5 (by omega)]; omega
  · intro r r1 r2
    have h2 : 0 ≤ mcy d 2 r + mcy d 3 r ∨ ¬ r < mcy d 0 0 := by
      by_cases e : r < d 0 0
      · left
        have := g2 r r1 e
        rw [mcy_r (by omega), mcy_r (by omega)]; omega
      · right; rw [mcy_0 (by omega)]; exact e
    rw [z (0 + 10) r (by omega), z (0 + 11) r (by omega)]
    omega
  · intro c c1 c2
    rw [z 0 4 (by omega)] at c2; omega
  · intro r k r1 r2 k1 k2
    rw [z (0 + 10) r (by omega)] at k2; omega
  · intro r k j r1 r2 k1 k2 j1 j2 q
    rw [z (0 + 10) r (by omega)] at k2; omega
  · intro c c1 c2 c3
    rw [z 0 4 (by omega)] at c2; omega
  · rw [z 0 6 (by omega)]; omega
  · intro i i1 i2
    rw [z 0 6 (by omega)] at i2; omega
  · intro r r1 r2
    rw [z 13 r (by omega), z 14 r (by omega), z 15 r (by omega)]
    omega
  · intro k k1 k2 q
    rw [z 16 k (by omega)] at q; omega
  · rw [z 0 7 (by omega)]; omega
  · intro i i1 i2
    rw [z 0 7 (by omega)] at i2; omega
theorem KC_cy {σ σ0 : aw_S} {a : Nat} {d : mS} (h10 : d 0 10 = 1) (h6 : d 0 0 ≤ 6) (hG : drC σ a d) (hn : newC σ) (h55 : ahOK σ0 (σ0.1 55)) (e5 : ∀ j : Int, σ.1 55 j = σ0.1 55 j) : KC σ a (mcy d) := by
  obtain ⟨g1, g2, g3, g4, g5, g6, -⟩ := hG
  obtain ⟨n1, n2, n3, n4, n5, n6, n7⟩ := hn
  have z : ∀ a j : Int, ¬ (a = 0 ∧ 0 ≤ j ∧ j ≤ 2) ∧ ¬ (1 ≤ a ∧ a ≤ 9) → mcy d a j = 0 := fun a j q => mcy_z q
  refine ⟨?_, ⟨?_, ?_, ?_, ?_, ?_, ?_, ?_⟩, ⟨?_, ?_⟩, ⟨?_, ?_, ?_⟩, ?_, ⟨?_, ?_⟩⟩
  · unfold cityC
    simp only [mcy_0 (d := d) (j := 0) (by omega), mcy_0 (d := d) (j := 1) (by omega), mcy_0 (d := d) (j := 2) (by omega), fun j => mcy_r (d := d) (a := 1) (j := j) (by omega), fun j => mcy_r (d := d) (a := 2) (j := j) (by omega), fun j => mcy_r (d := d) (a := 3) (j := j) (by omega), fun j => mcy_r (d := d) (a := 4) (j := j) (by omega), fun j => mcy_r (d := d) (a := 5) (j := j) (by omega), fun j => mcy_r (d := d) (a := 6) (j := j) (by omega), fun j => mcy_r (d := d) (a := 7) (j := j) (by omega), fun j => mcy_r (d := d) (a := 8) (j := j) (by omega), fun j => mcy_r (d := d) (a := 9) (j := j) (by omega)]
    obtain ⟨q1, q2, q3, q4⟩ := g4 h10
    exact ⟨g1.1, g1.2, g2.1, g2.2, fun r r1 r2 => ⟨(g3 r r1 (by omega)).1, aw_ub (g3 r r1 (by omega)).2⟩, fun _ => ⟨q1, q2, q3, q4, g6⟩, g5.1, g5.2⟩
  · rw [z 0 3 (by omega)]; exact n2.1
  · rw [z 0 4 (by omega)]; exact n2.2.1
  · rw [z 0 5 (by omega)]; exact n2.2.2
  · intro r r1 r2
    rw [z (0 + 10) r (by omega), z (0 + 11) r (by omega)]
    exact n3 r r1 r2
  · intro c f c1 c2
    rw [z 0 4 (by omega)] at c2; omega
  · intro r k r1 r2 k1 k2
    rw [z (0 + 10) r (by omega)] at k2; omega
  · intro i w i1 i2
    rw [z 0 5 (by omega)] at i2; omega
  · rw [z 0 6 (by omega)]; exact n6
  · intro i i1 i2
    rw [z 0 6 (by omega)] at i2; omega
  · intro r r1 r2
    rw [z 13 r (by omega)]
    exact ⟨n5 r r1 r2, fun q => absurd rfl q⟩
  · exact aw_mb ⟨0, by omega, n4, fun k s n z _ _ _ _ => absurd z (Nat.not_lt_zero k)⟩
  · have e55 : σ.1 55 = σ0.1 55 := funext e5
    intro r r1 r2
    rw [e55]
    exact h55 r r1 r2
  · intro k k1 k2
    rw [z 16 k (by omega)]
    exact ⟨⟨n7 k k1 k2, Or.inl rfl⟩, fun q => absurd q (by omega)⟩
  · rw [z 0 7 (by omega)]; exact n1
  · intro i i1 i2
    rw [z 0 7 (by omega)] at i2; omega
theorem KM_cy {σ : aw_S} {d : mS} (hn : newM σ d) : KM σ (mcy d) := by
  obtain ⟨g1, g2, g3, g4, n1, n2, n3, n5, n6, n7⟩ := hn
  have z : ∀ a j : Int, ¬ (a = 0 ∧ 0 ≤ j ∧ j ≤ 2) ∧ ¬ (1 ≤ a ∧ a ≤ 9) → mcy d a j = 0 := fun a j q => mcy_z q
  refine ⟨?_, ⟨?_, ?_, ?_, ?_, ?_, ?_, ?_⟩, ⟨?_, ?_⟩, ?_, ?_, ⟨?_, ?_⟩⟩
  · unfold cityM
    simp only [mcy_0 (d := d) (j := 0) (by omega), mcy_0 (d := d) (j := 1) (by omega), mcy_0 (d := d) (j := 2) (by omega), fun j => mcy_r (d := d) (a := 1) (j := j) (by omega), fun j => mcy_r (d := d) (a := 2) (j := j) (by omega), fun j => mcy_r (d := d) (a := 3) (j := j) (by omega), fun j => mcy_r (d := d) (a := 4) (j := j) (by omega), fun j => mcy_r (d := d) (a := 5) (j := j) (by omega), fun j => mcy_r (d := d) (a := 6) (j := j) (by omega), fun j => mcy_r (d := d) (a := 7) (j := j) (by omega), fun j => mcy_r (d := d) (a := 8) (j := j) (by omega), fun j => mcy_r (d := d) (a := 9) (j := j) (by omega)]
    exact ⟨g1.1, g1.2, g2.1, g2.2, fun _ => ⟨g3.1.1, g3.1.2.1, g3.1.2.2.1, g3.1.2.2.2, g3.2⟩, g4.1, g4.2⟩
  · rw [z 0 3 (by omega)]; exact n2.1
  · rw [z 0 4 (by omega)]; exact n2.2.1
  · rw [z 0 5 (by omega)]; exact n2.2.2
  · intro r r1 r2
    rw [z (0 + 10) r (by omega), z (0 + 11) r (by omega)]
    exact n3 r r1 r2
  · intro c c1 c2
    rw [z 0 4 (by omega)] at c2; omega
  · intro r k r1 r2 k1 k2
    rw [z (0 + 10) r (by omega)] at k2; omega
  · intro i w i1 i2
    rw [z 0 5 (by omega)] at i2; omega
  · rw [z 0 6 (by omega)]; exact n6
  · intro i i1 i2
    rw [z 0 6 (by omega)] at i2; omega
  · intro r r1 r2
    rw [z 13 r (by omega), z 14 r (by omega), z 15 r (by omega)]
    exact ⟨n5 _ (by omega) (by omega), n5 _ (by omega) (by omega), n5 _ (by omega) (by omega)⟩
  · intro k k1 k2
    rw [z 16 k (by omega)]
    exact ⟨n7 k k1 (by omega), fun q => absurd q (by omega)⟩
  · rw [z 0 7 (by omega)]; exact n1
  · intro i i1 i2
    rw [z 0 7 (by omega)] at i2; omega
theorem flt_g {B : Int → Int} {n : Int} (hn : 0 ≤ n) (h : (flt B n).1 = -1) : wfDr B n (flt B n).2 ∧ 0 < (flt B n).2 0 0 ∧ (flt B n).2 0 10 = 1 := (flF_g _ _ _ ⟨by omega, hn⟩ wf_dr0).1 h
theorem op_city {l : Launch} {σ : aw_S} {N : Int} (hI0 : INV σ N) (hN : 0 ≤ N ∧ N ≤ 999)  : AE l yX9_city cX9_city 3 (some .int) 10 210 0 0 SH SH σ [.ref 0] (fun v1 σ1 => ∃ vv : Int, v1 = some (.int (jI vv)) ∧ AE l yX10_city cX10_city 2 (some .int) 12 254 0 0 SH SH σ1 [.ref 171] (fun v2 σ2 => v2 = some (.int (jI vv)) ∧ INV σ2 (N + 1))) := by
  obtain ⟨tw, cs, t, ad, m, ⟨hR, hrt, hra⟩, kC, kM, w⟩ := hI0
  have hct : isCity t := (tw_n hra hrt).1.2
  have hca : isCity ad := (tw_n hra hrt).1.1
  have hR1 := hR
  have hcn := RF_ne hra hrt
  have kC' := kC
  have kM' := kM
  have w' := w
  obtain ⟨c1, c2, c3, ⟨c4, c5⟩, c6, c7⟩ := kC
  obtain ⟨m1, m2, m3, m4, m6, m7⟩ := kM
  obtain ⟨w1, w2, w3, w4, w5, w6⟩ := w
  have tn := tw_n hra hrt
  refine c_X9_city (hR := hR) (hrd := hra) (hrt := hrt) (hT := c7) (wT := w6) (hk0 := ?_) (hk1 := ?_)
  · intro hv σ1 f1
    have hR1 : σ1.2.2 = RF tw cs := (congrArg Prod.snd f1.2).trans hR
    have kM1 := KM_hi w' (fun b j q => f1.1 b j (by omega) (by omega) (by omega) (by omega)) kM'
    obtain ⟨m1, m2, m3, m4, m6, m7⟩ := kM1
    refine ⟨_, rfl, c_X10_city (hR := hR1) (hT := m7) (wT := w6) (hk0 := ?_) (hk1 := ?_)⟩
    · intro _ σ2 f2
      exact ⟨rfl, scr_fin (f2.2.2.trans hR1) hrt hra kC' kM' w' (fun b j q => f1.1 b j (by unfold kpC at q; omega) (by unfold kpC at q; omega) (by unfold kpC at q; omega) (by unfold kpC at q; omega)) (fun b j q => f2.1 b j (by unfold kpM at q; omega) (by unfold kpM at q; omega))⟩
    · intro q; exact absurd q hv
  · intro hv σ1 f1 hR1 g1 n1
    have gg := flt_g w6.1.1 hv
    have w2n := WF_cy (N := N + 1) (by omega) gg.1 gg.2.2
    have kC1 := KC_cy (σ0 := σ) gg.2.2 gg.1.1.2 g1 n1 c5.2 (fun j => f1.1 55 j (by omega) (by omega) (by omega) (by omega) (by omega) (by omega) (by omega) (by omega) (by omega) (by omega) (by omega))
    have kM1 := KM_hi w' (σ' := σ1) (fun b j q => f1.1 b j (by omega) (by omega) (by omega) (by omega) (by omega) (by omega) (by omega) (by omega) (by omega) (by omega) (by omega)) kM'
    obtain ⟨m1, m2, m3, m4, m6, m7⟩ := kM1
    refine ⟨_, rfl, c_X10_city (hR := hR1) (hT := m7) (wT := w6) (hk0 := ?_) (hk1 := ?_)⟩
    · intro q; exact absurd hv q
    · intro _ σ2 f2 n2
      exact ⟨rfl, INV_mk (f2.2.trans hR1) tn.2.1 tn.2.2 (KC_lo hca w2n (fun b j q => f2.1 b j (by omega) (by omega) (by omega) (by omega) (by omega) (by omega)) kC1) (KM_cy n2) w2n⟩
