/-! ===== a fare, a call, a refusal, a change: the model ===== -/
theorem aw_price_up {n co : Int} (hc : 1 ≤ co) (hn : 0 ≤ n) : 0 ≤ (n + co - 1) / co * co ∧ (n + co - 1) / co * co ≤ n + co - 1 := by
  refine ⟨Int.mul_nonneg (Int.ediv_nonneg (by omega) (by omega)) (by omega), ?_⟩
  have := Int.ediv_mul_le (n + co - 1) (b := co) (by omega)
  exact this
theorem mprice_b {m : mS} {mi v : Int} (wC : wfCity m) (h0 : 0 < m 0 0) (hm : 1 ≤ mi ∧ mi ≤ 240) (hv : 0 ≤ v ∧ v ≤ 240) : 0 ≤ mprice m mi v ∧ mprice m mi v ≤ 265000 := by
  obtain ⟨y1, y2, y3, y4, y5, y6, y7, y8⟩ := wC
  have h := y6 h0
  have hb := aw_price_b (f0 := m 8 0) (f1 := m 8 1) (f2 := m 8 2) (f3 := m 8 3) (m := mi) (v := v) h.1 h.2.1 h.2.2.1 h.2.2.2.1 hm hv
  have hu := aw_price_up (n := m 8 0 + m 8 1 * ((mi + m 8 2 - 1) / m 8 2) + m 8 3 * v) (co := m 0 2) (by omega) (by omega)
  unfold mprice aw_price
  omega
def xbz (m : mS) (c mi p : Int) : Int → Int := fun f => if f = 1 then 3 else if f = 2 then p else if f = 3 then -1 else if f = 4 then m 0 3 + mi else if f = 7 then m (100 + c) 7 + mprice m mi 0 else if f = 9 then -1 else m (100 + c) f
noncomputable def mlv (m : mS) (c : Int) : mS := mrem m (m (100 + c) 3) (mpos m 0 c)
def mbz (m : mS) (c mi p : Int) : mS := upr m (100 + c) (xbz m c mi p)
noncomputable def mserve (m : mS) (c mi p : Int) : mS := mbz (mlv m c) c mi p
def vst (m : mS) (c : Int) : Prop := (0 ≤ c ∧ c < m 0 4) ∧ m (100 + c) 1 = 2
def vfare (mi p : Int) : Prop := (1 ≤ mi ∧ mi ≤ 240) ∧ (0 ≤ p ∧ p ≤ 99)
theorem pos0 {m : mS} {N c : Int} (wC : wfCity m) (wD : wfDay m 0 N) (h : vst m c) : (0 ≤ m (100 + c) 3 ∧ m (100 + c) 3 < m 0 0 ∧ m 0 0 ≤ 6) ∧ (0 ≤ mpos m 0 c ∧ mpos m 0 c < m 10 (m (100 + c) 3)) ∧ m (200 + m (100 + c) 3) (mpos m 0 c) = c := by
  have h1 := mpos_rk (b := 0) wC wD h.1 (by rw [Int.zero_add]; exact h.2)
  have h2 := mpos_spec (b := 0) wD h.1 (by rw [Int.zero_add]; exact h.2)
  simp only [Int.zero_add] at h1 h2
  exact ⟨h1, ⟨h2.1, h2.2.1⟩, h2.2.2⟩
theorem pos0_eq {m : mS} {N c k : Int} (wC : wfCity m) (wD : wfDay m 0 N) (h : vst m c) (hk : 0 ≤ k ∧ k < m 10 (m (100 + c) 3) ∧ m (200 + m (100 + c) 3) k = c) : mpos m 0 c = k :=
  (mpos_eq (b := 0) wC wD h.1 (by rw [Int.zero_add]; exact h.2) (by simp only [Int.zero_add]; exact hk)).symm
theorem mlv_ne {m : mS} {c a j : Int} (h1 : a ≠ 200 + m (100 + c) 3) (h2 : ¬ (a = 10 ∧ j = m (100 + c) 3)) : mlv m c a j = m a j := mrem_ne h1 h2
theorem lv_frm {m : mS} {N c : Int} (wC : wfCity m) (wD : wfDay m 0 N) (h : vst m c) : frm m (mlv m c) := by
  have hp := pos0 wC wD h
  exact rowD_frm (by omega) (rowD_rem hp.1.1)
theorem lv_D1 {m : mS} {N c : Int} (wC : wfCity m) (wD : wfDay m 0 N) (h : vst m c) : wfD1 (mlv m c) N c := by
  have hp := pos0 wC wD h
  exact wf_rem wD h.1 hp.1 hp.2.1 hp.2.2
theorem lv_c {m : mS} {N c : Int} (wC : wfCity m) (wD : wfDay m 0 N) (h : vst m c) : mlv m c (100 + c) = m (100 + c) := by
  have hp := pos0 wC wD h
  have h16 := (wfDay_0 wD).2.1
  obtain ⟨q1, q2⟩ := h
  exact funext (fun j => mlv_ne (by omega) (by omega))
theorem lv_0 {m : mS} {N c j : Int} (wC : wfCity m) (wD : wfDay m 0 N) (h : vst m c) : mlv m c 0 j = m 0 j := by
  have hp := pos0 wC wD h
  exact mlv_ne (by omega) (by omega)
theorem wfCab_xbz {m : mS} {N c mi p : Int} (wC : wfCity m) (h0 : 0 < m 0 0) (hN : 0 ≤ N) (h : wfCab m 0 N c (m (100 + c))) (hm : vfare mi p) (h3 : 0 ≤ m 0 3) : wfCab m 0 (N + 1) c (xbz m c mi p) := by
  have hpr := mprice_b (mi := mi) (v := 0) wC h0 hm.1 (by omega)
  have x0 : xbz m c mi p 0 = m (100 + c) 0 := rfl
  have x1 : xbz m c mi p 1 = 3 := rfl
  have x2 : xbz m c mi p 2 = p := rfl
  have x3 : xbz m c mi p 3 = -1 := rfl
  have x4 : xbz m c mi p 4 = m 0 3 + mi := rfl
  have x5 : xbz m c mi p 5 = m (100 + c) 5 := rfl
  have x6 : xbz m c mi p 6 = m (100 + c) 6 := rfl
  have x7 : xbz m c mi p 7 = m (100 + c) 7 + mprice m mi 0 := rfl
  have x8 : xbz m c mi p 8 = m (100 + c) 8 := rfl
  have x9 : xbz m c mi p 9 = -1 := rfl
  have x10 : xbz m c mi p 10 = m (100 + c) 10 := rfl
  unfold wfCab at h ⊢
  rw [x0, x1, x2, x3, x4, x5, x6, x7, x8, x9, x10]
  obtain ⟨g1, g2, g3, g4, g5, g6, g7, g8, g9, g10, g11, g12, g13, g14⟩ := h
  obtain ⟨hm1, hm2⟩ := hm
  exact ⟨g1, by omega, hm2, fun q => by omega, fun _ => rfl, fun _ => by omega, fun q => by omega, fun q => by omega, g9, by omega, by omega, by omega, Or.inl rfl, g14⟩
theorem lv_cab {m : mS} {N c : Int} (wC : wfCity m) (wD : wfDay m 0 N) (h : vst m c) : wfCab (mlv m c) 0 N c (mlv m c (100 + c)) := by
  have hp := pos0 wC wD h
  have hc := lv_c wC wD h
  rw [hc]
  exact wfCab_m (lv_0 wC wD h) (lv_0 wC wD h) (fun r => mlv_ne (by omega) (by omega)) ((wfDay_0 wD).2.2.2.2.1 c h.1.1 h.1.2)
theorem serve_wf {m : mS} {N c mi p : Int} (wC : wfCity m) (hN : 0 ≤ N) (wD : wfDay m 0 N) (h : vst m c) (hm : vfare mi p) : wfDay (mserve m c mi p) 0 (N + 1) := by
  have hp := pos0 wC wD h
  have h1 := lv_D1 wC wD h
  have hf := lv_frm wC wD h
  have w2 := wfCity_fr hf wC
  refine wf_put (by rw [lv_0 wC wD h]; exact h.1) (wfD1_mono (by omega) h1) (wfCab_xbz w2 (by rw [lv_0 wC wD h]; omega) hN (lv_cab wC wD h) hm (by rw [lv_0 wC wD h]; exact (wfDay_0 wD).1.1)) (by show (3 : Int) ≠ 2; decide)
theorem serve_frm {m : mS} {N c mi p : Int} (wC : wfCity m) (wD : wfDay m 0 N) (h : vst m c) : frm m (mserve m c mi p) :=
  frm_tr (lv_frm wC wD h) (frm_upr (by have := h.1; have := (wfDay_0 wD).2.1; omega))
/-! ===== take ===== -/
def xtk (m : mS) (c r : Int) : Int → Int := fun f => if f = 5 then r else if f = 6 then m 0 3 + m 9 1 else m (100 + c) f
noncomputable def mtake (m : mS) (r mi p : Int) : mS := if mi < m 9 0 then upr (mserve m (m (200 + r) 0) mi p) (100 + m (200 + r) 0) (xtk (mserve m (m (200 + r) 0) mi p) (m (200 + r) 0) r) else mserve m (m (200 + r) 0) mi p
def vtake (m : mS) (r mi p : Int) : Prop := (0 ≤ r ∧ r < m 0 0) ∧ m 10 r ≠ 0 ∧ vfare mi p
theorem row_st {m : mS} {N r k : Int} (wC : wfCity m) (wD : wfDay m 0 N) (hr : 0 ≤ r ∧ r < m 0 0) (hk : 0 ≤ k ∧ k < m 10 r) : vst m (m (200 + r) k) ∧ m (100 + m (200 + r) k) 3 = r := by
  have h60 := wC.1
  have h6 := (wfDay_0 wD).2.2.2.2.2.1 r k hr.1 (by omega) hk.1 hk.2
  exact ⟨⟨h6.1, h6.2.1⟩, h6.2.2⟩
theorem take_st {m : mS} {N r mi p : Int} (wC : wfCity m) (wD : wfDay m 0 N) (h : vtake m r mi p) : vst m (m (200 + r) 0) ∧ m (100 + m (200 + r) 0) 3 = r := by
  have h60 := wC.1
  have h4 := (wfDay_0 wD).2.2.2.1 r h.1.1 (by have := h.1; omega)
  exact row_st wC wD h.1 (by have := h.2.1; omega)
theorem wf_xtk {m : mS} {N c r : Int} (wC : wfCity m) (hN : 0 ≤ N) (wD : wfDay m 0 N) (hc : 0 ≤ c ∧ c < m 0 4) (hr : 0 ≤ r ∧ r < 6) : wfDay (upr m (100 + c) (xtk m c r)) 0 N := by
  refine wf_same wC hc wD ?_ rfl rfl
  have h5 := (wfDay_0 wD).2.2.2.2.1 c hc.1 hc.2
  have h1 := (wfDay_0 wD).1
  have h9 := wC.2.2.2.2.2.2
  have x0 : xtk m c r 0 = m (100 + c) 0 := rfl
  have x1 : xtk m c r 1 = m (100 + c) 1 := rfl
  have x2 : xtk m c r 2 = m (100 + c) 2 := rfl
  have x3 : xtk m c r 3 = m (100 + c) 3 := rfl
  have x4 : xtk m c r 4 = m (100 + c) 4 := rfl
  have x5 : xtk m c r 5 = r := rfl
  have x6 : xtk m c r 6 = m 0 3 + m 9 1 := rfl
  have x7 : xtk m c r 7 = m (100 + c) 7 := rfl
  have x8 : xtk m c r 8 = m (100 + c) 8 := rfl
  have x9 : xtk m c r 9 = m (100 + c) 9 := rfl
  have x10 : xtk m c r 10 = m (100 + c) 10 := rfl
  unfold wfCab at h5 ⊢
  rw [x0, x1, x2, x3, x4, x5, x6, x7, x8, x9, x10]
  obtain ⟨g1, g2, g3, g4, g5, g6, g7, g8, g9, g10, g11, g12, g13, g14⟩ := h5
  exact ⟨g1, g2, g3, g4, g5, g6, g7, g8, by omega, by omega, g11, g12, g13, g14⟩
theorem take_wf {m : mS} {N r mi p : Int} (wC : wfCity m) (hN : 0 ≤ N) (wD : wfDay m 0 N) (h : vtake m r mi p) : wfDay (mtake m r mi p) 0 (N + 1) := by
  have hs := take_st wC wD h
  have hw := serve_wf wC hN wD hs.1 h.2.2
  have hf := serve_frm (mi := mi) (p := p) wC wD hs.1
  have h60 := wC.1
  have e4 : mserve m (m (200 + r) 0) mi p 0 4 = m 0 4 := by
    have h16 := (wfDay_0 wD).2.1
    have := hs.1.1
    exact (upr_ne (by omega)).trans (lv_0 wC wD hs.1)
  unfold mtake
  split
  · exact wf_xtk (wfCity_fr hf wC) (by omega) hw (by rw [e4]; exact hs.1.1) (by have := h.1; omega)
  · exact hw
theorem take_frm {m : mS} {N r mi p : Int} (wC : wfCity m) (wD : wfDay m 0 N) (h : vtake m r mi p) : frm m (mtake m r mi p) := by
  have hs := take_st wC wD h
  have hf := serve_frm (mi := mi) (p := p) wC wD hs.1
  have h16 := (wfDay_0 wD).2.1
  unfold mtake
  split
  · exact frm_tr hf (frm_upr (by have := hs.1.1; omega))
  · exact hf
/-! ===== call ===== -/
noncomputable def mcall (m : mS) (c mi p : Int) : mS := mserve (mtell m c (m (100 + c) 3) 2 (mpos m 0 c)) c mi p
theorem mtell_ne {m : mS} {c rk law many a j : Int} (h : ¬ (a = 0 ∧ j = 5)) (h2 : ¬ (300 ≤ a ∧ a < 340)) : mtell m c rk law many a j = m a j := by
  unfold mtell
  split
  · rfl
  · split
    · exact mps_ne h h2
    · exact mps_ne h h2
theorem mpos_tell {m : mS} {c rk law many e : Int} (he : 0 ≤ e ∧ e < 16) (hr : 0 ≤ m (100 + e) 3 ∧ m (100 + e) 3 < 6) : mpos (mtell m c rk law many) 0 e = mpos m 0 e := by
  unfold mpos
  simp only [Int.zero_add]
  rw [mtell_ne (a := 100 + e) (by omega) (by omega), mtell_ne (a := 10) (by omega) (by omega), show mtell m c rk law many (200 + m (100 + e) 3) = m (200 + m (100 + e) 3) from funext (fun j => mtell_ne (by omega) (by omega))]
theorem serve_in {m : mS} {N c mi p a j : Int} (wC : wfCity m) (wD : wfDay m 0 N) (h : vst m c) (ha : (a = 0 ∧ j = 5) ∨ (300 ≤ a ∧ a < 340) ∨ (a = 0 ∧ j = 3)) : mserve m c mi p a j = m a j := by
  have hp := pos0 wC wD h
  have h16 := (wfDay_0 wD).2.1
  have := h.1
  exact (upr_ne (by omega)).trans (mlv_ne (by omega) (by omega))
theorem mrem_congr {m m' : mS} {r k a j : Int} (h0 : m' 10 r = m 10 r) (h1 : ∀ i, m' (200 + r) i = m (200 + r) i) (h2 : m' a j = m a j) : mrem m' r k a j = mrem m r k a j := by
  unfold mrem
  by_cases q : a = 200 + r
  · subst q; rw [if_pos rfl, if_pos rfl, h1, h1]
  · rw [if_neg q, if_neg q, h0, h2]
theorem serve_tell {m : mS} {N c mi p rk law many : Int} (wC : wfCity m) (wD : wfDay m 0 N) (h : vst m c) : mserve (mtell m c rk law many) c mi p = mtell (mserve m c mi p) c rk law many := by
  have hp := pos0 wC wD h
  have h16 := (wfDay_0 wD).2.1
  have wC2 : wfCity (mtell m c rk law many) := wfCity_fr frm_tell wC
  have wD2 : wfDay (mtell m c rk law many) 0 N := wfDay_tell wC.1.2 wD
  have e3 : mtell m c rk law many (100 + c) = m (100 + c) := funext (fun j => mtell_ne (by have := h.1; omega) (by have := h.1; omega))
  have h2 : vst (mtell m c rk law many) c := ⟨by rw [mtell_ne (by omega) (by omega)]; exact h.1, by rw [e3]; exact h.2⟩
  funext a j
  by_cases q : (a = 0 ∧ j = 5) ∨ (300 ≤ a ∧ a < 340)
  · rw [serve_in wC2 wD2 h2 (by omega)]
    have s5 : mserve m c mi p 0 5 = m 0 5 := serve_in wC wD h (by omega)
    have s3 : mserve m c mi p 0 3 = m 0 3 := serve_in wC wD h (by omega)
    unfold mtell
    rw [s5]
    split
    · exact (serve_in wC wD h (by omega)).symm
    · split <;>
      · unfold mps
        rcases q with q | q
        · rw [if_pos q, if_pos q]
        · have q5 : ¬ (a = 0 ∧ j = 5) := by omega
          simp only [if_neg q5, if_pos q]
          split
          · unfold tlw; rw [s3]
          · next z => rw [serve_in wC wD h (by omega)]
  · rw [mtell_ne (by omega) (by omega)]
    have u : ∀ a j : Int, ¬ (a = 0 ∧ j = 5) → ¬ (300 ≤ a ∧ a < 340) → mtell m c rk law many a j = m a j := fun a j q1 q2 => mtell_ne q1 q2
    have hl : ∀ a j : Int, ¬ (a = 0 ∧ j = 5) → ¬ (300 ≤ a ∧ a < 340) → mlv (mtell m c rk law many) c a j = mlv m c a j := fun a j q1 q2 => by
      unfold mlv
      rw [e3, mpos_tell (by have := h.1; omega) (by omega)]
      exact mrem_congr (u _ _ (by omega) (by omega)) (fun i => u _ _ (by omega) (by omega)) (u _ _ q1 q2)
    unfold mserve mbz upr
    by_cases z : a = 100 + c
    · rw [if_pos z, if_pos z]
      have hlc : mlv (mtell m c rk law many) c (100 + c) = mlv m c (100 + c) := funext (fun i => hl _ i (by have := h.1; omega) (by have := h.1; omega))
      unfold xbz mprice
      rw [hlc, hl 0 3 (by omega) (by omega), hl 8 0 (by omega) (by omega), hl 8 1 (by omega) (by omega), hl 8 2 (by omega) (by omega), hl 8 3 (by omega) (by omega), hl 0 2 (by omega) (by omega)]
    · rw [if_neg z, if_neg z]
      exact hl a j (by omega) (by omega)
theorem call_st {m : mS} {c rk law many : Int} (h16 : m 0 4 ≤ 16) (h : vst m c) : vst (mtell m c rk law many) c := by
  obtain ⟨h1, h2⟩ := h
  exact ⟨by rw [mtell_ne (by omega) (by omega)]; exact h1, by rw [mtell_ne (by omega) (by omega)]; exact h2⟩
theorem call_wf {m : mS} {N c mi p : Int} (wC : wfCity m) (hN : 0 ≤ N) (wD : wfDay m 0 N) (h : vst m c) (hm : vfare mi p) : wfDay (mcall m c mi p) 0 (N + 1) :=
  serve_wf (wfCity_fr frm_tell wC) hN (wfDay_tell wC.1.2 wD) (call_st (wfDay_0 wD).2.1.2 h) hm
theorem call_frm {m : mS} {N c mi p : Int} (wC : wfCity m) (wD : wfDay m 0 N) (h : vst m c) : frm m (mcall m c mi p) :=
  frm_tr frm_tell (serve_frm (wfCity_fr frm_tell wC) (wfDay_tell wC.1.2 wD) (call_st (wfDay_0 wD).2.1.2 h))
/-! ===== refuse ===== -/
def mrf (m : mS) (r : Int) : mS := mrow (mrem m r 0) r (m 10 r - 1) (m (200 + r) 0)
def mrefuse (m : mS) (r : Int) : mS := mtell (mrf m r) (m (200 + r) 0) r 3 (m 10 r - 1)
def vref (m : mS) (r : Int) : Prop := (0 ≤ r ∧ r < m 0 0) ∧ m 10 r ≠ 0
theorem upr_self {m : mS} {a : Int} {x : Int → Int} (h : m a = x) : upr m a x = m := by
  funext b j
  unfold upr
  split
  · next q => rw [q, h]
  · rfl
theorem rf_rowD {m : mS} {r : Int} (hr : 0 ≤ r) : rowD m (mrf m r) r (m 10 r) (fun j => if j < m 10 r - 1 then m (200 + r) (j + 1) else m (200 + r) 0) := by
  refine ⟨?_, fun j j1 j2 => ?_, fun a j h1 h2 => (mrow_ne h1 h2).trans (mrem_ne h1 h2)⟩
  · unfold mrf; rw [mrow_s hr, mrem_s hr]; omega
  · unfold mrf
    rw [mrow_r]
    dsimp only
    by_cases q : j < m 10 r - 1
    · rw [if_pos q, if_pos q, mrem_r, if_neg (by omega)]
    · rw [if_neg q, if_neg q, if_pos (by omega)]
theorem rf_wf {m : mS} {N r : Int} (wC : wfCity m) (wD : wfDay m 0 N) (h : vref m r) : wfDay (mrf m r) 0 N := by
  have h60 := wC.1
  obtain ⟨h1, h2⟩ := h
  have h4 := (wfDay_0 wD).2.2.2.1 r h1.1 (by omega)
  have hs := row_st (k := 0) wC wD h1 (by omega)
  have h16 := (wfDay_0 wD).2.1
  have hd := wf_rem wD hs.1.1 ⟨h1.1, h1.2, h60.2⟩ (k := 0) (by omega) rfl
  have hc := hs.1.1
  have e100 : mrem m r 0 (100 + m (200 + r) 0) = m (100 + m (200 + r) 0) := funext (fun j => mrem_ne (by omega) (by omega))
  have es := mrem_s (m := m) (r := r) (k := 0) h1.1
  have hw := wf_ins (k := m 10 r - 1) (x := m (100 + m (200 + r) 0)) (r := r) (by rw [mrem_ne (by omega) (by omega)]; exact hc) hd (by rw [mrem_ne (by omega) (by omega)]; omega) (by rw [es]; omega)
    (by rw [es, mrem_ne (a := 2) (by omega) (by omega), mrem_ne (a := 3) (by omega) (by omega)]; have := h4.2.2.2 h1.2; omega)
    (wfCab_m (mrem_ne (by omega) (by omega)) (mrem_ne (by omega) (by omega)) (fun z => mrem_ne (by omega) (by omega)) ((wfDay_0 wD).2.2.2.2.1 _ hc.1 hc.2)) hs.1.2 hs.2
  rw [upr_self] at hw
  · exact hw
  · exact funext (fun j => (mrow_ne (by omega) (by omega)).trans (mrem_ne (by omega) (by omega)))
theorem refuse_wf {m : mS} {N r : Int} (wC : wfCity m) (wD : wfDay m 0 N) (h : vref m r) : wfDay (mrefuse m r) 0 N := by
  refine wfDay_tell ?_ (rf_wf wC wD h)
  rw [(rf_rowD h.1.1).2.2 0 0 (by have := h.1; omega) (by omega)]
  exact wC.1.2
theorem refuse_frm {m : mS} {r : Int} (hr : 0 ≤ r ∧ r < 6) : frm m (mrefuse m r) := frm_tr (rowD_frm hr (rf_rowD hr.1)) frm_tell
/-! ===== change ===== -/
def swp (a b j : Int) : Int := if j = a then b else if j = b then a else j
def msw (m : mS) (r a b : Int) : mS := fun x j => if x = 200 + r then m x (swp a b j) else m x j
noncomputable def mchange (m : mS) (c e : Int) : mS := mtell (msw m (m (100 + c) 3) (mpos m 0 c) (mpos m 0 e)) c (m (100 + c) 3) 4 (aw_ap (mpos m 0 c) (mpos m 0 e))
def vchange (m : mS) (c e : Int) : Prop := vst m c ∧ vst m e ∧ c ≠ e ∧ m (100 + c) 3 = m (100 + e) 3
theorem swp_in {a b j s : Int} (ha : 0 ≤ a ∧ a < s) (hb : 0 ≤ b ∧ b < s) (hj : 0 ≤ j ∧ j < s) : 0 ≤ swp a b j ∧ swp a b j < s := by unfold swp; split <;> (try split) <;> omega
theorem swp_swp {a b j : Int} : swp a b (swp a b j) = j := by
  unfold swp
  by_cases q1 : j = a
  · rw [if_pos q1]
    by_cases q2 : b = a
    · rw [if_pos q2]; omega
    · rw [if_neg q2, if_pos rfl]; omega
  · rw [if_neg q1]
    by_cases q2 : j = b
    · rw [if_pos q2, if_pos rfl]; omega
    · rw [if_neg q2, if_neg q1, if_neg q2]
theorem sw_rowD {m : mS} {r a b : Int} (hr : 0 ≤ r) : rowD m (msw m r a b) r (m 10 r) (fun j => m (200 + r) (swp a b j)) :=
  ⟨if_neg (by omega), fun j _ _ => if_pos rfl, fun x j h1 _ => if_neg h1⟩
theorem sw_wf {m : mS} {N r a b : Int} (wC : wfCity m) (wD : wfDay m 0 N) (hr : 0 ≤ r ∧ r < m 0 0) (ha : 0 ≤ a ∧ a < m 10 r) (hb : 0 ≤ b ∧ b < m 10 r) : wfDay (msw m r a b) 0 N := by
  obtain ⟨v1, v2, v3, v4, v5, v6, v7, v8⟩ := wfDay_0 wD
  have h60 := wC.1
  have u : ∀ x : Int, x ≠ 200 + r → msw m r a b x = m x := fun x q => funext (fun j => if_neg q)
  have uw : ∀ j : Int, msw m r a b (200 + r) j = m (200 + r) (swp a b j) := fun j => if_pos rfl
  have u0 := u 0 (by omega)
  refine wfDay_of0 ⟨by rw [u0]; exact v1, by rw [u0]; exact v2, by rw [u0]; exact v3, fun q q1 q2 => ?_, fun e e1 e2 => ?_, fun q j q1 q2 j1 j2 => ?_, fun q j i q1 q2 j1 j2 i1 i2 hq => ?_, fun e e1 e2 e3 => ?_⟩
  · rw [u 10 (by omega), u 11 (by omega), u0, u 2 (by omega), u 3 (by omega)]; exact v4 q q1 q2
  · rw [u0] at e2
    rw [u _ (by omega)]
    exact wfCab_m (by rw [u0]) (by rw [u0]) (fun z => by rw [u 1 (by omega)]) (v5 e e1 e2)
  · rw [u 10 (by omega)] at j2
    rw [u0]
    by_cases z : q = r
    · subst z
      have hj := swp_in ha hb ⟨j1, j2⟩
      have h6 := v6 q _ q1 q2 hj.1 hj.2
      rw [uw, u (100 + m (200 + q) (swp a b j)) (by omega)]
      exact h6
    · have h6 := v6 q j q1 q2 j1 j2
      rw [u (200 + q) (by omega), u (100 + m (200 + q) j) (by omega)]
      exact h6
  · rw [u 10 (by omega)] at j2 i2
    by_cases z : q = r
    · subst z
      rw [uw, uw] at hq
      have hj := swp_in ha hb ⟨j1, j2⟩
      have hi := swp_in ha hb ⟨i1, i2⟩
      have h7 := v7 q _ _ q1 q2 hj.1 hj.2 hi.1 hi.2 hq
      rw [← swp_swp (a := a) (b := b) (j := j), h7, swp_swp]
    · rw [u (200 + q) (by omega)] at hq
      exact v7 q j i q1 q2 j1 j2 i1 i2 hq
  · rw [u0] at e2
    rw [u (100 + e) (by omega)] at e3 ⊢
    have h5 := v5 e e1 e2
    unfold wfCab at h5
    have hr5 := h5.2.2.2.1 (Or.inr e3)
    obtain ⟨i, i1, i2, i3⟩ := aw_ub (v8 e e1 e2 e3)
    rw [u 10 (by omega)]
    by_cases z : m (100 + e) 3 = r
    · rw [z] at i2 i3 ⊢
      have hi := swp_in ha hb ⟨i1, i2⟩
      exact aw_mb ⟨swp a b i, hi.1, hi.2, by rw [uw, swp_swp]; exact i3⟩
    · rw [u (200 + m (100 + e) 3) (by omega)]
      exact aw_mb ⟨i, i1, i2, i3⟩
theorem change_wf {m : mS} {N c e : Int} (wC : wfCity m) (wD : wfDay m 0 N) (h : vchange m c e) : wfDay (mchange m c e) 0 N := by
  have h1 := pos0 wC wD h.1
  have h2 := pos0 wC wD h.2.1
  rw [← h.2.2.2] at h2
  refine wfDay_tell ?_ (sw_wf wC wD (by omega) (by omega) (by omega))
  rw [(sw_rowD h1.1.1).2.2 0 0 (by omega) (by omega)]
  exact wC.1.2
theorem change_frm {m : mS} {c e : Int} (hr : 0 ≤ m (100 + c) 3 ∧ m (100 + c) 3 < 6) : frm m (mchange m c e) := frm_tr (rowD_frm hr (sw_rowD hr.1)) frm_tell
