/-! ===== minutes go by: the model ===== -/
def mtk (m : mS) (n : Int) : mS := fun a j => if a = 0 ∧ j = 3 then m 0 3 + 1 else if (100 ≤ a ∧ a < 100 + n) ∧ j = 8 ∧ m a 1 = 2 then m a 8 + 1 else m a j
theorem mtk_3 {m : mS} {n : Int} : mtk m n 0 3 = m 0 3 + 1 := if_pos ⟨rfl, rfl⟩
theorem mtk_ne {m : mS} {n a j : Int} (h : ¬ (a = 0 ∧ j = 3)) (h2 : ¬ ((100 ≤ a ∧ a < 100 + n) ∧ j = 8)) : mtk m n a j = m a j := by
  unfold mtk; rw [if_neg h, if_neg (fun q => h2 ⟨q.1, q.2.1⟩)]
def xwt (m : mS) (c : Int) : Int → Int := fun f => if f = 8 then m (100 + c) 8 + 1 else m (100 + c) f
theorem mtk_s {m : mS} {n : Int} (h : 0 ≤ n) : mtk m (n + 1) = if m (100 + n) 1 = 2 then upr (mtk m n) (100 + n) (xwt m n) else mtk m n := by
  funext a j
  by_cases q : m (100 + n) 1 = 2
  · rw [if_pos q]
    by_cases e : a = 100 + n
    · subst e
      rw [upr_eq]
      unfold mtk xwt
      rw [if_neg (by omega)]
      by_cases z : j = 8
      · rw [if_pos ⟨by omega, z, q⟩, if_pos z]
      · rw [if_neg (by omega), if_neg z]
    · rw [upr_ne e]
      unfold mtk
      by_cases z0 : a = 0 ∧ j = 3
      · rw [if_pos z0, if_pos z0]
      · rw [if_neg z0, if_neg z0]
        by_cases z : (100 ≤ a ∧ a < 100 + n) ∧ j = 8 ∧ m a 1 = 2
        · rw [if_pos z, if_pos ⟨by omega, z.2⟩]
        · rw [if_neg z, if_neg (fun y => z ⟨by omega, y.2⟩)]
  · rw [if_neg q]
    unfold mtk
    by_cases z0 : a = 0 ∧ j = 3
    · rw [if_pos z0, if_pos z0]
    · rw [if_neg z0, if_neg z0]
      by_cases z : (100 ≤ a ∧ a < 100 + n) ∧ j = 8 ∧ m a 1 = 2
      · rw [if_pos z, if_pos ⟨by omega, z.2⟩]
      · rw [if_neg z, if_neg (fun y => by
          by_cases e : a = 100 + n
          · subst e; exact q y.2.2
          · exact z ⟨by omega, y.2⟩)]
noncomputable def mcome (m : mS) (c : Int) : mS := if m (100 + c) 4 = m 0 3 ∧ (m (100 + c) 1 = 1 ∨ m (100 + c) 1 = 3) then (if m (100 + c) 1 = 3 then upr m (100 + c) (xem m c (m (100 + c) 2)) else marr m c (m (100 + c) 3)) else m
noncomputable def mcs (m : mS) : Nat → mS
  | 0 => m
  | n + 1 => mcome (mcs m n) (n : Int)
noncomputable def mmin (m : mS) : mS := mcs (mtk m (m 0 4)) (m 0 4).toNat
noncomputable def mgo (m : mS) : Nat → mS
  | 0 => m
  | n + 1 => mmin (mgo m n)
/-- what holds after g minutes of a go -/
def wfG (m : mS) (N g : Int) : Prop := wfDay m 0 (N + 1) ∧ m 0 3 ≤ 300 * N + g ∧ ∀ c : Int, 0 ≤ c → c < m 0 4 → m (100 + c) 8 ≤ 300 * N + g
theorem wfG_0 {m : mS} {N : Int} (h : wfDay m 0 N) : wfG m N 0 := by
  refine ⟨wfDay_mono (by omega) h, by have := h.1; omega, fun c c1 c2 => ?_⟩
  have h5 := (wfDay_0 h).2.2.2.2.1 c c1 c2
  unfold wfCab at h5
  omega
theorem wfCab_t {m m' : mS} {N c : Int} {x y : Int → Int} (h0 : m' 0 0 = m 0 0) (h3 : m 0 3 ≤ m' 0 3) (h1 : ∀ r : Int, m' 1 r = m 1 r) (hy : ∀ f, f ≠ 8 → y f = x f) (hy8 : 0 ≤ y 8 ∧ y 8 ≤ 300 * N) (h : wfCab m 0 N c x) : wfCab m' 0 N c y := by
  unfold wfCab at h ⊢
  rw [h0, h1, hy 0 (by omega), hy 1 (by omega), hy 2 (by omega), hy 3 (by omega), hy 4 (by omega), hy 5 (by omega), hy 6 (by omega), hy 7 (by omega), hy 9 (by omega), hy 10 (by omega)]
  obtain ⟨g1, g2, g3, g4, g5, g6, g7, g8, g9, g10, g11, g12, g13, g14⟩ := h
  exact ⟨g1, g2, g3, g4, g5, fun q => by have := g6 q; omega, g7, g8, g9, g10, g11, hy8, g13, g14⟩
theorem wfG_tk {m : mS} {N g n : Int} (wC : wfCity m) (hN : 0 ≤ N) (hg : 0 ≤ g ∧ g < 300) (hn : 0 ≤ n ∧ n ≤ m 0 4) (h : wfG m N g) : wfG (mtk m n) N (g + 1) := by
  obtain ⟨h1, h2, h3⟩ := h
  obtain ⟨v1, v2, v3, v4, v5, v6, v7, v8⟩ := wfDay_0 h1
  have h60 := wC.1
  have u : ∀ a j : Int, ¬ (a = 0 ∧ j = 3) → ¬ ((100 ≤ a ∧ a < 100 + n) ∧ j = 8) → mtk m n a j = m a j := fun a j q1 q2 => mtk_ne q1 q2
  have ur : ∀ a : Int, a ≠ 0 → ¬ (100 ≤ a ∧ a < 116) → mtk m n a = m a := fun a q1 q2 => funext (fun j => u a j (by omega) (by omega))
  have u8 : ∀ e : Int, 0 ≤ e → e < m 0 4 → 0 ≤ mtk m n (100 + e) 8 ∧ mtk m n (100 + e) 8 ≤ 300 * N + g + 1 := fun e e1 e2 => by
    have h5 := v5 e e1 e2
    unfold wfCab at h5
    have h8 := h3 e e1 e2
    unfold mtk
    rw [if_neg (by omega)]
    split <;> omega
  have e04 := u 0 4 (by omega) (by omega)
  refine ⟨wfDay_of0 ⟨by rw [mtk_3]; omega, by rw [e04]; exact v2, by rw [u 0 5 (by omega) (by omega)]; exact v3, fun q q1 q2 => ?_, fun e e1 e2 => ?_, fun q k q1 q2 k1 k2 => ?_, fun q k j q1 q2 k1 k2 j1 j2 y => ?_, fun e e1 e2 e3 => ?_⟩, by rw [mtk_3]; omega, fun c c1 c2 => by rw [e04] at c2; have := u8 c c1 c2; omega⟩
  · rw [ur 10 (by omega) (by omega), ur 11 (by omega) (by omega), u 0 0 (by omega) (by omega), ur 2 (by omega) (by omega), ur 3 (by omega) (by omega)]; exact v4 q q1 q2
  · rw [e04] at e2
    exact wfCab_t (m := m) (x := m (100 + e)) (u 0 0 (by omega) (by omega)) (by rw [mtk_3]; omega) (fun r => u 1 r (by omega) (by omega)) (fun f hf => u _ _ (by omega) (by omega)) (by have := u8 e e1 e2; omega) (v5 e e1 e2)
  · rw [ur 10 (by omega) (by omega)] at k2
    have h6 := v6 q k q1 q2 k1 k2
    rw [e04, ur (200 + q) (by omega) (by omega), u (100 + m (200 + q) k) 1 (by omega) (by omega), u (100 + m (200 + q) k) 3 (by omega) (by omega)]
    exact h6
  · rw [ur 10 (by omega) (by omega)] at k2 j2
    rw [ur (200 + q) (by omega) (by omega)] at y
    exact v7 q k j q1 q2 k1 k2 j1 j2 y
  · rw [e04] at e2
    rw [u (100 + e) 1 (by omega) (by omega)] at e3
    rw [u (100 + e) 3 (by omega) (by omega)]
    have h5 := v5 e e1 e2
    unfold wfCab at h5
    have hr := h5.2.2.2.1 (Or.inr e3)
    rw [ur 10 (by omega) (by omega), ur (200 + m (100 + e) 3) (by omega) (by omega)]
    exact v8 e e1 e2 e3
theorem tk_frm {m : mS} {n : Int} (hn : 0 ≤ n ∧ n ≤ 16) : frm m (mtk m n) := fun a j h1 h2 h3 => mtk_ne (by omega) (by omega)
theorem comer_of {m : mS} {N c : Int} (h : wfDay m 0 N) (hc : 0 ≤ c ∧ c < m 0 4) (h1 : m (100 + c) 1 = 1) : wfComer m N c (m (100 + c) 3) := by
  have h5 := (wfDay_0 h).2.2.2.2.1 c hc.1 hc.2
  unfold wfCab at h5
  obtain ⟨g1, g2, g3, g4, g5, g6, g7, g8, g9, g10, g11, g12, g13, g14⟩ := h5
  exact ⟨hc, ⟨rfl, g4 (Or.inl h1)⟩, g1, g9, g10, g11, g12, by omega, g14⟩
theorem wfCab_xem3 {m : mS} {N c : Int} (h : wfCab m 0 N c (m (100 + c))) (h3 : m (100 + c) 1 = 3) : wfCab m 0 N c (xem m c (m (100 + c) 2)) := by
  have x0 : xem m c (m (100 + c) 2) 0 = m (100 + c) 0 := rfl
  have x1 : xem m c (m (100 + c) 2) 1 = 0 := rfl
  have x2 : xem m c (m (100 + c) 2) 2 = m (100 + c) 2 := rfl
  have x3 : xem m c (m (100 + c) 2) 3 = -1 := rfl
  have x4 : xem m c (m (100 + c) 2) 4 = -1 := rfl
  have x5 : xem m c (m (100 + c) 2) 5 = m (100 + c) 5 := rfl
  have x6 : xem m c (m (100 + c) 2) 6 = m (100 + c) 6 := rfl
  have x7 : xem m c (m (100 + c) 2) 7 = m (100 + c) 7 := rfl
  have x8 : xem m c (m (100 + c) 2) 8 = m (100 + c) 8 := rfl
  have x9 : xem m c (m (100 + c) 2) 9 = m (100 + c) 9 := rfl
  have x10 : xem m c (m (100 + c) 2) 10 = m (100 + c) 10 := rfl
  unfold wfCab at h ⊢
  rw [x0, x1, x2, x3, x4, x5, x6, x7, x8, x9, x10]
  obtain ⟨g1, g2, g3, g4, g5, g6, g7, g8, g9, g10, g11, g12, g13, g14⟩ := h
  exact ⟨g1, by omega, g3, fun q => by omega, fun _ => rfl, fun q => by omega, fun _ => rfl, fun q => by omega, g9, g10, g11, g12, by omega, g14⟩
theorem arr_keep {m : mS} {c r e : Int} (hc : 0 ≤ c ∧ c < 16) (hr : 0 ≤ r ∧ r < 6) (he : 0 ≤ e ∧ e < 16) : marr m c r 0 3 = m 0 3 ∧ marr m c r 0 4 = m 0 4 ∧ marr m c r (100 + e) 8 = m (100 + e) 8 := by
  have hx : ∀ b, xst m c r b 8 = m (100 + c) 8 := fun b => by unfold xst; simp
  have hy : xem m c (m 1 r) 8 = m (100 + c) 8 := rfl
  have key : ∀ (m' : mS) (x : Int → Int), m' 0 3 = m 0 3 → m' 0 4 = m 0 4 → m' (100 + e) 8 = m (100 + e) 8 → x 8 = m (100 + c) 8 → upr m' (100 + c) x 0 3 = m 0 3 ∧ upr m' (100 + c) x 0 4 = m 0 4 ∧ upr m' (100 + c) x (100 + e) 8 = m (100 + e) 8 := fun m' x k1 k2 k3 k4 => by
    refine ⟨(upr_ne (by omega)).trans k1, (upr_ne (by omega)).trans k2, ?_⟩
    by_cases q : e = c
    · subst q; rw [upr_eq]; exact k4
    · exact (upr_ne (by omega)).trans k3
  unfold marr
  split
  · split
    · rw [mtell_ne (by omega) (by omega), mtell_ne (by omega) (by omega), mtell_ne (by omega) (by omega)]
      exact key _ _ (mrow_ne (by omega) (by omega)) (mrow_ne (by omega) (by omega)) (mrow_ne (by omega) (by omega)) (hx _)
    · exact key _ _ (mrow_ne (by omega) (by omega)) (mrow_ne (by omega) (by omega)) (mrow_ne (by omega) (by omega)) (hx _)
  · exact key _ _ rfl rfl rfl hy
theorem come_keep {m : mS} {N c e : Int} (wC : wfCity m) (h : wfDay m 0 N) (hc : 0 ≤ c ∧ c < m 0 4) (he : 0 ≤ e ∧ e < 16) : mcome m c 0 3 = m 0 3 ∧ mcome m c 0 4 = m 0 4 ∧ mcome m c (100 + e) 8 = m (100 + e) 8 := by
  have h16 := (wfDay_0 h).2.1
  have h60 := wC.1
  unfold mcome
  split
  · next q =>
    split
    · refine ⟨upr_ne (by omega), upr_ne (by omega), ?_⟩
      by_cases z : e = c
      · subst z; rw [upr_eq]; rfl
      · exact upr_ne (by omega)
    · next z =>
      have hX := comer_of h hc (by omega)
      exact arr_keep (by omega) (by have := hX.2.1; omega) he
  · exact ⟨rfl, rfl, rfl⟩
theorem come_wf {m : mS} {N c : Int} (wC : wfCity m) (hN : 0 ≤ N) (h : wfDay m 0 N) (hc : 0 ≤ c ∧ c < m 0 4) : wfDay (mcome m c) 0 N := by
  unfold mcome
  split
  · next q =>
    have hd : m (100 + c) 1 ≠ 2 := by omega
    have h1 := wfD1_of h hd
    split
    · next z => exact wf_put hc h1 (wfCab_xem3 ((wfDay_0 h).2.2.2.2.1 c hc.1 hc.2) z) (by show (0 : Int) ≠ 2; decide)
    · next z =>
      have hX := comer_of h hc (by omega)
      exact wf_arr wC hN h1 hX (btp_ex (h1.2.2.2.1 _ hX.2.1.2.1 (by have := hX.2.1.2.2; have := wC.1; omega)).1.1)
  · exact h
theorem come_frm {m : mS} {N c : Int} (wC : wfCity m) (h : wfDay m 0 N) (hc : 0 ≤ c ∧ c < m 0 4) : frm m (mcome m c) := by
  have h16 := (wfDay_0 h).2.1
  have h60 := wC.1
  unfold mcome
  split
  · split
    · exact frm_upr (by omega)
    · have hX := comer_of h hc (by omega)
      exact frm_arr (by omega) (by have := hX.2.1; omega)
  · exact frm_rf m
theorem wfG_come {m : mS} {N g c : Int} (wC : wfCity m) (hN : 0 ≤ N) (h : wfG m N g) (hc : 0 ≤ c ∧ c < m 0 4) : wfG (mcome m c) N g := by
  obtain ⟨h1, h2, h3⟩ := h
  have h16 := (wfDay_0 h1).2.1
  have k0 := come_keep (e := c) wC h1 hc (by omega)
  refine ⟨come_wf wC (by omega) h1 hc, by rw [k0.1]; exact h2, fun e e1 e2 => ?_⟩
  rw [k0.2.1] at e2
  rw [(come_keep wC h1 hc (e := e) (by omega)).2.2]
  exact h3 e e1 e2
theorem mcs_all {m : mS} {N g : Int} (wC : wfCity m) (hN : 0 ≤ N) (h : wfG m N g) : ∀ n : Nat, (n : Int) ≤ m 0 4 → wfG (mcs m n) N g ∧ frm m (mcs m n) ∧ mcs m n 0 4 = m 0 4 ∧ mcs m n 0 3 = m 0 3
  | 0, _ => ⟨h, frm_rf m, rfl, rfl⟩
  | n + 1, hn => by
    obtain ⟨i1, i2, i3, i4⟩ := mcs_all wC hN h n (by omega)
    have wC2 := wfCity_fr i2 wC
    have hc : 0 ≤ (n : Int) ∧ (n : Int) < mcs m n 0 4 := by omega
    have k0 := come_keep (e := (n : Int)) wC2 i1.1 hc (by have := (wfDay_0 h.1).2.1; omega)
    exact ⟨wfG_come wC2 hN i1 hc, frm_tr i2 (come_frm wC2 i1.1 hc), k0.2.1.trans i3, k0.1.trans i4⟩
theorem min_wf {m : mS} {N g : Int} (wC : wfCity m) (hN : 0 ≤ N) (hg : 0 ≤ g ∧ g < 300) (h : wfG m N g) : wfG (mmin m) N (g + 1) ∧ frm m (mmin m) ∧ mmin m 0 4 = m 0 4 ∧ mmin m 0 3 = m 0 3 + 1 := by
  have h16 := (wfDay_0 h.1).2.1
  have ht := wfG_tk (n := m 0 4) wC hN hg ⟨h16.1, Int.le_refl _⟩ h
  have hf := tk_frm (m := m) (n := m 0 4) h16
  have e4 : mtk m (m 0 4) 0 4 = m 0 4 := mtk_ne (by omega) (by omega)
  obtain ⟨i1, i2, i3, i4⟩ := mcs_all (wfCity_fr hf wC) hN ht (m 0 4).toNat (by rw [e4]; omega)
  exact ⟨i1, frm_tr hf i2, i3.trans e4, i4.trans mtk_3⟩
theorem go_wf {m : mS} {N : Int} (wC : wfCity m) (hN : 0 ≤ N) (h : wfDay m 0 N) : ∀ n : Nat, n ≤ 300 → wfG (mgo m n) N (n : Int) ∧ frm m (mgo m n) ∧ mgo m n 0 3 = m 0 3 + (n : Int)
  | 0, _ => ⟨wfG_0 h, frm_rf m, by show m 0 3 = m 0 3 + ((0 : Nat) : Int); omega⟩
  | n + 1, hn => by
    obtain ⟨i1, i2, i3⟩ := go_wf wC hN h n (by omega)
    obtain ⟨j1, j2, j3, j4⟩ := min_wf (wfCity_fr i2 wC) hN (by omega) i1
    exact ⟨by rw [show ((n + 1 : Nat) : Int) = (n : Int) + 1 by omega]; exact j1, frm_tr i2 j2, by show mmin (mgo m n) 0 3 = _; rw [j4, i3]; omega⟩
def vgo (m : mS) (n : Int) : Prop := 0 < m 0 0 ∧ (1 ≤ n ∧ n ≤ 300)
