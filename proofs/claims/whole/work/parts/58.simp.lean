/-! ===== wishes, people, a new cab: the model ===== -/
theorem wfCab_mono {m : mS} {b N N' c : Int} {x : Int → Int} (hN : N ≤ N') (h : wfCab m b N c x) : wfCab m b N' c x := by
  unfold wfCab at h ⊢
  obtain ⟨g1, g2, g3, g4, g5, g6, g7, g8, g9, g10, g11, g12, g13, g14⟩ := h
  exact ⟨g1, g2, g3, g4, g5, g6, g7, g8, g9, by omega, by omega, by omega, g13, g14⟩
theorem wfDay_mono {m : mS} {b N N' : Int} (hN : N ≤ N') (h : wfDay m b N) : wfDay m b N' := by
  obtain ⟨v1, v2, v3, v4, v5, v6, v7, v8⟩ := h
  exact ⟨by omega, v2, v3, v4, fun c c1 c2 => wfCab_mono hN (v5 c c1 c2), v6, v7, v8⟩
theorem wfD1_mono {m : mS} {N N' c : Int} (hN : N ≤ N') (h : wfD1 m N c) : wfD1 m N' c := by
  obtain ⟨v1, v2, v3, v4, v5, v6, v7, v8⟩ := h
  exact ⟨by omega, v2, v3, v4, fun c c1 c2 c3 => wfCab_mono hN (v5 c c1 c2 c3), v6, v7, v8⟩
/-- the cab c stays where it is -/
theorem wf_same {m : mS} {N c : Int} {x : Int → Int} (wC : wfCity m) (hc : 0 ≤ c ∧ c < m 0 4) (h : wfDay m 0 N) (hx : wfCab m 0 N c x) (h1 : x 1 = m (100 + c) 1) (h3 : x 3 = m (100 + c) 3) : wfDay (upr m (100 + c) x) 0 N := by
  obtain ⟨v1, v2, v3, v4, v5, v6, v7, v8⟩ := wfDay_0 h
  have h60 := wC.1
  have u : ∀ b : Int, b < 100 ∨ 116 ≤ b → upr m (100 + c) x b = m b := fun b hb => upr_rne (by omega)
  have u0 := u 0 (by omega)
  have uc : ∀ e : Int, upr m (100 + c) x (100 + e) 1 = m (100 + e) 1 ∧ upr m (100 + c) x (100 + e) 3 = m (100 + e) 3 := fun e => by
    by_cases q : e = c
    · subst q; rw [upr_row]; exact ⟨h1, h3⟩
    · rw [upr_rne (by omega)]; exact ⟨rfl, rfl⟩
  refine wfDay_of0 ⟨by rw [u0]; exact v1, by rw [u0]; exact v2, by rw [u0]; exact v3, fun r r1 r2 => ?_, fun e e1 e2 => ?_, fun r k r1 r2 k1 k2 => ?_, fun r k j r1 r2 k1 k2 j1 j2 q => ?_, fun e e1 e2 e3 => ?_⟩
  · rw [u 10 (by omega), u 11 (by omega), u0, u 2 (by omega), u 3 (by omega)]; exact v4 r r1 r2
  · rw [u0] at e2
    refine wfCab_m (m := m) (by rw [u0]) (by rw [u0]) (fun r => by rw [u 1 (by omega)]) ?_
    by_cases q : e = c
    · subst q; rw [upr_row]; exact hx
    · rw [upr_rne (by omega)]; exact v5 e e1 e2
  · rw [u 10 (by omega)] at k2
    rw [u (200 + r) (by omega), u0, (uc _).1, (uc _).2]
    exact v6 r k r1 r2 k1 k2
  · rw [u 10 (by omega)] at k2 j2
    rw [u (200 + r) (by omega)] at q
    exact v7 r k j r1 r2 k1 k2 j1 j2 q
  · rw [u0] at e2
    rw [(uc _).1] at e3
    have h5 := v5 e e1 e2
    unfold wfCab at h5
    have hr := h5.2.2.2.1 (Or.inr e3)
    rw [(uc _).2, u 10 (by omega), u (200 + m (100 + e) 3) (by omega)]
    exact v8 e e1 e2 e3
def xwi (m : mS) (c r : Int) : Int → Int := fun f => if f = 9 then r else m (100 + c) f
def mwish (m : mS) (c r : Int) : mS := upr m (100 + c) (xwi m c r)
def vwish (m : mS) (c r : Int) : Prop := ((0 ≤ c ∧ c < m 0 4) ∧ m (100 + c) 1 = 2) ∧ m (100 + c) 3 ≠ r ∧ (r = -1 ∨ (0 ≤ r ∧ r < m 0 0))
theorem wish_wf {m : mS} {N c r : Int} (wC : wfCity m) (h : wfDay m 0 N) (hv : vwish m c r) : wfDay (mwish m c r) 0 N := by
  obtain ⟨⟨h1, h2⟩, h3, h4⟩ := hv
  refine wf_same wC h1 h ?_ rfl rfl
  have h5 := (wfDay_0 h).2.2.2.2.1 c h1.1 h1.2
  have x0 : xwi m c r 0 = m (100 + c) 0 := rfl
  have x1 : xwi m c r 1 = m (100 + c) 1 := rfl
  have x2 : xwi m c r 2 = m (100 + c) 2 := rfl
  have x3 : xwi m c r 3 = m (100 + c) 3 := rfl
  have x4 : xwi m c r 4 = m (100 + c) 4 := rfl
  have x5 : xwi m c r 5 = m (100 + c) 5 := rfl
  have x6 : xwi m c r 6 = m (100 + c) 6 := rfl
  have x7 : xwi m c r 7 = m (100 + c) 7 := rfl
  have x8 : xwi m c r 8 = m (100 + c) 8 := rfl
  have x9 : xwi m c r 9 = r := rfl
  have x10 : xwi m c r 10 = m (100 + c) 10 := rfl
  unfold wfCab at h5 ⊢
  rw [x0, x1, x2, x3, x4, x5, x6, x7, x8, x9, x10]
  obtain ⟨g1, g2, g3, g4, g5, g6, g7, g8, g9, g10, g11, g12, g13, g14⟩ := h5
  exact ⟨g1, g2, g3, g4, g5, g6, g7, g8, g9, g10, g11, g12, by omega, g14⟩
theorem wish_frm {m : mS} {c r : Int} (hc : 0 ≤ c ∧ c < 16) : frm m (mwish m c r) := frm_upr hc
def mpeople (m : mS) (r v : Int) : mS := up m 11 r v
def vpeople (m : mS) (r v : Int) : Prop := (0 ≤ r ∧ r < m 0 0) ∧ (0 ≤ v ∧ v ≤ 20)
theorem people_frm {m : mS} {r v : Int} : frm m (mpeople m r v) := fun a j h1 h2 h3 => up_ne (by omega)
theorem people_wf {m : mS} {N r v : Int} (wC : wfCity m) (h : wfDay m 0 N) (hv : vpeople m r v) : wfDay (mpeople m r v) 0 N := by
  obtain ⟨v1, v2, v3, v4, v5, v6, v7, v8⟩ := wfDay_0 h
  have h60 := wC.1
  have u : ∀ a j : Int, a ≠ 11 → mpeople m r v a j = m a j := fun a j q => up_ne (by omega)
  have ur : ∀ a : Int, a ≠ 11 → mpeople m r v a = m a := fun a q => funext (fun j => u a j q)
  refine wfDay_of0 ⟨by rw [u 0 3 (by omega)]; exact v1, by rw [u 0 4 (by omega)]; exact v2, by rw [u 0 5 (by omega)]; exact v3, fun q q1 q2 => ?_, fun e e1 e2 => ?_, fun q k q1 q2 k1 k2 => ?_, fun q k j q1 q2 k1 k2 j1 j2 z => ?_, fun e e1 e2 e3 => ?_⟩
  · rw [ur 10 (by omega), ur 0 (by omega), ur 2 (by omega), ur 3 (by omega)]
    have h4 := v4 q q1 q2
    refine ⟨h4.1, ?_, h4.2.2⟩
    show 0 ≤ (if (11 : Int) = 11 ∧ q = r then v else m 11 q) ∧ (if (11 : Int) = 11 ∧ q = r then v else m 11 q) ≤ 20
    split
    · exact hv.2
    · exact h4.2.1
  · rw [ur 0 (by omega)] at e2
    rw [ur _ (by omega)]
    exact wfCab_m (by rw [ur 0 (by omega)]) (by rw [ur 0 (by omega)]) (fun z => by rw [ur 1 (by omega)]) (v5 e e1 e2)
  · rw [ur 10 (by omega)] at k2
    have h6 := v6 q k q1 q2 k1 k2
    rw [ur 0 (by omega), ur (200 + q) (by omega), ur (100 + m (200 + q) k) (by omega)]
    exact h6
  · rw [ur 10 (by omega)] at k2 j2
    rw [ur (200 + q) (by omega)] at z
    exact v7 q k j q1 q2 k1 k2 j1 j2 z
  · rw [ur 0 (by omega)] at e2
    rw [ur (100 + e) (by omega)] at e3 ⊢
    have h5 := v5 e e1 e2
    unfold wfCab at h5
    have hr := h5.2.2.2.1 (Or.inr e3)
    rw [ur 10 (by omega), ur (200 + m (100 + e) 3) (by omega)]
    exact v8 e e1 e2 e3
theorem dayC_people {σ σ' : aw_S} {m : mS} {r v : Int} (h : dayC σ 21 0 m) (h16 : m 0 4 ≤ 16) (ho : ∀ (a : Nat) (j : Int), ¬ (a = 31 ∧ j = r) → σ'.1 a j = σ.1 a j) (hx : σ'.1 31 r = v) : dayC σ' 21 0 (mpeople m r v) := by
  obtain ⟨d1, d2, d3, d4, d5, d6, d7⟩ := h
  have u : ∀ a j : Int, a ≠ 11 → mpeople m r v a j = m a j := fun a j q => up_ne (by omega)
  refine ⟨?_, ?_, ?_, fun q q1 q2 => ⟨?_, ?_⟩, fun e f e1 e2 f1 f2 => ?_, fun q k q1 q2 k1 k2 => ?_, fun i w i1 i2 w1 w2 => ?_⟩
  · rw [u 0 3 (by omega), ho _ _ (by omega)]; exact d1
  · rw [u 0 4 (by omega), ho _ _ (by omega)]; exact d2
  · rw [u 0 5 (by omega), ho _ _ (by omega)]; exact d3
  · rw [u _ q (by omega), ho _ _ (by omega)]; exact (d4 q q1 q2).1
  · by_cases z : q = r
    · subst z; exact hx.trans up_eq.symm
    · rw [ho _ _ (by omega)]; exact ((d4 q q1 q2).2).trans (up_ne (by omega)).symm
  · rw [u 0 4 (by omega)] at e2
    rw [u _ _ (by omega), ho _ _ (by omega)]; exact d5 e f e1 e2 f1 f2
  · rw [u _ _ (by omega)] at k2
    rw [u _ _ (by omega), ho _ _ (by omega)]; exact d6 q k q1 q2 k1 k2
  · rw [u 0 5 (by omega)] at i2
    rw [u _ _ (by omega), ho _ _ (by omega)]; exact d7 i w i1 i2 w1 w2
theorem dayM_people {σ σ' : aw_S} {m : mS} {r v : Int} (h : dayM σ m) (ho : ∀ (a : Nat) (j : Int), ¬ (a = 186 ∧ j = r) → σ'.1 a j = σ.1 a j) (hx : σ'.1 186 r = v) : dayM σ' (mpeople m r v) := by
  obtain ⟨d1, d2, d3, d4, d5, d6, d7⟩ := h
  have u : ∀ a j : Int, a ≠ 11 → mpeople m r v a j = m a j := fun a j q => up_ne (by omega)
  have ur : ∀ a : Int, a ≠ 11 → mpeople m r v a = m a := fun a q => funext (fun j => u a j q)
  have e182 : σ'.1 182 = σ.1 182 := funext (fun j => ho _ _ (by omega))
  refine ⟨?_, ?_, ?_, fun q q1 q2 => ⟨?_, ?_⟩, fun e e1 e2 => ?_, fun q k q1 q2 k1 k2 => ?_, fun i w i1 i2 w1 w2 => ?_⟩
  · rw [u 0 3 (by omega), ho _ _ (by omega)]; exact d1
  · rw [u 0 4 (by omega), ho _ _ (by omega)]; exact d2
  · rw [u 0 5 (by omega), ho _ _ (by omega)]; exact d3
  · rw [u _ q (by omega), ho _ _ (by omega)]; exact (d4 q q1 q2).1
  · by_cases z : q = r
    · subst z; exact hx.trans up_eq.symm
    · rw [ho _ _ (by omega)]; exact ((d4 q q1 q2).2).trans (up_ne (by omega)).symm
  · rw [u 0 4 (by omega)] at e2
    rw [ur _ (by omega), e182]; exact d5 e e1 e2
  · rw [u _ _ (by omega)] at k2
    rw [u _ _ (by omega), ho _ _ (by omega)]; exact d6 q k q1 q2 k1 k2
  · rw [u 0 5 (by omega)] at i2
    rw [u _ _ (by omega), ho _ _ (by omega)]; exact d7 i w i1 i2 w1 w2
def xcab (z p : Int) : Int → Int := fun f => if f = 0 then z else if f = 2 then p else if f = 3 ∨ f = 4 ∨ f = 5 ∨ f = 6 ∨ f = 9 then -1 else 0
def mcab (m : mS) (z p : Int) : mS := fun a j => if a = 0 ∧ j = 4 then m 0 4 + 1 else if a = 100 + m 0 4 then xcab z p j else m a j
def vcab (m : mS) (z p : Int) : Prop := 0 < m 0 0 ∧ (0 ≤ z ∧ z ≤ 3) ∧ (0 ≤ p ∧ p ≤ 99) ∧ m 0 4 < 16
theorem mcab_n {m : mS} {z p : Int} : mcab m z p 0 4 = m 0 4 + 1 := if_pos ⟨rfl, rfl⟩
theorem mcab_c {m : mS} {z p j : Int} (h : 0 ≤ m 0 4) : mcab m z p (100 + m 0 4) j = xcab z p j := by unfold mcab; rw [if_neg (by omega), if_pos rfl]
theorem mcab_ne {m : mS} {z p a j : Int} (h : ¬ (a = 0 ∧ j = 4)) (h2 : a ≠ 100 + m 0 4) : mcab m z p a j = m a j := by unfold mcab; rw [if_neg h, if_neg h2]
theorem cab_frm {m : mS} {z p : Int} (h : 0 ≤ m 0 4 ∧ m 0 4 ≤ 16) : frm m (mcab m z p) := fun a j h1 h2 h3 => mcab_ne (by omega) (by omega)
theorem wfCab_xcab {m : mS} {N c z p : Int} (hN : 0 ≤ N) (hz : 0 ≤ z ∧ z ≤ 3) (hp : 0 ≤ p ∧ p ≤ 99) : wfCab m 0 N c (xcab z p) := by
  have x0 : xcab z p 0 = z := rfl
  have x1 : xcab z p 1 = 0 := rfl
  have x2 : xcab z p 2 = p := rfl
  have x3 : xcab z p 3 = -1 := rfl
  have x4 : xcab z p 4 = -1 := rfl
  have x5 : xcab z p 5 = -1 := rfl
  have x6 : xcab z p 6 = -1 := rfl
  have x7 : xcab z p 7 = 0 := rfl
  have x8 : xcab z p 8 = 0 := rfl
  have x9 : xcab z p 9 = -1 := rfl
  have x10 : xcab z p 10 = 0 := rfl
  unfold wfCab
  rw [x0, x1, x2, x3, x4, x5, x6, x7, x8, x9, x10]
  exact ⟨hz, by omega, hp, fun q => by omega, fun _ => rfl, fun q => by omega, fun _ => rfl, fun q => by omega, by omega, by omega, by omega, by omega, Or.inl rfl, Or.inl rfl⟩
theorem cab_wf {m : mS} {N z p : Int} (wC : wfCity m) (hN : 0 ≤ N) (h : wfDay m 0 N) (hv : vcab m z p) : wfDay (mcab m z p) 0 N := by
  obtain ⟨v1, v2, v3, v4, v5, v6, v7, v8⟩ := wfDay_0 h
  obtain ⟨h1, h2, h3, h4⟩ := hv
  have h60 := wC.1
  have ur : ∀ a : Int, a ≠ 0 → a ≠ 100 + m 0 4 → mcab m z p a = m a := fun a q q2 => funext (fun j => mcab_ne (by omega) q2)
  have u0 : ∀ j : Int, j ≠ 4 → mcab m z p 0 j = m 0 j := fun j q => mcab_ne (by omega) (by omega)
  refine wfDay_of0 ⟨by rw [u0 3 (by omega)]; exact v1, by rw [mcab_n]; omega, by rw [u0 5 (by omega)]; exact v3, fun q q1 q2 => ?_, fun e e1 e2 => ?_, fun q k q1 q2 k1 k2 => ?_, fun q k j q1 q2 k1 k2 j1 j2 y => ?_, fun e e1 e2 e3 => ?_⟩
  · rw [ur 10 (by omega) (by omega), ur 11 (by omega) (by omega), u0 0 (by omega), ur 2 (by omega) (by omega), ur 3 (by omega) (by omega)]; exact v4 q q1 q2
  · rw [mcab_n] at e2
    refine wfCab_m (m := m) (u0 0 (by omega)) (u0 3 (by omega)) (fun r => by rw [ur 1 (by omega) (by omega)]) ?_
    by_cases q : e = m 0 4
    · subst q
      rw [show mcab m z p (100 + m 0 4) = xcab z p from funext (fun j => mcab_c (by omega))]
      exact wfCab_xcab hN h2 h3
    · rw [ur _ (by omega) (by omega)]; exact v5 e e1 (by omega)
  · rw [ur 10 (by omega) (by omega)] at k2
    have h6 := v6 q k q1 q2 k1 k2
    rw [mcab_n, ur (200 + q) (by omega) (by omega), ur (100 + m (200 + q) k) (by omega) (by omega)]
    exact ⟨by omega, h6.2⟩
  · rw [ur 10 (by omega) (by omega)] at k2 j2
    rw [ur (200 + q) (by omega) (by omega)] at y
    exact v7 q k j q1 q2 k1 k2 j1 j2 y
  · rw [mcab_n] at e2
    by_cases q : e = m 0 4
    · subst q
      rw [mcab_c (by omega)] at e3
      exact absurd e3 (by show (0 : Int) ≠ 2; decide)
    · rw [ur (100 + e) (by omega) (by omega)] at e3 ⊢
      have h5 := v5 e e1 (by omega)
      unfold wfCab at h5
      have hr := h5.2.2.2.1 (Or.inr e3)
      rw [ur 10 (by omega) (by omega), ur (200 + m (100 + e) 3) (by omega) (by omega)]
      exact v8 e e1 (by omega) e3
theorem dayC_ncab {σ σ' : aw_S} {m : mS} {z p : Int} (h : dayC σ 21 0 m) (hc : 0 ≤ m 0 4 ∧ m 0 4 < 16) (ho : ∀ (a : Nat) (j : Int), ¬ (a = 21 ∧ j = 1) → a ≠ 21 + 12 + (m 0 4).toNat → σ'.1 a j = σ.1 a j) (h1 : σ'.1 21 1 = m 0 4 + 1) (hx : ∀ f : Int, 0 ≤ f → f < 11 → σ'.1 (21 + 12 + (m 0 4).toNat) f = xcab z p f) : dayC σ' 21 0 (mcab m z p) := by
  obtain ⟨d1, d2, d3, d4, d5, d6, d7⟩ := h
  have u : ∀ a j : Int, ¬ (a = 0 ∧ j = 4) → a ≠ 100 + m 0 4 → mcab m z p a j = m a j := fun a j q q2 => mcab_ne q q2
  refine ⟨?_, ?_, ?_, fun q q1 q2 => ?_, fun e f e1 e2 f1 f2 => ?_, fun q k q1 q2 k1 k2 => ?_, fun i w i1 i2 w1 w2 => ?_⟩
  · rw [u 0 3 (by omega) (by omega), ho _ _ (by omega) (by omega)]; exact d1
  · rw [mcab_n]; exact h1
  · rw [u 0 5 (by omega) (by omega), ho _ _ (by omega) (by omega)]; exact d3
  · rw [u _ q (by omega) (by omega), u _ q (by omega) (by omega), ho _ _ (by omega) (by omega), ho _ _ (by omega) (by omega)]; exact d4 q q1 q2
  · rw [mcab_n] at e2
    by_cases y : e = m 0 4
    · subst y
      rw [Int.zero_add, mcab_c (by omega)]; exact hx f f1 f2
    · rw [u _ _ (by omega) (by omega), ho _ _ (by omega) (by omega)]; exact d5 e f e1 (by omega) f1 f2
  · rw [u _ _ (by omega) (by omega)] at k2
    rw [u _ _ (by omega) (by omega), ho _ _ (by omega) (by omega)]; exact d6 q k q1 q2 k1 k2
  · rw [u 0 5 (by omega) (by omega)] at i2
    rw [u _ _ (by omega) (by omega), ho _ _ (by omega) (by omega)]; exact d7 i w i1 i2 w1 w2
theorem dayM_ncab {σ σ' : aw_S} {m : mS} {z p : Int} (h : dayM σ m) (hc : 0 ≤ m 0 4 ∧ m 0 4 < 16) (ho : ∀ (a : Nat) (j : Int), ¬ (a = 171 ∧ j = 22) → ¬ (a = 182 ∧ 11 * m 0 4 ≤ j ∧ j < 11 * m 0 4 + 11) → σ'.1 a j = σ.1 a j) (h1 : σ'.1 171 22 = m 0 4 + 1) (hx : cabM (σ'.1 182) (11 * m 0 4) (xcab z p)) : dayM σ' (mcab m z p) := by
  obtain ⟨d1, d2, d3, d4, d5, d6, d7⟩ := h
  have u : ∀ a j : Int, ¬ (a = 0 ∧ j = 4) → a ≠ 100 + m 0 4 → mcab m z p a j = m a j := fun a j q q2 => mcab_ne q q2
  refine ⟨?_, ?_, ?_, fun q q1 q2 => ?_, fun e e1 e2 => ?_, fun q k q1 q2 k1 k2 => ?_, fun i w i1 i2 w1 w2 => ?_⟩
  · rw [u 0 3 (by omega) (by omega), ho _ _ (by omega) (by omega)]; exact d1
  · rw [mcab_n]; exact h1
  · rw [u 0 5 (by omega) (by omega), ho _ _ (by omega) (by omega)]; exact d3
  · rw [u _ q (by omega) (by omega), u _ q (by omega) (by omega), ho _ _ (by omega) (by omega), ho _ _ (by omega) (by omega)]; exact d4 q q1 q2
  · rw [mcab_n] at e2
    by_cases y : e = m 0 4
    · subst y
      rw [Int.zero_add, show mcab m z p (100 + m 0 4) = xcab z p from funext (fun j => mcab_c (by omega))]; exact hx
    · rw [show mcab m z p (0 + 100 + e) = m (0 + 100 + e) from funext (fun j => u _ j (by omega) (by omega))]
      have := d5 e e1 (by omega)
      unfold cabM at this ⊢
      simp only [ho 182 (11 * e) (by omega) (by omega), ho 182 (11 * e + 9) (by omega) (by omega), ho 182 (11 * e + 1) (by omega) (by omega), ho 182 (11 * e + 2) (by omega) (by omega), ho 182 (11 * e + 3) (by omega) (by omega), ho 182 (11 * e + 4) (by omega) (by omega), ho 182 (11 * e + 5) (by omega) (by omega), ho 182 (11 * e + 6) (by omega) (by omega), ho 182 (11 * e + 7) (by omega) (by omega), ho 182 (11 * e + 8) (by omega) (by omega), ho 182 (11 * e + 10) (by omega) (by omega)]
      exact this
  · rw [u _ _ (by omega) (by omega)] at k2
    rw [u _ _ (by omega) (by omega), ho _ _ (by omega) (by omega)]; exact d6 q k q1 q2 k1 k2
  · rw [u 0 5 (by omega) (by omega)] at i2
    rw [u _ _ (by omega) (by omega), ho _ _ (by omega) (by omega)]; exact d7 i w i1 i2 w1 w2
