/-! ===== a cab sets off: the model ===== -/
theorem aw_ap_comm (a b : Int) : aw_ap a b = aw_ap b a := by unfold aw_ap; split <;> split <;> omega
theorem aw_ap_b {a b : Int} (ha : 0 ≤ a ∧ a ≤ 99) (hb : 0 ≤ b ∧ b ≤ 99) : 0 ≤ aw_ap a b ∧ aw_ap a b ≤ 99 := by unfold aw_ap; split <;> omega
def xdr (m : mS) (c r : Int) : Int → Int := fun f => if f = 1 then 1 else if f = 3 then r else if f = 4 then m 0 3 + aw_ap (m 1 r) (m (100 + c) 2) else m (100 + c) f
noncomputable def mdrive (m : mS) (c r : Int) : mS := if aw_ap (m 1 r) (m (100 + c) 2) = 0 then marr (upr m (100 + c) (xdr m c r)) c r else upr m (100 + c) (xdr m c r)
def vdrive (m : mS) (c r : Int) : Prop := (0 ≤ r ∧ r < m 0 0) ∧ (0 ≤ c ∧ c < m 0 4) ∧ m (100 + c) 1 = 0
theorem dr_D1 {m : mS} {N c r : Int} (h : wfDay m 0 N) (hv : vdrive m c r) : wfD1 (upr m (100 + c) (xdr m c r)) N c :=
  wfD1_upr hv.2.1 (wfD1_of h (by rw [hv.2.2]; decide))
theorem dr_e {m : mS} {c r : Int} {x : Int → Int} {a j : Int} (hc : 0 ≤ c ∧ c < 16) (ha : a < 100) : upr m (100 + c) x a j = m a j := upr_ne (by omega)
theorem dr_X {m : mS} {N c r : Int} (h : wfDay m 0 N) (hv : vdrive m c r) : wfComer (upr m (100 + c) (xdr m c r)) N c r := by
  obtain ⟨v1, v2, v3, v4, v5, v6, v7, v8⟩ := wfDay_0 h
  obtain ⟨h1, h2, h3⟩ := hv
  have h5 := v5 c h2.1 h2.2
  unfold wfCab at h5
  obtain ⟨g1, g2, g3, g4, g5, g6, g7, g8, g9, g10, g11, g12, g13, g14⟩ := h5
  have e : ∀ a j : Int, a < 100 → upr m (100 + c) (xdr m c r) a j = m a j := fun a j ha => upr_ne (by omega)
  unfold wfComer
  rw [e 0 4 (by omega), e 0 0 (by omega), upr_row]
  have x0 : xdr m c r 0 = m (100 + c) 0 := rfl
  have x3 : xdr m c r 3 = r := rfl
  have x5 : xdr m c r 5 = m (100 + c) 5 := rfl
  have x6 : xdr m c r 6 = m (100 + c) 6 := rfl
  have x7 : xdr m c r 7 = m (100 + c) 7 := rfl
  have x8 : xdr m c r 8 = m (100 + c) 8 := rfl
  have x9 : xdr m c r 9 = m (100 + c) 9 := rfl
  have x10 : xdr m c r 10 = m (100 + c) 10 := rfl
  rw [x0, x3, x5, x6, x7, x8, x9, x10]
  exact ⟨h2, ⟨rfl, h1⟩, g1, g9, g10, g11, g12, by omega, g14⟩
theorem dr_wf {m : mS} {N c r : Int} (wC : wfCity m) (hN : 0 ≤ N) (h : wfDay m 0 N) (hv : vdrive m c r) : wfDay (mdrive m c r) 0 N := by
  have hX := dr_X h hv
  have h1 := dr_D1 h hv
  obtain ⟨v1, v2, v3, v4, v5, v6, v7, v8⟩ := wfDay_0 h
  have hfr : frm m (upr m (100 + c) (xdr m c r)) := frm_upr (by have := hv.2.1; omega)
  unfold mdrive
  split
  · exact wf_arr (wfCity_fr hfr wC) hN h1 hX (btp_ex (h1.2.2.2.1 r (by have := hv.1; omega) (by have := hv.1; have := wC.1; omega)).1.1)
  · next q =>
    obtain ⟨q1, q2, q3⟩ := hv
    have h5 := v5 c q2.1 q2.2
    unfold wfCab at h5
    obtain ⟨g1, g2, g3, g4, g5, g6, g7, g8, g9, g10, g11, g12, g13, g14⟩ := h5
    have hp := (wC.2.1 r q1.1 q1.2).1
    have hb := aw_ap_b hp g3
    refine wf_put q2 (wfD1_of h (by rw [q3]; decide)) ?_ (by show (1 : Int) ≠ 2; decide)
    have x0 : xdr m c r 0 = m (100 + c) 0 := rfl
    have x1 : xdr m c r 1 = 1 := rfl
    have x2 : xdr m c r 2 = m (100 + c) 2 := rfl
    have x3 : xdr m c r 3 = r := rfl
    have x4 : xdr m c r 4 = m 0 3 + aw_ap (m 1 r) (m (100 + c) 2) := rfl
    have x5 : xdr m c r 5 = m (100 + c) 5 := rfl
    have x6 : xdr m c r 6 = m (100 + c) 6 := rfl
    have x7 : xdr m c r 7 = m (100 + c) 7 := rfl
    have x8 : xdr m c r 8 = m (100 + c) 8 := rfl
    have x9 : xdr m c r 9 = m (100 + c) 9 := rfl
    have x10 : xdr m c r 10 = m (100 + c) 10 := rfl
    unfold wfCab
    rw [x0, x1, x2, x3, x4, x5, x6, x7, x8, x9, x10]
    exact ⟨g1, by omega, g3, fun _ => q1, fun z => by omega, fun _ => by omega, fun z => by omega, fun z => by omega, g9, g10, g11, g12, by omega, g14⟩
theorem dr_frm {m : mS} {c r : Int} (hc : 0 ≤ c ∧ c < 16) (hr : 0 ≤ r ∧ r < 6) : frm m (mdrive m c r) := by
  unfold mdrive
  split
  · exact frm_tr (frm_upr hc) (frm_arr hc hr)
  · exact frm_upr hc
