/-! ===== cabs brought: the reference, the way back ===== -/
theorem fnd_fr {R : Int} {d x : Int → Int → Int} {sp f c fr : Int → Int} {τ : Int → Nat} (hR : R ≤ 6) (h : fnd R d x sp f c fr τ) {v : Int} (hv : 0 ≤ v ∧ v < 12) : -1 ≤ fr v ∧ fr v < 12 := by
  rcases h.2.2 v hv.1 hv.2 with z | ⟨e, e1, e2, e3, e4, e5, e6⟩
  · omega
  · have := br_V (x := x) hR e e1 e2
    omega
theorem fnd_b {R : Int} {d x : Int → Int → Int} {sp f c fr : Int → Int} {τ : Int → Nat} (hR : R ≤ 6) (hd : ∀ a b : Int, 0 ≤ a → a < R → 0 ≤ b → b < R → d a b ≤ 99) (h : fnd R d x sp f c fr τ) {a : Int} (ha : 0 ≤ a ∧ a < R) (hs : 0 < sp a) {b : Int} (hb : 0 ≤ b ∧ b < R) : c (6 + b) < 1000000 := by
  obtain ⟨e, e1, e2, e3, e4⟩ := br_e a b 0 (by omega) (by omega) (by omega)
  have h9 := h.1 e e1 (decide_eq_true ⟨by omega, by omega, Or.inl e4⟩)
  unfold brT brH brW at h9
  rw [if_pos e4, if_pos e4, if_pos e4, e2, e3] at h9
  have h8 := (h.2.1 a ha.1 (by omega)).2
  unfold st0 at h8
  rw [if_pos ⟨ha.2, hs⟩] at h8
  have := hd a b ha.1 ha.2 hb.1 hb.2
  omega
set_option maxHeartbeats 4000000 in
set_option maxRecDepth 100000 in
theorem lp_omW {l : Launch} {σ : aw_S} {Post : Option Value → aw_S → Prop} {tw cs : Bool} (hR : σ.2.2 = RF tw cs) {m : mS} (hM : cityM σ m) (wC : wfCity m) {x : Int → Int → Int} {sp wa f : Int → Int} {th g0 μ : Int} (hg : 0 ≤ g0 ∧ g0 < m 0 0) (hc : cert (m 0 0) (dm m) x sp wa f th) {τ : Int → Nat} (hfd : fnd (m 0 0) (dm m) x sp f (σ.1 206) (σ.1 207) τ) (hB : ∀ b : Int, 0 ≤ b → b < m 0 0 → σ.1 206 (6 + b) < 1000000) {l1 : Option Value} (hk : ∀ σ2 x1 v lx, fr1 205 σ σ2 → xOK σ2 x1 → pth (m 0 0) (dm m) x x1 (newf f (σ.1 206) (σ.1 206 (6 + g0) - th)) (σ.1 206) τ g0 v → σ.1 207 v = -1 → AW l yX10_oneMore cX10_oneMore 5 (some .int) 1 21 0 0 SH Post SH 0 0 (σ2) 397 [some (.ref 171), l1, some (.int (jI μ)), some (.int (jI v)), lx] [])  : ∀ (n : Nat) (σ1 : aw_S) (v : Int) (lx : Option Value) (x1 : Int → Int → Int), (τ v + 1 ≤ n) → (fr1 205 σ σ1) → (xOK σ1 x1) → (pth (m 0 0) (dm m) x x1 (newf f (σ.1 206) (σ.1 206 (6 + g0) - th)) (σ.1 206) τ g0 v) → AW l yX10_oneMore cX10_oneMore 5 (some .int) 1 21 0 0 SH Post SH 0 0 (σ1) 326 [some (.ref 171), l1, some (.int (jI μ)), some (.int (jI v)), lx] [] := by
  intro n
  induction n with
  | zero =>
    intro σ1 v lx x1 hm f1 hx hpt
    obtain ⟨c1, c2, -⟩ := id hM
    have h6 := wC.1
    have hR : σ1.2.2 = RF tw cs := by rw [f1.2]; exact hR
    have hvb := hpt.2.2.1
    have hfr := fnd_fr h6.2 hfd (v := v) (by omega)
    have e7 : σ1.1 207 v = σ.1 207 v := f1.1 _ _ (by omega)
    obtain ⟨w, hw⟩ : ∃ w, w = σ.1 207 v := ⟨_, rfl⟩
    rw [← hw] at hfr e7
    refine a_ald0 eX10_oneMore_326 ?_
    refine a_getR 52 207 eX10_oneMore_327 fl_X10_118 rfl rfl sh_171 ((congrFun (congrFun hR _) _).trans rf_171_52) ?_
    refine a_ild3 eX10_oneMore_330 ?_
    refine a_iald eX10_oneMore_331 sh_207 rfl (by omega) ?_
    refine a_eqtop (y0 := w) (by exact e7) ?_
    refine a_iconst eX10_oneMore_332 ?_
    refine a_icmp_eq 397 eX10_oneMore_333 (by decide) (by omega) (fun hT333 => ?_) (fun hF333 => ?_)
    · skip
      exact hk σ1 x1 v _ f1 hx hpt (by omega)
    · skip
      exfalso; omega
  | succ n ih =>
    intro σ1 v lx x1 hm f1 hx hpt
    obtain ⟨c1, c2, -⟩ := id hM
    have h6 := wC.1
    have hR : σ1.2.2 = RF tw cs := by rw [f1.2]; exact hR
    have hvb := hpt.2.2.1
    have hfr := fnd_fr h6.2 hfd (v := v) (by omega)
    have e7 : σ1.1 207 v = σ.1 207 v := f1.1 _ _ (by omega)
    obtain ⟨w, hw⟩ : ∃ w, w = σ.1 207 v := ⟨_, rfl⟩
    rw [← hw] at hfr e7
    refine a_ald0 eX10_oneMore_326 ?_
    refine a_getR 52 207 eX10_oneMore_327 fl_X10_118 rfl rfl sh_171 ((congrFun (congrFun hR _) _).trans rf_171_52) ?_
    refine a_ild3 eX10_oneMore_330 ?_
    refine a_iald eX10_oneMore_331 sh_207 rfl (by omega) ?_
    refine a_eqtop (y0 := w) (by exact e7) ?_
    refine a_iconst eX10_oneMore_332 ?_
    refine a_icmp_eq 397 eX10_oneMore_333 (by decide) (by omega) (fun hT333 => ?_) (fun hF333 => ?_)
    · skip
      exact hk σ1 x1 v _ f1 hx hpt (by omega)
    · skip
      refine a_ald0 eX10_oneMore_336 ?_
      refine a_getR 52 207 eX10_oneMore_337 fl_X10_118 rfl rfl sh_171 ((congrFun (congrFun hR _) _).trans rf_171_52) ?_
      refine a_ild3 eX10_oneMore_340 ?_
      refine a_iald eX10_oneMore_341 sh_207 rfl (by omega) ?_
      refine a_eqtop (y0 := w) (by exact e7) ?_
      have hwb : (6 ≤ v ∧ (0 ≤ w ∧ w < m 0 0)) ∨ ((0 ≤ v ∧ v < 6 ∧ v < m 0 0) ∧ (6 ≤ w ∧ w < 6 + m 0 0)) := by
        rcases pth_s h6.2 hc dm_nn hfd hB hpt (by omega) with ⟨z1, z2, -⟩ | ⟨z1, z2, -⟩ <;> rw [← hw] at z2 <;> omega
      refine a_ist4 eX10_oneMore_342 (by decide) aw_n2i ?_
      refine a_ild3 eX10_oneMore_344 ?_
      refine a_bipush eX10_oneMore_345 (by decide) ?_
      refine a_icmp_lt 372 eX10_oneMore_347 (by decide) (by omega) (fun hT347 => ?_) (fun hF347 => ?_)
      · skip
        refine a_ald0 eX10_oneMore_372 ?_
        refine a_getR 50 205 eX10_oneMore_373 fl_X10_112 rfl rfl sh_171 ((congrFun (congrFun hR _) _).trans rf_171_50) ?_
        refine a_bipush eX10_oneMore_376 (by decide) ?_
        refine a_ild3 eX10_oneMore_378 ?_
        refine a_imul eX10_oneMore_379 ?_
        refine a_ild4 eX10_oneMore_380 ?_
        refine a_iadd eX10_oneMore_382 ?_
        refine a_bipush eX10_oneMore_383 (by decide) ?_
        refine a_isub eX10_oneMore_385 ?_
        refine a_dup2 eX10_oneMore_386 rfl rfl ?_
        refine a_iald eX10_oneMore_387 sh_205 rfl (by omega) ?_
        refine a_iconst eX10_oneMore_388 ?_
        refine a_isub eX10_oneMore_389 ?_
        refine a_iast eX10_oneMore_390 sh_205 rfl (by omega) ?_
        refine a_ild4 eX10_oneMore_391 ?_
        refine a_ist3 eX10_oneMore_393 (by decide) aw_n2i ?_
        refine a_goto 326 eX10_oneMore_394 (by decide) ?_
        rcases pth_s h6.2 hc dm_nn hfd hB hpt (by omega) with ⟨z1, -⟩ | ⟨z1, z2, z3, z4, z5⟩
        · omega
        · rw [← hw] at z2 z3 z4 z5
          have e5 : σ1.1 205 (6 * v + w - 6) = x1 v (w - 6) := by rw [show 6 * v + w - 6 = 6 * v + (w - 6) by omega]; exact hx v (w - 6) (by omega) (by omega) (by omega) (by omega)
          refine ih _ w _ (ux x1 v (w - 6) (x1 v (w - 6) - 1)) (by omega) ⟨fun a j q => by rw [rd_si_ne q]; exact f1.1 a j q, f1.2⟩ ?_ z4
          rw [e5]
          exact xOK_u hx (by omega) (by omega) (by omega)
      · skip
        refine a_ald0 eX10_oneMore_350 ?_
        refine a_getR 50 205 eX10_oneMore_351 fl_X10_112 rfl rfl sh_171 ((congrFun (congrFun hR _) _).trans rf_171_50) ?_
        refine a_bipush eX10_oneMore_354 (by decide) ?_
        refine a_ild4 eX10_oneMore_356 ?_
        refine a_imul eX10_oneMore_358 ?_
        refine a_ild3 eX10_oneMore_359 ?_
        refine a_iadd eX10_oneMore_360 ?_
        refine a_bipush eX10_oneMore_361 (by decide) ?_
        refine a_isub eX10_oneMore_363 ?_
        refine a_dup2 eX10_oneMore_364 rfl rfl ?_
        refine a_iald eX10_oneMore_365 sh_205 rfl (by omega) ?_
        refine a_iconst eX10_oneMore_366 ?_
        refine a_iadd eX10_oneMore_367 ?_
        refine a_iast eX10_oneMore_368 sh_205 rfl (by omega) ?_
        refine a_goto 391 eX10_oneMore_369 (by decide) ?_
        refine a_ild4 eX10_oneMore_391 ?_
        refine a_ist3 eX10_oneMore_393 (by decide) aw_n2i ?_
        refine a_goto 326 eX10_oneMore_394 (by decide) ?_
        rcases pth_s h6.2 hc dm_nn hfd hB hpt (by omega) with ⟨z1, z2, z4, z5⟩ | ⟨z1, -⟩
        · rw [← hw] at z2 z4 z5
          have e5 : σ1.1 205 (6 * w + v - 6) = x1 w (v - 6) := by rw [show 6 * w + v - 6 = 6 * w + (v - 6) by omega]; exact hx w (v - 6) (by omega) (by omega) (by omega) (by omega)
          refine ih _ w _ (ux x1 w (v - 6) (x1 w (v - 6) + 1)) (by omega) ⟨fun a j q => by rw [rd_si_ne q]; exact f1.1 a j q, f1.2⟩ ?_ z4
          rw [e5]
          exact xOK_u hx (by omega) (by omega) (by omega)
        · omega

set_option maxHeartbeats 4000000 in
set_option maxRecDepth 100000 in
theorem c_X10_oneMore {l : Launch} {σ : aw_S} {Post : Option Value → aw_S → Prop} {tw cs : Bool} (hR : σ.2.2 = RF tw cs) {m : mS} (hM : cityM σ m) (wC : wfCity m) {x : Int → Int → Int} (hx : xOK σ x) {s0 w0 : Int → Int} {A n : Int} (hI : brI (m 0 0) (dm m) s0 w0 x (σ.1 203) (σ.1 204) A n) (hs0 : ∀ r : Int, 0 ≤ r → r < m 0 0 → s0 r ≤ 99 ∧ w0 r ≤ 99) (hk0 : ∀ σ', frO σ σ' → xOK σ' x → brI (m 0 0) (dm m) s0 w0 x (σ'.1 203) (σ'.1 204) A n → aw_bx ((∀ a : Int, 0 ≤ a → a < m 0 0 → σ'.1 203 a ≤ 0) ∨ (∀ b : Int, 0 ≤ b → b < m 0 0 → σ'.1 204 b ≤ 0)) → Post (some (.int (jI (-1)))) σ') (hk1 : ∀ σ' x' μ, frO σ σ' → xOK σ' x' → brI (m 0 0) (dm m) s0 w0 x' (σ'.1 203) (σ'.1 204) (A + μ) (n + 1) → (0 ≤ μ ∧ μ ≤ 1000000) → Post (some (.int (jI μ))) σ')  : AE l yX10_oneMore cX10_oneMore 5 (some .int) 1 21 0 0 SH SH σ [.ref 171] Post := by
  show AW l yX10_oneMore cX10_oneMore 5 (some .int) 1 21 0 0 SH Post SH 0 0 σ 0 [some (.ref 171), none, none, none, none] []
  obtain ⟨f, th, hc, hf⟩ := aw_ub hI.2.2.2.2.2
  have h6 := wC.1
  refine a_iconst eX10_oneMore_0 ?_
  refine a_ist1 eX10_oneMore_1 (by decide) aw_n2r ?_
  refine lp_om0 hR hM wC hx hI hs0 (fun σ1 lx f1 hv => ?_) _ 0 σ (Nat.le_refl _) (by omega) (frA_rf σ) (fun v v1 v2 => by omega)
  refine a_iconst eX10_oneMore_51 ?_
  refine a_ist1 eX10_oneMore_52 (by decide) aw_n2r ?_
  refine lp_omT hR hM wC hx hI hs0 hc hf (fun σ2 l1 l2 l3 l4 f2 hS2 => ?_) _ 0 σ1 _ _ _ (Nat.le_refl _) (by omega) f1 (srch_0 hv)
  refine a_iconst eX10_oneMore_224 ?_
  refine a_ist1 eX10_oneMore_225 (by decide) aw_n2r ?_
  refine a_iconst eX10_oneMore_226 ?_
  refine a_ist2 eX10_oneMore_227 (by decide) aw_n2i ?_
  have e3 : σ2.1 203 = σ.1 203 := funext (fun j => f2.1 203 j (by omega) (by omega))
  have e4 : σ2.1 204 = σ.1 204 := funext (fun j => f2.1 204 j (by omega) (by omega))
  have hR2 : σ2.2.2 = RF tw cs := by rw [f2.2]; exact hR
  have hM2 := cityM_O (frO_A f2) hM
  have hx2 : xOK σ2 x := xOK_f hx (fun j => f2.1 205 j (by omega) (by omega))
  have hI2 : brI (m 0 0) (dm m) s0 w0 x (σ2.1 203) (σ2.1 204) A n := by rw [e3, e4]; exact hI
  obtain ⟨τ, hfd⟩ := fnd_of h6.2 hc hf hS2
  have hbd : ∀ v : Int, 0 ≤ v → v < 12 → 0 ≤ σ2.1 206 v ∧ σ2.1 206 v ≤ 1000000 := fun v v1 v2 => by
    have h1 := hfd.2.1 v v1 v2
    have h2 := hf v v1 v2
    have h3 := st0_b (R := m 0 0) (sp := σ.1 203) v
    omega
  refine lp_omS (σ := σ2) hR2 hM2 wC hx2 hI2 hs0 hbd (fun best l2 hB => ?_) _ 0 (-1) (Nat.le_refl _) (by omega) (aw_mb (Or.inl ⟨rfl, fun u u1 u2 => by omega⟩))
  have hbr : -1 ≤ best ∧ best < 6 := by
    rcases aw_ub hB with ⟨z1, -⟩ | ⟨z1, -⟩ <;> omega
  have hR := hR2
  refine a_ild1 eX10_oneMore_294 ?_
  refine a_iconst eX10_oneMore_295 ?_
  refine a_icmp_ne 301 eX10_oneMore_296 (by decide) (by omega) (fun hT296 => ?_) (fun hF296 => ?_)
  · skip
    refine a_ald0 eX10_oneMore_301 ?_
    refine a_getR 51 206 eX10_oneMore_302 fl_X10_115 rfl rfl sh_171 ((congrFun (congrFun hR _) _).trans rf_171_51) ?_
    refine a_bipush eX10_oneMore_305 (by decide) ?_
    refine a_ild1 eX10_oneMore_307 ?_
    refine a_iadd eX10_oneMore_308 ?_
    refine a_iald eX10_oneMore_309 sh_206 rfl (by omega) ?_
    refine a_ist2 eX10_oneMore_310 (by decide) aw_n2i ?_
    refine a_ald0 eX10_oneMore_311 ?_
    refine a_getR 49 204 eX10_oneMore_312 fl_X10_109 rfl rfl sh_171 ((congrFun (congrFun hR _) _).trans rf_171_49) ?_
    refine a_ild1 eX10_oneMore_315 ?_
    refine a_dup2 eX10_oneMore_316 rfl rfl ?_
    refine a_iald eX10_oneMore_317 sh_204 rfl (by omega) ?_
    refine a_iconst eX10_oneMore_318 ?_
    refine a_isub eX10_oneMore_319 ?_
    refine a_iast eX10_oneMore_320 sh_204 rfl (by omega) ?_
    refine a_bipush eX10_oneMore_321 (by decide) ?_
    refine a_ild1 eX10_oneMore_323 ?_
    refine a_iadd eX10_oneMore_324 ?_
    refine a_ist3 eX10_oneMore_325 (by decide) aw_n2i ?_
    have hfd2 : fnd (m 0 0) (dm m) x (σ.1 203) f ((aw_si σ2 204 best (σ2.1 204 best - 1)).1 206) ((aw_si σ2 204 best (σ2.1 204 best - 1)).1 207) τ := by rw [uf_sn (by omega), uf_sn (by omega)]; exact hfd
    obtain ⟨⟨y1, y2⟩, ⟨y3, y4⟩, y5⟩ : ((0 ≤ best ∧ best < m 0 0) ∧ (0 < σ2.1 204 best ∧ σ2.1 206 (6 + best) < 1000000) ∧ ∀ u : Int, 0 ≤ u → u < m 0 0 → (0 < σ2.1 204 u ∧ σ2.1 206 (6 + u) < 1000000) → σ2.1 206 (6 + best) ≤ σ2.1 206 (6 + u)) := by
      rcases aw_ub hB with ⟨z1, -⟩ | z1
      · omega
      · exact z1
    rw [e4] at y3
    have hsp : ∃ a : Int, (0 ≤ a ∧ a < m 0 0) ∧ 0 < σ.1 203 a := by
      by_cases q : ∃ a : Int, (0 ≤ a ∧ a < m 0 0) ∧ 0 < σ.1 203 a
      · exact q
      · have := fnd_no h6.2 hc hI.1 dm_nn hS2 (fun a a1 a2 => by
          rcases Int.lt_or_le 0 (σ.1 203 a) with z | z
          · exact absurd ⟨a, ⟨a1, a2⟩, z⟩ q
          · exact z) (b := best) ⟨y1, y2⟩ y3
        omega
    obtain ⟨a9, a91, a92⟩ := hsp
    have hB9 : ∀ b : Int, 0 ≤ b → b < m 0 0 → σ2.1 206 (6 + b) < 1000000 := fun b b1 b2 => fnd_b h6.2 (fun a b a1 a2 b1 b2 => (dm_b wC ⟨a1, a2⟩ ⟨b1, b2⟩).2) hfd a91 a92 ⟨b1, b2⟩
    have hth : th ≤ σ2.1 206 (6 + best) := by
      have h1 := (hc.2.2.2 best y1 y2).1 y3
      have h2 := (hfd.2.1 (6 + best) (by omega) (by omega)).1
      omega
    have hw9 : ∀ b : Int, 0 ≤ b → b < m 0 0 → 0 < σ.1 204 b → σ2.1 206 (6 + best) ≤ σ2.1 206 (6 + b) := fun b b1 b2 b3 => y5 b b1 b2 ⟨by rw [e4]; exact b3, hB9 b b1 b2⟩
    have hN := cert_n (th' := σ2.1 206 (6 + best)) h6 hth hc hfd.1 (fun a a1 a2 => ⟨fun z => by have := (hfd.2.1 a a1 (by omega)).2; unfold st0 at this; rw [if_pos ⟨a2, z⟩] at this; exact this, fun _ => by have := hfd.2.1 a a1 (by omega); have := hf a a1 (by omega); omega⟩) hw9
    have hp0 := pth_0 (τ := τ) (g0 := best) ⟨y1, y2⟩ hI.1 hN y4 (by unfold newf; rw [if_pos (by have := (hc.2.2.2 best y1 y2).1 y3; omega)]) h6.2
    refine lp_omW (σ := aw_si σ2 204 best (σ2.1 204 best - 1)) (by exact hR) (cityM_O ⟨fun a j q => rd_si_ne (by omega), rfl⟩ hM2) wC (x := x) (sp := σ.1 203) (wa := σ.1 204) (f := f) (th := th) (g0 := best) (μ := σ2.1 206 (6 + best)) ⟨y1, y2⟩ hc hfd2 (fun b b1 b2 => by rw [uf_sn (by omega)]; exact hB9 b b1 b2) (fun σ3 x1 v lx f3 hx3 hpt hv => ?_) _ _ (6 + best) _ x (Nat.le_refl _) ⟨fun _ _ _ => rfl, rfl⟩ (xOK_f hx2 (fun j => rd_si_ne (by omega))) (by rw [uf_sn (by omega)]; exact hp0)
    have hR3 : σ3.2.2 = RF tw cs := by rw [f3.2]; exact hR
    rw [uf_sn (by omega)] at hpt hv
    have hfin := pth_e h6 ⟨y1, y2⟩ hI hc hf hfd hth hw9 y3 hpt hv
    have hR := hR3
    have hv6 : 0 ≤ v ∧ v < 6 := by have := hfin.1; omega
    refine a_ald0 eX10_oneMore_397 ?_
    refine a_getR 48 203 eX10_oneMore_398 fl_X10_106 rfl rfl sh_171 ((congrFun (congrFun hR _) _).trans rf_171_48) ?_
    refine a_ild3 eX10_oneMore_401 ?_
    refine a_dup2 eX10_oneMore_402 rfl rfl ?_
    refine a_iald eX10_oneMore_403 sh_203 rfl (by omega) ?_
    refine a_iconst eX10_oneMore_404 ?_
    refine a_isub eX10_oneMore_405 ?_
    refine a_iast eX10_oneMore_406 sh_203 rfl (by omega) ?_
    refine a_ild2 eX10_oneMore_407 ?_
    refine a_iret eX10_oneMore_408 rfl rfl ⟨Nat.zero_le _, Nat.zero_le _⟩ ?_
    have e33 : σ3.1 203 = σ.1 203 := by rw [← e3]; exact funext (fun j => (f3.1 203 j (by omega)).trans (rd_si_ne (by omega)))
    have e34 : σ3.1 204 = uf (σ.1 204) best (σ.1 204 best - 1) := by rw [← e4]; exact (funext (fun j => f3.1 204 j (by omega))).trans uf_si
    refine hk1 _ x1 _ (frO_tr (frO_A f2) ⟨fun a j q => by rw [rd_si_ne (by omega), f3.1 a j (by omega), rd_si_ne (by omega)], f3.2⟩) (xOK_f hx3 (fun j => rd_si_ne (by omega))) ?_ (hbd _ (by omega) (by omega))
    rw [uf_si, uf_sn (by omega), e33, e34]
    exact hfin.2
  · skip
    refine a_iconst eX10_oneMore_299 ?_
    refine a_iret eX10_oneMore_300 rfl rfl ⟨Nat.zero_le _, Nat.zero_le _⟩ ?_
    refine hk0 σ2 (frO_A f2) hx2 hI2 (aw_mb ?_)
    rw [e3, e4]
    by_cases q : ∃ a : Int, (0 ≤ a ∧ a < m 0 0) ∧ 0 < σ.1 203 a
    · obtain ⟨a9, a91, a92⟩ := q
      right
      intro b b1 b2
      rcases Int.lt_or_le 0 (σ.1 204 b) with z | z
      · exfalso
        have h8 := fnd_b h6.2 (fun a b a1 a2 b1 b2 => (dm_b wC ⟨a1, a2⟩ ⟨b1, b2⟩).2) hfd a91 a92 ⟨b1, b2⟩
        rcases aw_ub hB with ⟨-, z2⟩ | ⟨z1, -⟩
        · exact z2 b b1 b2 ⟨by rw [e4]; exact z, h8⟩
        · omega
      · exact z
    · left
      intro a a1 a2
      rcases Int.lt_or_le 0 (σ.1 203 a) with z | z
      · exact absurd ⟨a, ⟨a1, a2⟩, z⟩ q
      · exact z
