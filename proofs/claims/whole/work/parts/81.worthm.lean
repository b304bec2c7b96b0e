/-- the reference holds the chances -/
def chM (σ : aw_S) (m : mS) : Prop := ∀ r : Int, 0 ≤ r → r < 6 → σ.1 187 (3 * r) = m 13 r ∧ σ.1 187 (3 * r + 1) = m 14 r ∧ σ.1 187 (3 * r + 2) = m 15 r
/-- the reference: the worths' own cells alone have changed -/
def frX (σ σ' : aw_S) : Prop := (∀ (a : Nat) (j : Int), ¬ (a = 171 ∧ j = 47) → σ'.1 a j = σ.1 a j) ∧ (∀ (a : Nat) (j : Int), a ≠ 201 → a ≠ 202 → σ'.2.1 a j = σ.2.1 a j) ∧ σ'.2.2 = σ.2.2
theorem frX_rf (σ : aw_S) : frX σ σ := ⟨fun _ _ _ => rfl, fun _ _ _ _ => rfl, rfl⟩
theorem frX_tr {σ σ1 σ2 : aw_S} (h1 : frX σ σ1) (h2 : frX σ1 σ2) : frX σ σ2 := ⟨fun a j h => (h2.1 a j h).trans (h1.1 a j h), fun a j h q => (h2.2.1 a j h q).trans (h1.2.1 a j h q), h2.2.2.trans h1.2.2⟩
def tbM (σ : aw_S) (m : mS) (L : Nat) : Prop := ∀ (k : Nat) (r n : Int), k < L → 0 ≤ r → r < m 0 0 → 0 ≤ n → n < 10 → σ.2.1 201 ((10 * r + n) * 121 + (k : Int)) = wW m (ahd m) k r n
def goM (σ : aw_S) (m : mS) (L : Nat) : Prop := ∀ (k : Nat) (r : Int), k < L → 0 ≤ r → r < m 0 0 → σ.2.1 202 (121 * r + (k : Int)) = gvalM m (m 1 r) k
theorem cityM_X {σ σ' : aw_S} {m : mS} (h : frX σ σ') (hM : cityM σ m) : cityM σ' m := by
  unfold cityM at hM ⊢
  simp only [fun j => h.1 178 j (by omega), fun j => h.1 179 j (by omega), fun j => h.1 180 j (by omega), fun j => h.1 181 j (by omega), h.1 171 14 (by omega), h.1 171 16 (by omega), h.1 171 20 (by omega)]
  exact hM
theorem dayM_X {σ σ' : aw_S} {m : mS} (h : frX σ σ') (hM : dayM σ m) : dayM σ' m := by
  have e : ∀ a : Nat, a ≠ 171 → σ'.1 a = σ.1 a := fun a ha => funext (fun j => h.1 a j (by omega))
  unfold dayM at hM ⊢
  rw [h.1 171 21 (by omega), h.1 171 22 (by omega), h.1 171 26 (by omega), e 182 (by omega), e 183 (by omega), e 184 (by omega), e 185 (by omega), e 186 (by omega)]
  exact hM
theorem chM_X {σ σ' : aw_S} {m : mS} (h : frX σ σ') (hH : chM σ m) : chM σ' m := fun r r1 r2 => by
  rw [h.1 187 _ (by omega), h.1 187 _ (by omega), h.1 187 _ (by omega)]
  exact hH r r1 r2
theorem rl_sl {σ : aw_S} {a : Nat} {k v : Int} {b : Nat} {j : Int} : (aw_sl σ a k v).2.1 b j = if b = a ∧ j = k then v else σ.2.1 b j := rfl
theorem rl_sl_eq {σ : aw_S} {a : Nat} {k v : Int} : (aw_sl σ a k v).2.1 a k = v := if_pos ⟨rfl, rfl⟩
set_option maxHeartbeats 4000000 in
set_option maxRecDepth 100000 in
theorem c_X10_worthOf {l : Launch} {σ : aw_S} {Post : Option Value → aw_S → Prop} {tw cs : Bool} (hR : σ.2.2 = RF tw cs) {r n1 k : Int} (hr : (0 ≤ r ∧ r < 6) ∧ (0 ≤ n1 ∧ n1 < 10) ∧ (0 ≤ k ∧ k ≤ 120)) (hk : Post (some (.long (jL (σ.2.1 201 ((10 * r + n1) * 121 + k))))) σ) : AE l yX10_worthOf cX10_worthOf 4 (some .long) 0 0 0 0 SH SH σ [.ref 171, .int (jI r), .int (jI n1), .int (jI k)] Post := by
  show AW l yX10_worthOf cX10_worthOf 4 (some .long) 0 0 0 0 SH Post SH 0 0 σ 0 [some (.ref 171), some (.int (jI r)), some (.int (jI n1)), some (.int (jI k))] []
  refine a_ald0 eX10_worthOf_0 ?_
  refine a_getR 45 201 eX10_worthOf_1 fl_X10_100 rfl rfl sh_171 ((congrFun (congrFun hR _) _).trans rf_171_45) ?_
  refine a_bipush eX10_worthOf_4 (by decide) ?_
  refine a_ild1 eX10_worthOf_6 ?_
  refine a_imul eX10_worthOf_7 ?_
  refine a_ild2 eX10_worthOf_8 ?_
  refine a_iadd eX10_worthOf_9 ?_
  refine a_bipush eX10_worthOf_10 (by decide) ?_
  refine a_imul eX10_worthOf_12 ?_
  refine a_ild3 eX10_worthOf_13 ?_
  refine a_iadd eX10_worthOf_14 ?_
  refine a_lald eX10_worthOf_15 sh_201 rfl (by omega) ?_
  refine a_lret eX10_worthOf_16 rfl rfl ⟨Nat.zero_le _, Nat.zero_le _⟩ ?_
  exact hk

set_option maxHeartbeats 4000000 in
set_option maxRecDepth 100000 in
theorem c_X10_aheadAt {l : Launch} {σ : aw_S} {Post : Option Value → aw_S → Prop} {tw cs : Bool} (hR : σ.2.2 = RF tw cs) {m : mS} (hM : cityM σ m) (wC : wfCity m) {N : Int} (hM2 : dayM σ m) (wD : wfDay m 0 N) (hN : 0 ≤ N ∧ N ≤ 1000) {r : Int} (hr : 0 ≤ r ∧ r < 6) (hk : Post (some (.int (jI (ahd m r)))) σ) : AE l yX10_aheadAt cX10_aheadAt 2 (some .int) 0 0 0 0 SH SH σ [.ref 171, .int (jI r)] Post := by
  show AW l yX10_aheadAt cX10_aheadAt 2 (some .int) 0 0 0 0 SH Post SH 0 0 σ 0 [some (.ref 171), some (.int (jI r))] []
  obtain ⟨c1, c2, c3, c4, c5, c6, c7⟩ := id hM
  obtain ⟨w1, w2, w3, w4, w5, w6, w7, w8⟩ := id wC
  obtain ⟨d1, d2, d3, d4, d5, d6, d7⟩ := id hM2
  obtain ⟨v1, v2, v3, v4, v5, v6, v7, v8⟩ := id wD
  simp only [Int.zero_add] at d4 d5 d6 d7 v4 v5 v6 v7 v8
  have e4 := d4 r (by omega) (by omega)
  have w4 := v4 r (by omega) (by omega)
  refine a_ald0 eX10_aheadAt_0 ?_
  refine a_getR 25 184 eX10_aheadAt_1 fl_X10_48 rfl rfl sh_171 ((congrFun (congrFun hR _) _).trans rf_171_25) ?_
  refine a_ild1 eX10_aheadAt_4 ?_
  refine a_iald eX10_aheadAt_5 sh_184 rfl (by omega) ?_
  refine a_eqtop (y0 := m 10 r) (by exact e4.1) ?_
  refine a_bipush eX10_aheadAt_6 (by decide) ?_
  refine a_icmp_ge 20 eX10_aheadAt_8 (by decide) (by omega) (fun hT8 => ?_) (fun hF8 => ?_)
  · skip
    refine a_bipush eX10_aheadAt_20 (by decide) ?_
    refine a_iret eX10_aheadAt_22 rfl rfl ⟨Nat.zero_le _, Nat.zero_le _⟩ ?_
    rw [show ahd m r = 9 from if_neg (by omega)] at hk
    exact hk
  · skip
    refine a_ald0 eX10_aheadAt_11 ?_
    refine a_getR 25 184 eX10_aheadAt_12 fl_X10_48 rfl rfl sh_171 ((congrFun (congrFun hR _) _).trans rf_171_25) ?_
    refine a_ild1 eX10_aheadAt_15 ?_
    refine a_iald eX10_aheadAt_16 sh_184 rfl (by omega) ?_
    refine a_eqtop (y0 := m 10 r) (by exact e4.1) ?_
    refine a_goto 22 eX10_aheadAt_17 (by decide) ?_
    refine a_iret eX10_aheadAt_22 rfl rfl ⟨Nat.zero_le _, Nat.zero_le _⟩ ?_
    rw [show ahd m r = m 10 r from if_pos (by omega)] at hk
    exact hk

set_option maxHeartbeats 4000000 in
set_option maxRecDepth 100000 in
theorem c_X10_worthFrom {l : Launch} {σ : aw_S} {Post : Option Value → aw_S → Prop} {tw cs : Bool} (hR : σ.2.2 = RF tw cs) {m : mS} (hM : cityM σ m) (wC : wfCity m) {N : Int} (hM2 : dayM σ m) (wD : wfDay m 0 N) (hN : 0 ≤ N ∧ N ≤ 1000) (wH : wfCh m) (h0 : 0 < m 0 0) {p r : Int} {l1 : Nat} (hp : 0 ≤ p ∧ p ≤ 99) (hl : l1 ≤ 120) (hr : 0 ≤ r ∧ r < m 0 0) (hT : tbM σ m (l1 + 1)) (hk : Post (some (.long (jL (wfrom m (ahd m) (wW m (ahd m)) p l1 r)))) σ)  : AE l yX10_worthFrom cX10_worthFrom 5 (some .long) 1 23 0 0 SH SH σ [.ref 171, .int (jI p), .int (jI r), .int (jI (l1 : Int))] Post := by
  show AW l yX10_worthFrom cX10_worthFrom 5 (some .long) 1 23 0 0 SH Post SH 0 0 σ 0 [some (.ref 171), some (.int (jI p)), some (.int (jI r)), some (.int (jI (l1 : Int))), none] []
  obtain ⟨c1, c2, c3, c4, c5, c6, c7⟩ := id hM
  obtain ⟨w1, w2, w3, w4, w5, w6, w7, w8⟩ := id wC
  obtain ⟨d1, d2, d3, d4, d5, d6, d7⟩ := id hM2
  obtain ⟨v1, v2, v3, v4, v5, v6, v7, v8⟩ := id wD
  simp only [Int.zero_add] at d4 d5 d6 d7 v4 v5 v6 v7 v8
  have y2k := w2 r (by omega) (by omega)
  have c2k := c2 r (by omega) (by omega)
  have hac := aw_ap_comm p (m 1 r)
  have hab := aw_ap_b (a := m 1 r) (b := p) (by omega) (by omega)
  have hahb : 0 ≤ ahd m r ∧ ahd m r ≤ 9 := by have := v4 r (by omega) (by omega); unfold ahd; split <;> omega
  refine a_ild1 eX10_worthFrom_0 ?_
  refine a_ald0 eX10_worthFrom_1 ?_
  refine a_ild2 eX10_worthFrom_2 ?_
  refine a_cV1 eX10_worthFrom_3 lk_X10_279 mV_X10_place sh_171 ⟨_, rfl, rfl⟩ mt_X10_place rfl rfl rfl rfl rfl (c_X10_place hR (by omega) ?_)
  dsimp only [Option.toList, List.cons_append, List.nil_append]
  refine a_eqtop (y0 := m 1 r) (by exact c2k.1) ?_
  refine a_cS2 eX10_worthFrom_6 lk_X10_296 mS_X10_apart mt_X10_apart rfl rfl rfl rfl rfl rfl (c_X10_apart (by omega) ?_)
  dsimp only [Option.toList, List.cons_append, List.nil_append]
  refine a_eqtop (y0 := aw_ap (m 1 r) p) (by exact hac) ?_
  refine a_ist4 eX10_worthFrom_9 (by decide) aw_n2i ?_
  refine a_ild4 eX10_worthFrom_11 ?_
  refine a_ild3 eX10_worthFrom_13 ?_
  refine a_icmp_le 23 eX10_worthFrom_14 (by decide) (by omega) (fun hT14 => ?_) (fun hF14 => ?_)
  · skip
    refine a_ald0 eX10_worthFrom_23 ?_
    refine a_ild2 eX10_worthFrom_24 ?_
    refine a_ald0 eX10_worthFrom_25 ?_
    refine a_ild2 eX10_worthFrom_26 ?_
    refine a_cV1 eX10_worthFrom_27 lk_X10_314 mV_X10_aheadAt sh_171 ⟨_, rfl, rfl⟩ mt_X10_aheadAt rfl rfl rfl rfl rfl (c_X10_aheadAt hR hM wC hM2 wD hN (by omega) ?_)
    dsimp only [Option.toList, List.cons_append, List.nil_append]
    refine a_ild3 eX10_worthFrom_30 ?_
    refine a_ild4 eX10_worthFrom_31 ?_
    refine a_isub eX10_worthFrom_33 ?_
    refine a_cV3 eX10_worthFrom_34 lk_X10_317 mV_X10_worthOf sh_171 ⟨_, rfl, rfl⟩ mt_X10_worthOf rfl rfl rfl rfl rfl rfl rfl (c_X10_worthOf hR (by omega) ?_)
    dsimp only [Option.toList, List.cons_append, List.nil_append]
    have hv := hT (l1 - (aw_ap (m 1 r) p).toNat) r (ahd m r) (by omega) (by omega) (by omega) (by omega) (by omega)
    rw [show ((l1 - (aw_ap (m 1 r) p).toNat : Nat) : Int) = (l1 : Int) - aw_ap (m 1 r) p by omega] at hv
    refine a_lret eX10_worthFrom_37 rfl rfl ⟨Nat.zero_le _, Nat.zero_le _⟩ ?_
    rw [show wfrom m (ahd m) (wW m (ahd m)) p l1 r = wW m (ahd m) (l1 - (aw_ap (m 1 r) p).toNat) r (ahd m r) from if_neg (by omega), ← hv] at hk
    exact hk
  · skip
    refine a_ldc2 (-1) (by decide) eX10_worthFrom_17 kc_X10_312 ?_
    refine a_goto 37 eX10_worthFrom_20 (by decide) ?_
    refine a_lret eX10_worthFrom_37 rfl rfl ⟨Nat.zero_le _, Nat.zero_le _⟩ ?_
    rw [show wfrom m (ahd m) (wW m (ahd m)) p l1 r = -1 from if_pos (by omega)] at hk
    exact hk

set_option maxHeartbeats 4000000 in
set_option maxRecDepth 100000 in
theorem lp_gfr {l : Launch} {σ : aw_S} {Post : Option Value → aw_S → Prop} {tw cs : Bool} (hR : σ.2.2 = RF tw cs) {m : mS} (hM : cityM σ m) (wC : wfCity m) {N : Int} (hM2 : dayM σ m) (wD : wfDay m 0 N) (hN : 0 ≤ N ∧ N ≤ 1000) (wH : wfCh m) (h0 : 0 < m 0 0) {p : Int} {l1 : Nat} (hp : 0 ≤ p ∧ p ≤ 99) (hl : l1 ≤ 120) (hT : tbM σ m (l1 + 1)) (hk : ∀ σ', frX σ σ' → (∀ a j, σ'.2.1 a j = σ.2.1 a j) → σ'.1 171 47 = gwhoM m p l1 → Post (some (.long (jL (gvalM m p l1)))) σ')  : ∀ (n : Nat) (k : Nat) (σ1 : aw_S) (lx : Option Value) (ly : Option Value), ((m 0 0 - (k : Int)).toNat ≤ n) → ((k : Int) ≤ m 0 0) → (frX σ σ1) → (∀ a j, σ1.2.1 a j = σ.2.1 a j) → (σ1.1 171 47 = gwho m (ahd m) (wW m (ahd m)) p l1 k) → AW l yX10_goingFrom cX10_goingFrom 8 (some .long) 2 47 0 0 SH Post SH 0 0 (σ1) 12 [some (.ref 171), some (.int (jI p)), some (.int (jI (l1 : Int))), some (.long (jL (gbest m (ahd m) (wW m (ahd m)) p l1 k))), none, some (.int (jI (k : Int))), lx, ly] [] := by
  intro n
  induction n with
  | zero =>
    intro k σ1 lx ly hm hkn f1 hl1 hgo
    have hR0 := hR
    have hR : σ1.2.2 = RF tw cs := by rw [f1.2.2]; exact hR
    have hM0 := hM
    have hM := cityM_X f1 hM
    have hM20 := hM2
    have hM2 := dayM_X f1 hM2
    obtain ⟨c1, c2, c3, c4, c5, c6, c7⟩ := id hM
    obtain ⟨w1, w2, w3, w4, w5, w6, w7, w8⟩ := id wC
    obtain ⟨d1, d2, d3, d4, d5, d6, d7⟩ := id hM2
    obtain ⟨v1, v2, v3, v4, v5, v6, v7, v8⟩ := id wD
    simp only [Int.zero_add] at d4 d5 d6 d7 v4 v5 v6 v7 v8
    have hgb := gbest_b wC h0 wH (ah := ahd m) (p := p) (l := l1) k hkn
    have hT1 : tbM σ1 m (l1 + 1) := fun k r n k1 r1 r2 n1 n2 => by rw [hl1]; exact hT k r n k1 r1 r2 n1 n2
    refine a_ild5 eX10_goingFrom_12 ?_
    refine a_ald0 eX10_goingFrom_14 ?_
    refine a_getI 14 eX10_goingFrom_15 fl_X10_235 rfl rfl sh_171 ?_
    refine a_eqtop (y0 := m 0 0) (by exact c1) ?_
    refine a_icmp_ge 56 eX10_goingFrom_18 (by decide) (by omega) (fun hT18 => ?_) (fun hF18 => ?_)
    · skip
      have hlc := lcm_b (gbest m (ahd m) (wW m (ahd m)) p l1 k) 0
      refine a_lld3 eX10_goingFrom_56 ?_
      refine a_lconst 0 eX10_goingFrom_57 rfl ?_
      refine a_lcmp (lcm (gbest m (ahd m) (wW m (ahd m)) p l1 k) 0) eX10_goingFrom_58 (jL_cmp (by omega) (by omega)) ?_
      refine a_if_ge 66 eX10_goingFrom_59 (by decide) (by omega) (fun hT59 => ?_) (fun hF59 => ?_)
      · skip
        refine a_lld3 eX10_goingFrom_66 ?_
        refine a_lret eX10_goingFrom_67 rfl rfl ⟨Nat.zero_le _, Nat.zero_le _⟩ ?_
        have hkm : (m 0 0).toNat = k := by omega
        have h9 := hk σ1 f1 hl1 (by unfold gwhoM; rw [hkm]; exact hgo)
        unfold gvalM gval at h9
        rw [hkm, if_neg (by omega)] at h9
        exact h9
      · skip
        refine a_lconst 0 eX10_goingFrom_62 rfl ?_
        refine a_goto 67 eX10_goingFrom_63 (by decide) ?_
        refine a_lret eX10_goingFrom_67 rfl rfl ⟨Nat.zero_le _, Nat.zero_le _⟩ ?_
        have hkm : (m 0 0).toNat = k := by omega
        have h9 := hk σ1 f1 hl1 (by unfold gwhoM; rw [hkm]; exact hgo)
        unfold gvalM gval at h9
        rw [hkm, if_pos (by omega)] at h9
        exact h9
    · skip
      exfalso; omega
  | succ n ih =>
    intro k σ1 lx ly hm hkn f1 hl1 hgo
    have hR0 := hR
    have hR : σ1.2.2 = RF tw cs := by rw [f1.2.2]; exact hR
    have hM0 := hM
    have hM := cityM_X f1 hM
    have hM20 := hM2
    have hM2 := dayM_X f1 hM2
    obtain ⟨c1, c2, c3, c4, c5, c6, c7⟩ := id hM
    obtain ⟨w1, w2, w3, w4, w5, w6, w7, w8⟩ := id wC
    obtain ⟨d1, d2, d3, d4, d5, d6, d7⟩ := id hM2
    obtain ⟨v1, v2, v3, v4, v5, v6, v7, v8⟩ := id wD
    simp only [Int.zero_add] at d4 d5 d6 d7 v4 v5 v6 v7 v8
    have hgb := gbest_b wC h0 wH (ah := ahd m) (p := p) (l := l1) k hkn
    have hT1 : tbM σ1 m (l1 + 1) := fun k r n k1 r1 r2 n1 n2 => by rw [hl1]; exact hT k r n k1 r1 r2 n1 n2
    refine a_ild5 eX10_goingFrom_12 ?_
    refine a_ald0 eX10_goingFrom_14 ?_
    refine a_getI 14 eX10_goingFrom_15 fl_X10_235 rfl rfl sh_171 ?_
    refine a_eqtop (y0 := m 0 0) (by exact c1) ?_
    refine a_icmp_ge 56 eX10_goingFrom_18 (by decide) (by omega) (fun hT18 => ?_) (fun hF18 => ?_)
    · skip
      have hlc := lcm_b (gbest m (ahd m) (wW m (ahd m)) p l1 k) 0
      refine a_lld3 eX10_goingFrom_56 ?_
      refine a_lconst 0 eX10_goingFrom_57 rfl ?_
      refine a_lcmp (lcm (gbest m (ahd m) (wW m (ahd m)) p l1 k) 0) eX10_goingFrom_58 (jL_cmp (by omega) (by omega)) ?_
      refine a_if_ge 66 eX10_goingFrom_59 (by decide) (by omega) (fun hT59 => ?_) (fun hF59 => ?_)
      · skip
        refine a_lld3 eX10_goingFrom_66 ?_
        refine a_lret eX10_goingFrom_67 rfl rfl ⟨Nat.zero_le _, Nat.zero_le _⟩ ?_
        have hkm : (m 0 0).toNat = k := by omega
        have h9 := hk σ1 f1 hl1 (by unfold gwhoM; rw [hkm]; exact hgo)
        unfold gvalM gval at h9
        rw [hkm, if_neg (by omega)] at h9
        exact h9
      · skip
        refine a_lconst 0 eX10_goingFrom_62 rfl ?_
        refine a_goto 67 eX10_goingFrom_63 (by decide) ?_
        refine a_lret eX10_goingFrom_67 rfl rfl ⟨Nat.zero_le _, Nat.zero_le _⟩ ?_
        have hkm : (m 0 0).toNat = k := by omega
        have h9 := hk σ1 f1 hl1 (by unfold gwhoM; rw [hkm]; exact hgo)
        unfold gvalM gval at h9
        rw [hkm, if_pos (by omega)] at h9
        exact h9
    · skip
      have hwb := wfrom_b (ah := ahd m) (p := p) (l := l1) (r := (k : Int)) wC h0 wH (by omega)
      have hlc := lcm_b (wfrom m (ahd m) (wW m (ahd m)) p l1 (k : Int)) (gbest m (ahd m) (wW m (ahd m)) p l1 k)
      refine a_ald0 eX10_goingFrom_21 ?_
      refine a_ild1 eX10_goingFrom_22 ?_
      refine a_ild5 eX10_goingFrom_23 ?_
      refine a_ild2 eX10_goingFrom_25 ?_
      refine a_cV3 eX10_goingFrom_26 lk_X10_335 mV_X10_worthFrom sh_171 ⟨_, rfl, rfl⟩ mt_X10_worthFrom rfl rfl rfl rfl rfl rfl rfl (c_X10_worthFrom hR hM wC hM2 wD hN wH h0 hp hl (by omega) hT1 ?_)
      dsimp only [Option.toList, List.cons_append, List.nil_append]
      refine a_lst6 eX10_goingFrom_29 (by decide) aw_n2i ?_
      refine a_lld6 eX10_goingFrom_31 ?_
      refine a_lld3 eX10_goingFrom_33 ?_
      refine a_lcmp (lcm (wfrom m (ahd m) (wW m (ahd m)) p l1 (k : Int)) (gbest m (ahd m) (wW m (ahd m)) p l1 k)) eX10_goingFrom_34 (jL_cmp (by omega) (by omega)) ?_
      refine a_if_gt 41 eX10_goingFrom_35 (by decide) (by omega) (fun hT35 => ?_) (fun hF35 => ?_)
      · skip
        refine a_lld6 eX10_goingFrom_41 ?_
        refine a_lst3 eX10_goingFrom_43 (by decide) aw_n2i ?_
        refine a_ald0 eX10_goingFrom_44 ?_
        refine a_ild5 eX10_goingFrom_45 ?_
        refine a_putI 47 eX10_goingFrom_47 fl_X10_332 rfl rfl sh_171 (fun q h => Or.inl (by cases h; rfl)) ?_
        refine a_iinc5 eX10_goingFrom_50 (by decide) aw_n2n ?_
        refine a_goto 12 eX10_goingFrom_53 (by decide) ?_
        have e1 : gbest m (ahd m) (wW m (ahd m)) p l1 (k + 1) = wfrom m (ahd m) (wW m (ahd m)) p l1 (k : Int) := if_neg (by omega)
        have e2 : gwho m (ahd m) (wW m (ahd m)) p l1 (k + 1) = (k : Int) := if_neg (by omega)
        have ih1 := ih (k + 1) (aw_si σ1 171 47 (k : Int)) (some (.long (jL (wfrom m (ahd m) (wW m (ahd m)) p l1 (k : Int))))) none (by omega) (by omega) ⟨fun a j q => by rw [rd_si, if_neg q]; exact f1.1 a j q, f1.2.1, f1.2.2⟩ hl1 (by rw [e2]; exact rd_si_eq)
        rw [e1, show (((k + 1 : Nat) : Nat) : Int) = (k : Int) + 1 by omega] at ih1
        exact ih1
      · skip
        refine a_goto 50 eX10_goingFrom_38 (by decide) ?_
        refine a_iinc5 eX10_goingFrom_50 (by decide) aw_n2n ?_
        refine a_goto 12 eX10_goingFrom_53 (by decide) ?_
        have e1 : gbest m (ahd m) (wW m (ahd m)) p l1 (k + 1) = gbest m (ahd m) (wW m (ahd m)) p l1 k := if_pos (by omega)
        have e2 : gwho m (ahd m) (wW m (ahd m)) p l1 (k + 1) = gwho m (ahd m) (wW m (ahd m)) p l1 k := if_pos (by omega)
        have ih1 := ih (k + 1) σ1 (some (.long (jL (wfrom m (ahd m) (wW m (ahd m)) p l1 (k : Int))))) none (by omega) (by omega) f1 hl1 (by rw [e2]; exact hgo)
        rw [e1, show (((k + 1 : Nat) : Nat) : Int) = (k : Int) + 1 by omega] at ih1
        exact ih1

set_option maxHeartbeats 4000000 in
set_option maxRecDepth 100000 in
theorem c_X10_goingFrom {l : Launch} {σ : aw_S} {Post : Option Value → aw_S → Prop} {tw cs : Bool} (hR : σ.2.2 = RF tw cs) {m : mS} (hM : cityM σ m) (wC : wfCity m) {N : Int} (hM2 : dayM σ m) (wD : wfDay m 0 N) (hN : 0 ≤ N ∧ N ≤ 1000) (wH : wfCh m) (h0 : 0 < m 0 0) {p : Int} {l1 : Nat} (hp : 0 ≤ p ∧ p ≤ 99) (hl : l1 ≤ 120) (hT : tbM σ m (l1 + 1)) (hk : ∀ σ', frX σ σ' → (∀ a j, σ'.2.1 a j = σ.2.1 a j) → σ'.1 171 47 = gwhoM m p l1 → Post (some (.long (jL (gvalM m p l1)))) σ')  : AE l yX10_goingFrom cX10_goingFrom 8 (some .long) 2 47 0 0 SH SH σ [.ref 171, .int (jI p), .int (jI (l1 : Int))] Post := by
  show AW l yX10_goingFrom cX10_goingFrom 8 (some .long) 2 47 0 0 SH Post SH 0 0 σ 0 [some (.ref 171), some (.int (jI p)), some (.int (jI (l1 : Int))), none, none, none, none, none] []
  have y1 := wC.1
  refine a_ldc2 (-1) (by decide) eX10_goingFrom_0 kc_X10_312 ?_
  refine a_lst3 eX10_goingFrom_3 (by decide) aw_n2i ?_
  refine a_ald0 eX10_goingFrom_4 ?_
  refine a_iconst eX10_goingFrom_5 ?_
  refine a_putI 47 eX10_goingFrom_6 fl_X10_332 rfl rfl sh_171 (fun q h => Or.inl (by cases h; rfl)) ?_
  refine a_iconst eX10_goingFrom_9 ?_
  refine a_ist5 eX10_goingFrom_10 (by decide) aw_n2n ?_
  exact lp_gfr hR hM wC hM2 wD hN wH h0 hp hl hT hk _ 0 (aw_si σ 171 47 (-1)) none none (Nat.le_refl _) (by omega) ⟨fun a j q => by rw [rd_si, if_neg q], fun _ _ _ _ => rfl, rfl⟩ (fun _ _ => rfl) rd_si_eq

set_option maxHeartbeats 4000000 in
set_option maxRecDepth 100000 in
theorem c_X10_brings {l : Launch} {σ : aw_S} {Post : Option Value → aw_S → Prop} {tw cs : Bool} (hR : σ.2.2 = RF tw cs) {m : mS} (hM : cityM σ m) (wC : wfCity m) {N : Int} (hM2 : dayM σ m) (wD : wfDay m 0 N) (hN : 0 ≤ N ∧ N ≤ 1000) (hH : chM σ m) (wH : wfCh m) (h0 : 0 < m 0 0) {r n1 : Int} {l1 : Nat} (hl : 1 ≤ l1 ∧ l1 ≤ 120) (hr : 0 ≤ r ∧ r < m 0 0) (hn : 0 ≤ n1 ∧ n1 < 10) (hT : tbM σ m l1) (hG : goM σ m l1) (hk : Post (some (.long (jL (if 0 < n1 then wW m (ahd m) (l1 - 1) r (n1 - 1) else fbrg m (ahd m) (wW m (ahd m)) l1 r)))) σ)  : AE l yX10_brings cX10_brings 5 (some .long) 1 23 0 0 SH SH σ [.ref 171, .int (jI r), .int (jI n1), .int (jI (l1 : Int))] Post := by
  show AW l yX10_brings cX10_brings 5 (some .long) 1 23 0 0 SH Post SH 0 0 σ 0 [some (.ref 171), some (.int (jI r)), some (.int (jI n1)), some (.int (jI (l1 : Int))), none] []
  obtain ⟨c1, c2, c3, c4, c5, c6, c7⟩ := id hM
  obtain ⟨w1, w2, w3, w4, w5, w6, w7, w8⟩ := id wC
  obtain ⟨d1, d2, d3, d4, d5, d6, d7⟩ := id hM2
  obtain ⟨v1, v2, v3, v4, v5, v6, v7, v8⟩ := id wD
  simp only [Int.zero_add] at d4 d5 d6 d7 v4 v5 v6 v7 v8
  have hc := hH r (by omega) (by omega)
  have wc := wH r (by omega) (by omega)
  have h9 := w6 h0
  have k5 := c5 h0
  refine a_ild2 eX10_brings_0 ?_
  refine a_if_le 16 eX10_brings_1 (by decide) (by omega) (fun hT1 => ?_) (fun hF1 => ?_)
  · skip
    refine a_ald0 eX10_brings_16 ?_
    refine a_getR 29 187 eX10_brings_17 fl_X10_57 rfl rfl sh_171 ((congrFun (congrFun hR _) _).trans rf_171_29) ?_
    refine a_iconst eX10_brings_20 ?_
    refine a_ild1 eX10_brings_21 ?_
    refine a_imul eX10_brings_22 ?_
    refine a_iconst eX10_brings_23 ?_
    refine a_iadd eX10_brings_24 ?_
    refine a_iald eX10_brings_25 sh_187 rfl (by omega) ?_
    refine a_eqtop (y0 := m 14 r) (by exact hc.2.1) ?_
    refine a_ist4 eX10_brings_26 (by decide) aw_n2i ?_
    refine a_ild4 eX10_brings_28 ?_
    refine a_if_eq 39 eX10_brings_30 (by decide) (by omega) (fun hT30 => ?_) (fun hF30 => ?_)
    · skip
      refine a_lconst 0 eX10_brings_39 rfl ?_
      refine a_goto 79 eX10_brings_40 (by decide) ?_
      refine a_lret eX10_brings_79 rfl rfl ⟨Nat.zero_le _, Nat.zero_le _⟩ ?_
      rw [if_neg (by omega), show fbrg m (ahd m) (wW m (ahd m)) l1 r = 0 from if_pos (by omega)] at hk
      exact hk
    · skip
      refine a_ild4 eX10_brings_33 ?_
      refine a_ild3 eX10_brings_35 ?_
      refine a_icmp_le 43 eX10_brings_36 (by decide) (by omega) (fun hT36 => ?_) (fun hF36 => ?_)
      · skip
        refine a_ldc2 (1000) (by decide) eX10_brings_43 kc_X10_321 ?_
        refine a_ald0 eX10_brings_46 ?_
        refine a_ild4 eX10_brings_47 ?_
        refine a_iconst eX10_brings_49 ?_
        refine a_cV2 eX10_brings_50 lk_X10_265 mV_X10_priceOf sh_171 ⟨_, rfl, rfl⟩ mt_X10_priceOf rfl rfl rfl rfl rfl rfl (c_X10_priceOf hR (by omega) (by omega) (by omega) (by omega) (by omega) (by omega) (by omega) ?_)
        dsimp only [Option.toList, List.cons_append, List.nil_append]
        refine a_eqtop (y0 := mprice m (m 14 r) 0) (by unfold mprice; rw [k5.1, k5.2.1, k5.2.2.1, k5.2.2.2.1, k5.2.2.2.2]) ?_
        have hpr := price_mi (mi := m 14 r) wC h0 (by omega)
        refine a_i2l eX10_brings_53 (by omega) ?_
        refine a_lmul eX10_brings_54 ?_
        refine a_ald0 eX10_brings_55 ?_
        refine a_getR 46 202 eX10_brings_56 fl_X10_103 rfl rfl sh_171 ((congrFun (congrFun hR _) _).trans rf_171_46) ?_
        refine a_bipush eX10_brings_59 (by decide) ?_
        refine a_ald0 eX10_brings_61 ?_
        refine a_getR 29 187 eX10_brings_62 fl_X10_57 rfl rfl sh_171 ((congrFun (congrFun hR _) _).trans rf_171_29) ?_
        refine a_iconst eX10_brings_65 ?_
        refine a_ild1 eX10_brings_66 ?_
        refine a_imul eX10_brings_67 ?_
        refine a_iconst eX10_brings_68 ?_
        refine a_iadd eX10_brings_69 ?_
        refine a_iald eX10_brings_70 sh_187 rfl (by omega) ?_
        refine a_eqtop (y0 := m 15 r) (by exact hc.2.2) ?_
        refine a_imul eX10_brings_71 ?_
        refine a_ild3 eX10_brings_72 ?_
        refine a_iadd eX10_brings_73 ?_
        refine a_ild4 eX10_brings_74 ?_
        refine a_isub eX10_brings_76 ?_
        refine a_lald eX10_brings_77 sh_202 rfl (by omega) ?_
        have hv := hG (l1 - (m 14 r).toNat) (m 15 r) (by omega) (by omega) (by omega)
        rw [show 121 * m 15 r + ((l1 - (m 14 r).toNat : Nat) : Int) = 121 * m 15 r + (l1 : Int) - m 14 r by omega] at hv
        refine a_eqtopL (y0 := gvalM m (m 1 (m 15 r)) (l1 - (m 14 r).toNat)) (by exact hv) ?_
        refine a_ladd eX10_brings_78 ?_
        refine a_lret eX10_brings_79 rfl rfl ⟨Nat.zero_le _, Nat.zero_le _⟩ ?_
        rw [if_neg (by omega), show fbrg m (ahd m) (wW m (ahd m)) l1 r = 1000 * mprice m (m 14 r) 0 + gval m (ahd m) (wW m (ahd m)) (m 1 (m 15 r)) (l1 - (m 14 r).toNat) from if_neg (by omega)] at hk
        exact hk
      · skip
        refine a_lconst 0 eX10_brings_39 rfl ?_
        refine a_goto 79 eX10_brings_40 (by decide) ?_
        refine a_lret eX10_brings_79 rfl rfl ⟨Nat.zero_le _, Nat.zero_le _⟩ ?_
        rw [if_neg (by omega), show fbrg m (ahd m) (wW m (ahd m)) l1 r = 0 from if_pos (by omega)] at hk
        exact hk
  · skip
    refine a_ald0 eX10_brings_4 ?_
    refine a_ild1 eX10_brings_5 ?_
    refine a_ild2 eX10_brings_6 ?_
    refine a_iconst eX10_brings_7 ?_
    refine a_isub eX10_brings_8 ?_
    refine a_ild3 eX10_brings_9 ?_
    refine a_iconst eX10_brings_10 ?_
    refine a_isub eX10_brings_11 ?_
    refine a_cV3 eX10_brings_12 lk_X10_317 mV_X10_worthOf sh_171 ⟨_, rfl, rfl⟩ mt_X10_worthOf rfl rfl rfl rfl rfl rfl rfl (c_X10_worthOf hR (by omega) ?_)
    dsimp only [Option.toList, List.cons_append, List.nil_append]
    refine a_lret eX10_brings_15 rfl rfl ⟨Nat.zero_le _, Nat.zero_le _⟩ ?_
    have hv := hT (l1 - 1) r (n1 - 1) (by omega) (by omega) (by omega) (by omega) (by omega)
    rw [show ((l1 - 1 : Nat) : Int) = (l1 : Int) - 1 by omega] at hv
    rw [if_pos (by omega), ← hv] at hk
    exact hk
