/-! ===== the calls, both sides ===== -/
theorem INV_mk {σ : aw_S} {N : Int} {tw cs : Bool} {t a : Nat} {m : mS} (hR : σ.2.2 = RF tw cs) (hrt : RF tw cs 0 1 = some t) (hra : RF tw cs 1 2 = some a) (kC : KC σ t m) (kM : KM σ m) (w : WF m N) : INV σ N := ⟨tw, cs, t, a, m, ⟨hR, hrt, hra⟩, kC, kM, w⟩
theorem RF_ne {tw cs : Bool} {t a : Nat} (hd : RF tw cs 1 2 = some a) (ht : RF tw cs 0 1 = some t) : (a = 3 ∧ t = 13) ∨ (a = 13 ∧ t = 3) := by
  cases tw <;> cases cs <;> simp [RF] at hd ht <;> omega
theorem KM_hi {σ σ' : aw_S} {m : mS} {N : Int} (w : WF m N) (h : ∀ (b : Nat) (j : Int), 171 ≤ b → σ'.1 b j = σ.1 b j) (hK : KM σ m) : KM σ' m := KM_kp w (fun b j q => h b j (by unfold kpM at q; omega)) hK
theorem KC_lo {σ σ' : aw_S} {t : Nat} {m : mS} {N : Int} (ht : isCity t) (w : WF m N) (h : ∀ (b : Nat) (j : Int), b ≤ 170 → σ'.1 b j = σ.1 b j) (hK : KC σ t m) : KC σ' t m := KC_kp w (fun b j q => h b j (by have h13 : t = 3 ∨ t = 13 := ht; unfold kpC at q; omega)) hK
theorem day_fin {σ σ1 σ2 : aw_S} {N : Int} {tw cs : Bool} {t a : Nat} {m m' : mS} (hR2 : σ2.2.2 = RF tw cs) (hrt : RF tw cs 0 1 = some t) (hra : RF tw cs 1 2 = some a) (kC : KC σ t m) (kM : KM σ m) (w : WF m N) (f : frm m m') (hD : wfDay m' 0 (N + 1))
    (f1 : ∀ (b : Nat) (j : Int), ¬ (21 ≤ b ∧ b < 49) → ¬ (84 ≤ b ∧ b ≤ 86) → σ1.1 b j = σ.1 b j) (d1 : dayC σ1 21 0 m') (f2 : ∀ (b : Nat) (j : Int), ¬ (182 ≤ b ∧ b ≤ 186) → b ≠ 208 → ¬ (b = 171 ∧ (j = 21 ∨ j = 22 ∨ j = 26)) → σ2.1 b j = σ1.1 b j) (d2 : dayM σ2 m') : INV σ2 (N + 1) := by
  have hct : isCity t := (tw_n hra hrt).1.2
  have h13 : t = 3 ∨ t = 13 := hct
  have w2 := WF_day w f hD
  have kM1 : KM σ1 m := KM_hi w (fun b j q => f1 b j (by omega) (by omega)) kM
  have kC1 : KC σ1 t m' := KC_day hct w f (fun b j q1 q2 => f1 b j (by omega) (by unfold kpC at q2; omega)) d1 kC
  exact INV_mk hR2 hrt hra (KC_lo hct w2 (fun b j q => f2 b j (by omega) (by omega) (by omega)) kC1) (KM_day w f (fun b j q1 q2 q3 => f2 b j q1 (by unfold kpM at q3; omega) q2) d2 kM1) w2
theorem scr_fin {σ σ1 σ2 : aw_S} {N : Int} {tw cs : Bool} {t a : Nat} {m : mS} (hR2 : σ2.2.2 = RF tw cs) (hrt : RF tw cs 0 1 = some t) (hra : RF tw cs 1 2 = some a) (kC : KC σ t m) (kM : KM σ m) (w : WF m N)
    (f1 : ∀ (b : Nat) (j : Int), kpC t b j ∨ 171 ≤ b → σ1.1 b j = σ.1 b j) (f2 : ∀ (b : Nat) (j : Int), kpM b j ∨ b ≤ 170 → σ2.1 b j = σ1.1 b j) : INV σ2 (N + 1) := by
  have hct : isCity t := (tw_n hra hrt).1.2
  exact INV_mk hR2 hrt hra (KC_lo hct w (fun b j q => f2 b j (Or.inr q)) (KC_kp w (fun b j q => f1 b j (Or.inl q)) kC)) (KM_kp w (fun b j q => f2 b j (Or.inl q)) (KM_hi w (fun b j q => f1 b j (Or.inr q)) kM)) (WF_mono (by omega) w)
theorem tfd_w {T : txt} {a b c d e : Int} (h : wfTx T.1 T.2) : ∀ k : Nat, T.2 + (k : Int) ≤ 500 → wfTx (tfd T a b c d e k).1 (tfd T a b c d e k).2
  | 0, _ => h
  | k + 1, hk => tput_w (bv_b _ _) (tfd_w h k (by omega)) (by rw [tfd_n]; omega)

theorem op_rank {l : Launch} {σ : aw_S} {N : Int} (hI0 : INV σ N) (hN : 0 ≤ N ∧ N ≤ 999) {r w : Int} (hr : (-2147483648 ≤ r ∧ r ≤ 2147483647) ∧ (-2147483648 ≤ w ∧ w ≤ 2147483647)) : AE l yX9_rank cX9_rank 3 (some .int) 2 43 0 0 SH SH σ [.ref 0, .int (jI r), .int (jI w)] (fun v1 σ1 => ∃ vv : Int, v1 = some (.int (jI vv)) ∧ AE l yX10_rank cX10_rank 3 (some .int) 2 43 0 0 SH SH σ1 [.ref 171, .int (jI r), .int (jI w)] (fun v2 σ2 => v2 = some (.int (jI vv)) ∧ INV σ2 (N + 1))) := by
  obtain ⟨tw, cs, t, ad, m, ⟨hR, hrt, hra⟩, kC, kM, w⟩ := hI0
  have hct : isCity t := (tw_n hra hrt).1.2
  have hca : isCity ad := (tw_n hra hrt).1.1
  have hR1 := hR
  have hcn := RF_ne hra hrt
  have kC' := kC
  have kM' := kM
  have w' := w
  obtain ⟨c1, c2, c3, ⟨c4, c5⟩, c6, c7⟩ := kC
  obtain ⟨m1, m2, m3, m4, m6, m7⟩ := kM
  obtain ⟨w1, w2, w3, w4, w5, w6⟩ := w
  exact c_X9_rank (hR := hR) (hct := hct) (hrt := hrt) (hC := c1) (wC := w1) (hD := c2) (wD := w2) (hN := ⟨hN.1, Int.le_trans hN.2 (by decide)⟩) (hr := hr) (hk := ⟨_, rfl, c_X10_rank (hR := hR1) (hM := m1) (wC := w1) (hM2 := m2) (wD := w2) (hN := ⟨hN.1, Int.le_trans hN.2 (by decide)⟩) (hr := hr) (hk := ⟨rfl, INV_mk hR hrt hra kC' kM' (WF_mono (Int.le_add_of_nonneg_right (by decide)) w')⟩)⟩)
theorem op_may {l : Launch} {σ : aw_S} {N : Int} (hI0 : INV σ N) (hN : 0 ≤ N ∧ N ≤ 999) {r z h : Int} (hr : (-2147483648 ≤ r ∧ r ≤ 2147483647) ∧ (-2147483648 ≤ z ∧ z ≤ 2147483647) ∧ (-2147483648 ≤ h ∧ h ≤ 2147483647)) : AE l yX9_may cX9_may 4 (some .int) 2 46 0 0 SH SH σ [.ref 0, .int (jI r), .int (jI z), .int (jI h)] (fun v1 σ1 => ∃ vv : Int, v1 = some (.int (jI vv)) ∧ AE l yX10_may cX10_may 4 (some .int) 2 48 0 0 SH SH σ1 [.ref 171, .int (jI r), .int (jI z), .int (jI h)] (fun v2 σ2 => v2 = some (.int (jI vv)) ∧ INV σ2 (N + 1))) := by
  obtain ⟨tw, cs, t, ad, m, ⟨hR, hrt, hra⟩, kC, kM, w⟩ := hI0
  have hct : isCity t := (tw_n hra hrt).1.2
  have hca : isCity ad := (tw_n hra hrt).1.1
  have hR1 := hR
  have hcn := RF_ne hra hrt
  have kC' := kC
  have kM' := kM
  have w' := w
  obtain ⟨c1, c2, c3, ⟨c4, c5⟩, c6, c7⟩ := kC
  obtain ⟨m1, m2, m3, m4, m6, m7⟩ := kM
  obtain ⟨w1, w2, w3, w4, w5, w6⟩ := w
  exact c_X9_may (hR := hR) (hct := hct) (hrt := hrt) (hC := c1) (wC := w1) (hr := hr) (hk := ⟨_, rfl, c_X10_may (hR := hR1) (hM := m1) (wC := w1) (hr := hr) (hk := ⟨rfl, INV_mk hR hrt hra kC' kM' (WF_mono (Int.le_add_of_nonneg_right (by decide)) w')⟩)⟩)
theorem op_price {l : Launch} {σ : aw_S} {N : Int} (hI0 : INV σ N) (hN : 0 ≤ N ∧ N ≤ 999) {mi v : Int} (hr : (-2147483648 ≤ mi ∧ mi ≤ 2147483647) ∧ (-2147483648 ≤ v ∧ v ≤ 2147483647)) : AE l yX9_price cX9_price 3 (some .int) 3 64 0 0 SH SH σ [.ref 0, .int (jI mi), .int (jI v)] (fun v1 σ1 => ∃ vv : Int, v1 = some (.int (jI vv)) ∧ AE l yX10_price cX10_price 3 (some .int) 2 42 0 0 SH SH σ1 [.ref 171, .int (jI mi), .int (jI v)] (fun v2 σ2 => v2 = some (.int (jI vv)) ∧ INV σ2 (N + 1))) := by
  obtain ⟨tw, cs, t, ad, m, ⟨hR, hrt, hra⟩, kC, kM, w⟩ := hI0
  have hct : isCity t := (tw_n hra hrt).1.2
  have hca : isCity ad := (tw_n hra hrt).1.1
  have hR1 := hR
  have hcn := RF_ne hra hrt
  have kC' := kC
  have kM' := kM
  have w' := w
  obtain ⟨c1, c2, c3, ⟨c4, c5⟩, c6, c7⟩ := kC
  obtain ⟨m1, m2, m3, m4, m6, m7⟩ := kM
  obtain ⟨w1, w2, w3, w4, w5, w6⟩ := w
  exact c_X9_price (hR := hR) (hct := hct) (hrt := hrt) (hC := c1) (wC := w1) (hr := hr) (hk := ⟨_, rfl, c_X10_price (hR := hR1) (hM := m1) (wC := w1) (hr := hr) (hk := ⟨rfl, INV_mk hR hrt hra kC' kM' (WF_mono (Int.le_add_of_nonneg_right (by decide)) w')⟩)⟩)
theorem op_of {l : Launch} {σ : aw_S} {N : Int} (hI0 : INV σ N) (hN : 0 ≤ N ∧ N ≤ 999) {c w : Int} (hr : (-2147483648 ≤ c ∧ c ≤ 2147483647) ∧ (-2147483648 ≤ w ∧ w ≤ 2147483647)) : AE l yX9_of cX9_of 4 (some .int) 4 87 0 0 SH SH σ [.ref 0, .int (jI c), .int (jI w)] (fun v1 σ1 => ∃ vv : Int, v1 = some (.int (jI vv)) ∧ AE l yX10_of cX10_of 4 (some .int) 2 45 0 0 SH SH σ1 [.ref 171, .int (jI c), .int (jI w)] (fun v2 σ2 => v2 = some (.int (jI vv)) ∧ INV σ2 (N + 1))) := by
  obtain ⟨tw, cs, t, ad, m, ⟨hR, hrt, hra⟩, kC, kM, w⟩ := hI0
  have hct : isCity t := (tw_n hra hrt).1.2
  have hca : isCity ad := (tw_n hra hrt).1.1
  have hR1 := hR
  have hcn := RF_ne hra hrt
  have kC' := kC
  have kM' := kM
  have w' := w
  obtain ⟨c1, c2, c3, ⟨c4, c5⟩, c6, c7⟩ := kC
  obtain ⟨m1, m2, m3, m4, m6, m7⟩ := kM
  obtain ⟨w1, w2, w3, w4, w5, w6⟩ := w
  exact c_X9_of (hR := hR) (hct := hct) (hrt := hrt) (hC := c1) (wC := w1) (hD := c2) (wD := w2) (hN := ⟨hN.1, Int.le_trans hN.2 (by decide)⟩) (hr := hr) (hk := ⟨_, rfl, c_X10_of (hR := hR1) (hM := m1) (wC := w1) (hM2 := m2) (wD := w2) (hN := ⟨hN.1, Int.le_trans hN.2 (by decide)⟩) (hr := hr) (hk := ⟨rfl, INV_mk hR hrt hra kC' kM' (WF_mono (Int.le_add_of_nonneg_right (by decide)) w')⟩)⟩)
theorem op_row {l : Launch} {σ : aw_S} {N : Int} (hI0 : INV σ N) (hN : 0 ≤ N ∧ N ≤ 999) {r k : Int} (hr : (-2147483648 ≤ r ∧ r ≤ 2147483647) ∧ (-2147483648 ≤ k ∧ k ≤ 2147483647)) : AE l yX9_row cX9_row 3 (some .int) 2 43 0 0 SH SH σ [.ref 0, .int (jI r), .int (jI k)] (fun v1 σ1 => ∃ vv : Int, v1 = some (.int (jI vv)) ∧ AE l yX10_row cX10_row 3 (some .int) 2 43 0 0 SH SH σ1 [.ref 171, .int (jI r), .int (jI k)] (fun v2 σ2 => v2 = some (.int (jI vv)) ∧ INV σ2 (N + 1))) := by
  obtain ⟨tw, cs, t, ad, m, ⟨hR, hrt, hra⟩, kC, kM, w⟩ := hI0
  have hct : isCity t := (tw_n hra hrt).1.2
  have hca : isCity ad := (tw_n hra hrt).1.1
  have hR1 := hR
  have hcn := RF_ne hra hrt
  have kC' := kC
  have kM' := kM
  have w' := w
  obtain ⟨c1, c2, c3, ⟨c4, c5⟩, c6, c7⟩ := kC
  obtain ⟨m1, m2, m3, m4, m6, m7⟩ := kM
  obtain ⟨w1, w2, w3, w4, w5, w6⟩ := w
  exact c_X9_row (hR := hR) (hct := hct) (hrt := hrt) (hC := c1) (wC := w1) (hD := c2) (wD := w2) (hN := ⟨hN.1, Int.le_trans hN.2 (by decide)⟩) (hr := hr) (hk := ⟨_, rfl, c_X10_row (hR := hR1) (hM := m1) (wC := w1) (hM2 := m2) (wD := w2) (hN := ⟨hN.1, Int.le_trans hN.2 (by decide)⟩) (hr := hr) (hk := ⟨rfl, INV_mk hR hrt hra kC' kM' (WF_mono (Int.le_add_of_nonneg_right (by decide)) w')⟩)⟩)
theorem op_pass {l : Launch} {σ : aw_S} {N : Int} (hI0 : INV σ N) (hN : 0 ≤ N ∧ N ≤ 999) {k w : Int} (hr : (-2147483648 ≤ k ∧ k ≤ 2147483647) ∧ (-2147483648 ≤ w ∧ w ≤ 2147483647)) : AE l yX9_pass cX9_pass 3 (some .int) 1 22 0 0 SH SH σ [.ref 0, .int (jI k), .int (jI w)] (fun v1 σ1 => ∃ vv : Int, v1 = some (.int (jI vv)) ∧ AE l yX10_pass cX10_pass 3 (some .int) 1 22 0 0 SH SH σ1 [.ref 171, .int (jI k), .int (jI w)] (fun v2 σ2 => v2 = some (.int (jI vv)) ∧ INV σ2 (N + 1))) := by
  obtain ⟨tw, cs, t, ad, m, ⟨hR, hrt, hra⟩, kC, kM, w⟩ := hI0
  have hct : isCity t := (tw_n hra hrt).1.2
  have hca : isCity ad := (tw_n hra hrt).1.1
  have hR1 := hR
  have hcn := RF_ne hra hrt
  have kC' := kC
  have kM' := kM
  have w' := w
  obtain ⟨c1, c2, c3, ⟨c4, c5⟩, c6, c7⟩ := kC
  obtain ⟨m1, m2, m3, m4, m6, m7⟩ := kM
  obtain ⟨w1, w2, w3, w4, w5, w6⟩ := w
  exact c_X9_pass (hR := hR) (hct := hct) (hrt := hrt) (hC := c1) (wC := w1) (hD := c2) (wD := w2) (hN := ⟨hN.1, Int.le_trans hN.2 (by decide)⟩) (hr := hr) (hk := ⟨_, rfl, c_X10_pass (hR := hR1) (hM := m1) (wC := w1) (hM2 := m2) (wD := w2) (hN := ⟨hN.1, Int.le_trans hN.2 (by decide)⟩) (hr := hr) (hk := ⟨rfl, INV_mk hR hrt hra kC' kM' (WF_mono (Int.le_add_of_nonneg_right (by decide)) w')⟩)⟩)
theorem op_earned {l : Launch} {σ : aw_S} {N : Int} (hI0 : INV σ N) (hN : 0 ≤ N ∧ N ≤ 999) {w : Int} (hr : (-2147483648 ≤ w ∧ w ≤ 2147483647)) : AE l yX9_earned cX9_earned 7 (some .int) 1 22 0 0 SH SH σ [.ref 0, .int (jI w)] (fun v1 σ1 => ∃ vv : Int, v1 = some (.int (jI vv)) ∧ AE l yX10_earned cX10_earned 5 (some .int) 1 22 0 0 SH SH σ1 [.ref 171, .int (jI w)] (fun v2 σ2 => v2 = some (.int (jI vv)) ∧ INV σ2 (N + 1))) := by
  obtain ⟨tw, cs, t, ad, m, ⟨hR, hrt, hra⟩, kC, kM, w⟩ := hI0
  have hct : isCity t := (tw_n hra hrt).1.2
  have hca : isCity ad := (tw_n hra hrt).1.1
  have hR1 := hR
  have hcn := RF_ne hra hrt
  have kC' := kC
  have kM' := kM
  have w' := w
  obtain ⟨c1, c2, c3, ⟨c4, c5⟩, c6, c7⟩ := kC
  obtain ⟨m1, m2, m3, m4, m6, m7⟩ := kM
  obtain ⟨w1, w2, w3, w4, w5, w6⟩ := w
  exact c_X9_earned (hR := hR) (hct := hct) (hrt := hrt) (hC := c1) (wC := w1) (hD := c2) (wD := w2) (hN := ⟨hN.1, Int.le_trans hN.2 (by decide)⟩) (hr := hr) (hk := ⟨_, rfl, c_X10_earned (hR := hR1) (hM := m1) (wC := w1) (hM2 := m2) (wD := w2) (hN := ⟨hN.1, Int.le_trans hN.2 (by decide)⟩) (hr := hr) (hk := ⟨rfl, INV_mk hR hrt hra kC' kM' (WF_mono (Int.le_add_of_nonneg_right (by decide)) w')⟩)⟩)
theorem op_count {l : Launch} {σ : aw_S} {N : Int} (hI0 : INV σ N) (hN : 0 ≤ N ∧ N ≤ 999) {w : Int} (hr : (-2147483648 ≤ w ∧ w ≤ 2147483647)) : AE l yX9_count cX9_count 2 (some .int) 1 23 0 0 SH SH σ [.ref 0, .int (jI w)] (fun v1 σ1 => ∃ vv : Int, v1 = some (.int (jI vv)) ∧ AE l yX10_count cX10_count 4 (some .int) 1 22 0 0 SH SH σ1 [.ref 171, .int (jI w)] (fun v2 σ2 => v2 = some (.int (jI vv)) ∧ INV σ2 (N + 1))) := by
  obtain ⟨tw, cs, t, ad, m, ⟨hR, hrt, hra⟩, kC, kM, w⟩ := hI0
  have hct : isCity t := (tw_n hra hrt).1.2
  have hca : isCity ad := (tw_n hra hrt).1.1
  have hR1 := hR
  have hcn := RF_ne hra hrt
  have kC' := kC
  have kM' := kM
  have w' := w
  obtain ⟨c1, c2, c3, ⟨c4, c5⟩, c6, c7⟩ := kC
  obtain ⟨m1, m2, m3, m4, m6, m7⟩ := kM
  obtain ⟨w1, w2, w3, w4, w5, w6⟩ := w
  exact c_X9_count (hR := hR) (hct := hct) (hrt := hrt) (hC := c1) (wC := w1) (hD := c2) (wD := w2) (hN := ⟨hN.1, Int.le_trans hN.2 (by decide)⟩) (hr := hr) (hb := c3.1) (ht := c7.1) (hk := ⟨_, rfl, c_X10_count (hR := hR1) (hM := m1) (wC := w1) (hM2 := m2) (wD := w2) (hN := ⟨hN.1, Int.le_trans hN.2 (by decide)⟩) (hr := hr) (hb := m3.1) (ht := m7.1) (hk := ⟨rfl, INV_mk hR hrt hra kC' kM' (WF_mono (Int.le_add_of_nonneg_right (by decide)) w')⟩)⟩)
theorem change_fr2 {m : mS} {N c e : Int} (wC : wfCity m) (wD : wfDay m 0 N) (h : vchange m c e) : frm m (mchange m c e) := by
  refine change_frm ?_
  have h' := h
  unfold vchange vst at h'
  have := wC.1
  have g := (wfDay_0 wD).2.2.2.2.1 c (by omega) (by omega)
  unfold wfCab at g
  omega
theorem op_cab {l : Launch} {σ : aw_S} {N : Int} (hI0 : INV σ N) (hN : 0 ≤ N ∧ N ≤ 999) {z p : Int} (hr : (-2147483648 ≤ z ∧ z ≤ 2147483647) ∧ (-2147483648 ≤ p ∧ p ≤ 2147483647)) : AE l yX9_cab cX9_cab 3 (some .int) 3 65 0 0 SH SH σ [.ref 0, .int (jI z), .int (jI p)] (fun v1 σ1 => ∃ vv : Int, v1 = some (.int (jI vv)) ∧ AE l yX10_cab cX10_cab 4 (some .int) 1 23 0 0 SH SH σ1 [.ref 171, .int (jI z), .int (jI p)] (fun v2 σ2 => v2 = some (.int (jI vv)) ∧ INV σ2 (N + 1))) := by
  obtain ⟨tw, cs, t, ad, m, ⟨hR, hrt, hra⟩, kC, kM, w⟩ := hI0
  have hct : isCity t := (tw_n hra hrt).1.2
  have hca : isCity ad := (tw_n hra hrt).1.1
  have hR1 := hR
  have hcn := RF_ne hra hrt
  have kC' := kC
  have kM' := kM
  have w' := w
  obtain ⟨c1, c2, c3, ⟨c4, c5⟩, c6, c7⟩ := kC
  obtain ⟨m1, m2, m3, m4, m6, m7⟩ := kM
  obtain ⟨w1, w2, w3, w4, w5, w6⟩ := w
  refine c_X9_cab (hR := hR) (hct := hct) (hrt := hrt) (hC := c1) (wC := w1) (hD := c2) (wD := w2) (hN := ⟨hN.1, Int.le_trans hN.2 (by decide)⟩) (hr := hr) (h1 := ?_) (h0 := ?_)
  · intro hv σ1 d1 f1
    have hR1 : σ1.2.2 = RF tw cs := (congrArg Prod.snd f1.2).trans hR
    have kM1 := KM_hi w' (fun b j q => f1.1 b j (by omega)) kM'
    obtain ⟨m1, m2, m3, m4, m6, m7⟩ := kM1
    refine ⟨_, rfl, c_X10_cab (hR := hR1) (hM := m1) (wC := w1) (hM2 := m2) (wD := w2) (hN := ⟨hN.1, Int.le_trans hN.2 (by decide)⟩) (hr := hr) (h1 := ?_) (h0 := ?_)⟩
    · intro _ σ2 d2 f2
      exact ⟨rfl, day_fin ((congrArg Prod.snd f2.2).trans hR1) hrt hra kC' kM' w' (cab_frm w2.2.1) (wfDay_mono (Int.le_add_of_nonneg_right (by decide)) (cab_wf w1 hN.1 w2 hv)) (fun b j q1 q2 => f1.1 b j q1) d1 (fun b j q1 q2 q3 => f2.1 b j q1 q3) d2⟩
    · intro q; exact absurd hv q
  · intro hv
    refine ⟨_, rfl, c_X10_cab (hR := hR1) (hM := m1) (wC := w1) (hM2 := m2) (wD := w2) (hN := ⟨hN.1, Int.le_trans hN.2 (by decide)⟩) (hr := hr) (h1 := ?_) (h0 := ?_)⟩
    · intro q; exact absurd q hv
    · intro _; exact ⟨rfl, INV_mk hR hrt hra kC' kM' (WF_mono (Int.le_add_of_nonneg_right (by decide)) w')⟩
theorem op_drive {l : Launch} {σ : aw_S} {N : Int} (hI0 : INV σ N) (hN : 0 ≤ N ∧ N ≤ 999) {c r : Int} (hr : (-2147483648 ≤ c ∧ c ≤ 2147483647) ∧ (-2147483648 ≤ r ∧ r ≤ 2147483647)) : AE l yX9_drive cX9_drive 3 (some .boolean) 4 101 0 0 SH SH σ [.ref 0, .int (jI c), .int (jI r)] (fun v1 σ1 => ∃ vv : Int, v1 = some (.int (jI vv)) ∧ AE l yX10_drive cX10_drive 3 (some .boolean) 3 73 0 0 SH SH σ1 [.ref 171, .int (jI c), .int (jI r)] (fun v2 σ2 => v2 = some (.int (jI vv)) ∧ INV σ2 (N + 1))) := by
  obtain ⟨tw, cs, t, ad, m, ⟨hR, hrt, hra⟩, kC, kM, w⟩ := hI0
  have hct : isCity t := (tw_n hra hrt).1.2
  have hca : isCity ad := (tw_n hra hrt).1.1
  have hR1 := hR
  have hcn := RF_ne hra hrt
  have kC' := kC
  have kM' := kM
  have w' := w
  obtain ⟨c1, c2, c3, ⟨c4, c5⟩, c6, c7⟩ := kC
  obtain ⟨m1, m2, m3, m4, m6, m7⟩ := kM
  obtain ⟨w1, w2, w3, w4, w5, w6⟩ := w
  refine c_X9_drive (hR := hR) (hct := hct) (hrt := hrt) (hC := c1) (wC := w1) (hD := c2) (wD := w2) (hN := ⟨hN.1, Int.le_trans hN.2 (by decide)⟩) (hr := hr) (h1 := ?_) (h0 := ?_)
  · intro hv σ1 d1 f1
    have hR1 : σ1.2.2 = RF tw cs := (congrArg Prod.snd f1.2).trans hR
    have kM1 := KM_hi w' (fun b j q => f1.1 b j (by omega)) kM'
    obtain ⟨m1, m2, m3, m4, m6, m7⟩ := kM1
    refine ⟨_, rfl, c_X10_drive (hR := hR1) (hM := m1) (wC := w1) (hM2 := m2) (wD := w2) (hN := ⟨hN.1, Int.le_trans hN.2 (by decide)⟩) (hr := hr) (h1 := ?_) (h0 := ?_)⟩
    · intro _ σ2 d2 f2
      exact ⟨rfl, day_fin ((congrArg Prod.snd f2.2).trans hR1) hrt hra kC' kM' w' (by have q := hv; unfold vdrive at q; have := w2.2.1; have := w1.1; exact dr_frm (by omega) (by omega)) (wfDay_mono (Int.le_add_of_nonneg_right (by decide)) (dr_wf w1 hN.1 w2 hv)) (fun b j q1 q2 => f1.1 b j q1) d1 (fun b j q1 q2 q3 => f2.1 b j q1 q3) d2⟩
    · intro q; exact absurd hv q
  · intro hv
    refine ⟨_, rfl, c_X10_drive (hR := hR1) (hM := m1) (wC := w1) (hM2 := m2) (wD := w2) (hN := ⟨hN.1, Int.le_trans hN.2 (by decide)⟩) (hr := hr) (h1 := ?_) (h0 := ?_)⟩
    · intro q; exact absurd q hv
    · intro _; exact ⟨rfl, INV_mk hR hrt hra kC' kM' (WF_mono (Int.le_add_of_nonneg_right (by decide)) w')⟩
theorem op_take {l : Launch} {σ : aw_S} {N : Int} (hI0 : INV σ N) (hN : 0 ≤ N ∧ N ≤ 999) {r mi p : Int} (hr : (-2147483648 ≤ r ∧ r ≤ 2147483647) ∧ (-2147483648 ≤ mi ∧ mi ≤ 2147483647) ∧ (-2147483648 ≤ p ∧ p ≤ 2147483647)) : AE l yX9_take cX9_take 5 (some .int) 6 135 0 0 SH SH σ [.ref 0, .int (jI r), .int (jI mi), .int (jI p)] (fun v1 σ1 => ∃ vv : Int, v1 = some (.int (jI vv)) ∧ AE l yX10_take cX10_take 5 (some .int) 3 69 0 0 SH SH σ1 [.ref 171, .int (jI r), .int (jI mi), .int (jI p)] (fun v2 σ2 => v2 = some (.int (jI vv)) ∧ INV σ2 (N + 1))) := by
  obtain ⟨tw, cs, t, ad, m, ⟨hR, hrt, hra⟩, kC, kM, w⟩ := hI0
  have hct : isCity t := (tw_n hra hrt).1.2
  have hca : isCity ad := (tw_n hra hrt).1.1
  have hR1 := hR
  have hcn := RF_ne hra hrt
  have kC' := kC
  have kM' := kM
  have w' := w
  obtain ⟨c1, c2, c3, ⟨c4, c5⟩, c6, c7⟩ := kC
  obtain ⟨m1, m2, m3, m4, m6, m7⟩ := kM
  obtain ⟨w1, w2, w3, w4, w5, w6⟩ := w
  refine c_X9_take (hR := hR) (hct := hct) (hrt := hrt) (hC := c1) (wC := w1) (hD := c2) (wD := w2) (hN := ⟨hN.1, Int.le_trans hN.2 (by decide)⟩) (hr := hr) (h1 := ?_) (h0 := ?_)
  · intro hv σ1 d1 f1
    have hR1 : σ1.2.2 = RF tw cs := (congrArg Prod.snd f1.2).trans hR
    have kM1 := KM_hi w' (fun b j q => f1.1 b j (by omega)) kM'
    obtain ⟨m1, m2, m3, m4, m6, m7⟩ := kM1
    refine ⟨_, rfl, c_X10_take (hR := hR1) (hM := m1) (wC := w1) (hM2 := m2) (wD := w2) (hN := ⟨hN.1, Int.le_trans hN.2 (by decide)⟩) (hr := hr) (h1 := ?_) (h0 := ?_)⟩
    · intro _ σ2 d2 f2
      exact ⟨rfl, day_fin ((congrArg Prod.snd f2.2).trans hR1) hrt hra kC' kM' w' (take_frm w1 w2 hv) (take_wf w1 hN.1 w2 hv) (fun b j q1 q2 => f1.1 b j q1) d1 (fun b j q1 q2 q3 => f2.1 b j q1 q3) d2⟩
    · intro q; exact absurd hv q
  · intro hv
    refine ⟨_, rfl, c_X10_take (hR := hR1) (hM := m1) (wC := w1) (hM2 := m2) (wD := w2) (hN := ⟨hN.1, Int.le_trans hN.2 (by decide)⟩) (hr := hr) (h1 := ?_) (h0 := ?_)⟩
    · intro q; exact absurd q hv
    · intro _; exact ⟨rfl, INV_mk hR hrt hra kC' kM' (WF_mono (Int.le_add_of_nonneg_right (by decide)) w')⟩
theorem op_call {l : Launch} {σ : aw_S} {N : Int} (hI0 : INV σ N) (hN : 0 ≤ N ∧ N ≤ 999) {c mi p : Int} (hr : (-2147483648 ≤ c ∧ c ≤ 2147483647) ∧ (-2147483648 ≤ mi ∧ mi ≤ 2147483647) ∧ (-2147483648 ≤ p ∧ p ≤ 2147483647)) : AE l yX9_call cX9_call 4 (some .boolean) 6 135 0 0 SH SH σ [.ref 0, .int (jI c), .int (jI mi), .int (jI p)] (fun v1 σ1 => ∃ vv : Int, v1 = some (.int (jI vv)) ∧ AE l yX10_call cX10_call 5 (some .boolean) 3 69 0 0 SH SH σ1 [.ref 171, .int (jI c), .int (jI mi), .int (jI p)] (fun v2 σ2 => v2 = some (.int (jI vv)) ∧ INV σ2 (N + 1))) := by
  obtain ⟨tw, cs, t, ad, m, ⟨hR, hrt, hra⟩, kC, kM, w⟩ := hI0
  have hct : isCity t := (tw_n hra hrt).1.2
  have hca : isCity ad := (tw_n hra hrt).1.1
  have hR1 := hR
  have hcn := RF_ne hra hrt
  have kC' := kC
  have kM' := kM
  have w' := w
  obtain ⟨c1, c2, c3, ⟨c4, c5⟩, c6, c7⟩ := kC
  obtain ⟨m1, m2, m3, m4, m6, m7⟩ := kM
  obtain ⟨w1, w2, w3, w4, w5, w6⟩ := w
  refine c_X9_call (hR := hR) (hct := hct) (hrt := hrt) (hC := c1) (wC := w1) (hD := c2) (wD := w2) (hN := ⟨hN.1, Int.le_trans hN.2 (by decide)⟩) (hr := hr) (h1 := ?_) (h0 := ?_)
  · intro hv hv2 σ1 d1 f1
    have hR1 : σ1.2.2 = RF tw cs := (congrArg Prod.snd f1.2).trans hR
    have kM1 := KM_hi w' (fun b j q => f1.1 b j (by omega)) kM'
    obtain ⟨m1, m2, m3, m4, m6, m7⟩ := kM1
    refine ⟨_, rfl, c_X10_call (hR := hR1) (hM := m1) (wC := w1) (hM2 := m2) (wD := w2) (hN := ⟨hN.1, Int.le_trans hN.2 (by decide)⟩) (hN9 := hN.2) (hr := hr) (h1 := ?_) (h0 := ?_)⟩
    · intro _ _ σ2 d2 f2
      exact ⟨rfl, day_fin ((congrArg Prod.snd f2.2).trans hR1) hrt hra kC' kM' w' (call_frm w1 w2 hv) (call_wf w1 hN.1 w2 hv hv2) (fun b j q1 q2 => f1.1 b j q1) d1 (fun b j q1 q2 q3 => f2.1 b j q1 q3) d2⟩
    · intro q; exact absurd ⟨hv, hv2⟩ q
  · intro hv
    refine ⟨_, rfl, c_X10_call (hR := hR1) (hM := m1) (wC := w1) (hM2 := m2) (wD := w2) (hN := ⟨hN.1, Int.le_trans hN.2 (by decide)⟩) (hN9 := hN.2) (hr := hr) (h1 := ?_) (h0 := ?_)⟩
    · intro q1 q2; exact absurd ⟨q1, q2⟩ hv
    · intro _; exact ⟨rfl, INV_mk hR hrt hra kC' kM' (WF_mono (Int.le_add_of_nonneg_right (by decide)) w')⟩
theorem op_refuse {l : Launch} {σ : aw_S} {N : Int} (hI0 : INV σ N) (hN : 0 ≤ N ∧ N ≤ 999) {r : Int} (hr : (-2147483648 ≤ r ∧ r ≤ 2147483647)) : AE l yX9_refuse cX9_refuse 4 (some .int) 5 110 0 0 SH SH σ [.ref 0, .int (jI r)] (fun v1 σ1 => ∃ vv : Int, v1 = some (.int (jI vv)) ∧ AE l yX10_refuse cX10_refuse 4 (some .int) 2 43 0 0 SH SH σ1 [.ref 171, .int (jI r)] (fun v2 σ2 => v2 = some (.int (jI vv)) ∧ INV σ2 (N + 1))) := by
  obtain ⟨tw, cs, t, ad, m, ⟨hR, hrt, hra⟩, kC, kM, w⟩ := hI0
  have hct : isCity t := (tw_n hra hrt).1.2
  have hca : isCity ad := (tw_n hra hrt).1.1
  have hR1 := hR
  have hcn := RF_ne hra hrt
  have kC' := kC
  have kM' := kM
  have w' := w
  obtain ⟨c1, c2, c3, ⟨c4, c5⟩, c6, c7⟩ := kC
  obtain ⟨m1, m2, m3, m4, m6, m7⟩ := kM
  obtain ⟨w1, w2, w3, w4, w5, w6⟩ := w
  refine c_X9_refuse (hR := hR) (hct := hct) (hrt := hrt) (hC := c1) (wC := w1) (hD := c2) (wD := w2) (hN := ⟨hN.1, Int.le_trans hN.2 (by decide)⟩) (hr := hr) (h1 := ?_) (h0 := ?_)
  · intro hv σ1 d1 f1
    have hR1 : σ1.2.2 = RF tw cs := (congrArg Prod.snd f1.2).trans hR
    have kM1 := KM_hi w' (fun b j q => f1.1 b j (by omega)) kM'
    obtain ⟨m1, m2, m3, m4, m6, m7⟩ := kM1
    refine ⟨_, rfl, c_X10_refuse (hR := hR1) (hM := m1) (wC := w1) (hM2 := m2) (wD := w2) (hN := ⟨hN.1, Int.le_trans hN.2 (by decide)⟩) (hr := hr) (h1 := ?_) (h0 := ?_)⟩
    · intro _ σ2 d2 f2
      exact ⟨rfl, day_fin ((congrArg Prod.snd f2.2).trans hR1) hrt hra kC' kM' w' (by have q := hv; unfold vref at q; have := w1.1; exact refuse_frm (by omega)) (wfDay_mono (Int.le_add_of_nonneg_right (by decide)) (refuse_wf w1 w2 hv)) (fun b j q1 q2 => f1.1 b j q1) d1 (fun b j q1 q2 q3 => f2.1 b j q1 q3) d2⟩
    · intro q; exact absurd hv q
  · intro hv
    refine ⟨_, rfl, c_X10_refuse (hR := hR1) (hM := m1) (wC := w1) (hM2 := m2) (wD := w2) (hN := ⟨hN.1, Int.le_trans hN.2 (by decide)⟩) (hr := hr) (h1 := ?_) (h0 := ?_)⟩
    · intro q; exact absurd q hv
    · intro _; exact ⟨rfl, INV_mk hR hrt hra kC' kM' (WF_mono (Int.le_add_of_nonneg_right (by decide)) w')⟩
theorem op_change {l : Launch} {σ : aw_S} {N : Int} (hI0 : INV σ N) (hN : 0 ≤ N ∧ N ≤ 999) {c e : Int} (hr : (-2147483648 ≤ c ∧ c ≤ 2147483647) ∧ (-2147483648 ≤ e ∧ e ≤ 2147483647)) : AE l yX9_change cX9_change 6 (some .boolean) 4 87 0 0 SH SH σ [.ref 0, .int (jI c), .int (jI e)] (fun v1 σ1 => ∃ vv : Int, v1 = some (.int (jI vv)) ∧ AE l yX10_change cX10_change 6 (some .boolean) 3 65 0 0 SH SH σ1 [.ref 171, .int (jI c), .int (jI e)] (fun v2 σ2 => v2 = some (.int (jI vv)) ∧ INV σ2 (N + 1))) := by
  obtain ⟨tw, cs, t, ad, m, ⟨hR, hrt, hra⟩, kC, kM, w⟩ := hI0
  have hct : isCity t := (tw_n hra hrt).1.2
  have hca : isCity ad := (tw_n hra hrt).1.1
  have hR1 := hR
  have hcn := RF_ne hra hrt
  have kC' := kC
  have kM' := kM
  have w' := w
  obtain ⟨c1, c2, c3, ⟨c4, c5⟩, c6, c7⟩ := kC
  obtain ⟨m1, m2, m3, m4, m6, m7⟩ := kM
  obtain ⟨w1, w2, w3, w4, w5, w6⟩ := w
  refine c_X9_change (hR := hR) (hct := hct) (hrt := hrt) (hC := c1) (wC := w1) (hD := c2) (wD := w2) (hN := ⟨hN.1, Int.le_trans hN.2 (by decide)⟩) (hr := hr) (h1 := ?_) (h0 := ?_)
  · intro hv σ1 d1 f1
    have hR1 : σ1.2.2 = RF tw cs := (congrArg Prod.snd f1.2).trans hR
    have kM1 := KM_hi w' (fun b j q => f1.1 b j (by omega)) kM'
    obtain ⟨m1, m2, m3, m4, m6, m7⟩ := kM1
    refine ⟨_, rfl, c_X10_change (hR := hR1) (hM := m1) (wC := w1) (hM2 := m2) (wD := w2) (hN := ⟨hN.1, Int.le_trans hN.2 (by decide)⟩) (hr := hr) (h1 := ?_) (h0 := ?_)⟩
    · intro _ σ2 d2 f2
      exact ⟨rfl, day_fin ((congrArg Prod.snd f2.2).trans hR1) hrt hra kC' kM' w' (change_fr2 w1 w2 hv) (wfDay_mono (Int.le_add_of_nonneg_right (by decide)) (change_wf w1 w2 hv)) (fun b j q1 q2 => f1.1 b j q1) d1 (fun b j q1 q2 q3 => f2.1 b j q1 q3) d2⟩
    · intro q; exact absurd hv q
  · intro hv
    refine ⟨_, rfl, c_X10_change (hR := hR1) (hM := m1) (wC := w1) (hM2 := m2) (wD := w2) (hN := ⟨hN.1, Int.le_trans hN.2 (by decide)⟩) (hr := hr) (h1 := ?_) (h0 := ?_)⟩
    · intro q; exact absurd q hv
    · intro _; exact ⟨rfl, INV_mk hR hrt hra kC' kM' (WF_mono (Int.le_add_of_nonneg_right (by decide)) w')⟩
theorem op_go {l : Launch} {σ : aw_S} {N : Int} (hI0 : INV σ N) (hN : 0 ≤ N ∧ N ≤ 999) {nn : Int} (hr : (-2147483648 ≤ nn ∧ nn ≤ 2147483647)) : AE l yX9_go cX9_go 3 (some .int) 5 121 0 0 SH SH σ [.ref 0, .int (jI nn)] (fun v1 σ1 => ∃ vv : Int, v1 = some (.int (jI vv)) ∧ AE l yX10_go cX10_go 5 (some .int) 3 73 0 0 SH SH σ1 [.ref 171, .int (jI nn)] (fun v2 σ2 => v2 = some (.int (jI vv)) ∧ INV σ2 (N + 1))) := by
  obtain ⟨tw, cs, t, ad, m, ⟨hR, hrt, hra⟩, kC, kM, w⟩ := hI0
  have hct : isCity t := (tw_n hra hrt).1.2
  have hca : isCity ad := (tw_n hra hrt).1.1
  have hR1 := hR
  have hcn := RF_ne hra hrt
  have kC' := kC
  have kM' := kM
  have w' := w
  obtain ⟨c1, c2, c3, ⟨c4, c5⟩, c6, c7⟩ := kC
  obtain ⟨m1, m2, m3, m4, m6, m7⟩ := kM
  obtain ⟨w1, w2, w3, w4, w5, w6⟩ := w
  refine c_X9_go (hR := hR) (hct := hct) (hrt := hrt) (hC := c1) (wC := w1) (hD := c2) (wD := w2) (hN := ⟨hN.1, Int.le_trans hN.2 (by decide)⟩) (hN9 := hN.2) (hr := hr) (h1 := ?_) (h0 := ?_)
  · intro hv σ1 d1 f1
    have hR1 : σ1.2.2 = RF tw cs := (congrArg Prod.snd f1.2).trans hR
    have kM1 := KM_hi w' (fun b j q => f1.1 b j (by omega)) kM'
    obtain ⟨m1, m2, m3, m4, m6, m7⟩ := kM1
    refine ⟨_, rfl, c_X10_go (hR := hR1) (hM := m1) (wC := w1) (hM2 := m2) (wD := w2) (hN := ⟨hN.1, Int.le_trans hN.2 (by decide)⟩) (hN9 := hN.2) (hr := hr) (h1 := ?_) (h0 := ?_)⟩
    · intro _ σ2 d2 f2
      exact ⟨rfl, day_fin ((congrArg Prod.snd f2.2).trans hR1) hrt hra kC' kM' w' ((go_wf w1 hN.1 w2 _ (by have q := hv; unfold vgo at q; omega)).2.1) ((go_wf w1 hN.1 w2 _ (by have q := hv; unfold vgo at q; omega)).1.1) (fun b j q1 q2 => f1.1 b j q1) d1 (fun b j q1 q2 q3 => f2.1 b j q1 q3) d2⟩
    · intro q; exact absurd hv q
  · intro hv
    refine ⟨_, rfl, c_X10_go (hR := hR1) (hM := m1) (wC := w1) (hM2 := m2) (wD := w2) (hN := ⟨hN.1, Int.le_trans hN.2 (by decide)⟩) (hN9 := hN.2) (hr := hr) (h1 := ?_) (h0 := ?_)⟩
    · intro q; exact absurd q hv
    · intro _; exact ⟨rfl, INV_mk hR hrt hra kC' kM' (WF_mono (Int.le_add_of_nonneg_right (by decide)) w')⟩
theorem op_people {l : Launch} {σ : aw_S} {N : Int} (hI0 : INV σ N) (hN : 0 ≤ N ∧ N ≤ 999) {r v : Int} (hr : (-2147483648 ≤ r ∧ r ≤ 2147483647) ∧ (-2147483648 ≤ v ∧ v ≤ 2147483647)) : AE l yX9_people cX9_people 3 (some .boolean) 2 43 0 0 SH SH σ [.ref 0, .int (jI r), .int (jI v)] (fun v1 σ1 => ∃ vv : Int, v1 = some (.int (jI vv)) ∧ AE l yX10_people cX10_people 3 (some .boolean) 2 43 0 0 SH SH σ1 [.ref 171, .int (jI r), .int (jI v)] (fun v2 σ2 => v2 = some (.int (jI vv)) ∧ INV σ2 (N + 1))) := by
  obtain ⟨tw, cs, t, ad, m, ⟨hR, hrt, hra⟩, kC, kM, w⟩ := hI0
  have hct : isCity t := (tw_n hra hrt).1.2
  have hca : isCity ad := (tw_n hra hrt).1.1
  have hR1 := hR
  have hcn := RF_ne hra hrt
  have kC' := kC
  have kM' := kM
  have w' := w
  obtain ⟨c1, c2, c3, ⟨c4, c5⟩, c6, c7⟩ := kC
  obtain ⟨m1, m2, m3, m4, m6, m7⟩ := kM
  obtain ⟨w1, w2, w3, w4, w5, w6⟩ := w
  refine c_X9_people (hR := hR) (hct := hct) (hrt := hrt) (hC := c1) (wC := w1) (hD := c2) (wD := w2) (hN := ⟨hN.1, Int.le_trans hN.2 (by decide)⟩) (hr := hr) (h1 := ?_) (h0 := ?_)
  · intro hv σ1 d1 f1
    have hR1 : σ1.2.2 = RF tw cs := (congrArg Prod.snd f1.2).trans hR
    have kM1 := KM_hi w' (fun b j q => f1.1 b j (by omega)) kM'
    obtain ⟨m1, m2, m3, m4, m6, m7⟩ := kM1
    refine ⟨_, rfl, c_X10_people (hR := hR1) (hM := m1) (wC := w1) (hM2 := m2) (wD := w2) (hN := ⟨hN.1, Int.le_trans hN.2 (by decide)⟩) (hr := hr) (h1 := ?_) (h0 := ?_)⟩
    · intro _ σ2 d2 f2
      exact ⟨rfl, day_fin ((congrArg Prod.snd f2.2).trans hR1) hrt hra kC' kM' w' (people_frm) (wfDay_mono (Int.le_add_of_nonneg_right (by decide)) (people_wf w1 w2 hv)) (fun b j q1 q2 => f1.1 b j q1) d1 (fun b j q1 q2 q3 => f2.1 b j q1 q3) d2⟩
    · intro q; exact absurd hv q
  · intro hv
    refine ⟨_, rfl, c_X10_people (hR := hR1) (hM := m1) (wC := w1) (hM2 := m2) (wD := w2) (hN := ⟨hN.1, Int.le_trans hN.2 (by decide)⟩) (hr := hr) (h1 := ?_) (h0 := ?_)⟩
    · intro q; exact absurd q hv
    · intro _; exact ⟨rfl, INV_mk hR hrt hra kC' kM' (WF_mono (Int.le_add_of_nonneg_right (by decide)) w')⟩
theorem op_wish {l : Launch} {σ : aw_S} {N : Int} (hI0 : INV σ N) (hN : 0 ≤ N ∧ N ≤ 999) {c r : Int} (hr : (-2147483648 ≤ c ∧ c ≤ 2147483647) ∧ (-2147483648 ≤ r ∧ r ≤ 2147483647)) : AE l yX9_wish cX9_wish 3 (some .boolean) 3 64 0 0 SH SH σ [.ref 0, .int (jI c), .int (jI r)] (fun v1 σ1 => ∃ vv : Int, v1 = some (.int (jI vv)) ∧ AE l yX10_wish cX10_wish 3 (some .boolean) 3 65 0 0 SH SH σ1 [.ref 171, .int (jI c), .int (jI r)] (fun v2 σ2 => v2 = some (.int (jI vv)) ∧ INV σ2 (N + 1))) := by
  obtain ⟨tw, cs, t, ad, m, ⟨hR, hrt, hra⟩, kC, kM, w⟩ := hI0
  have hct : isCity t := (tw_n hra hrt).1.2
  have hca : isCity ad := (tw_n hra hrt).1.1
  have hR1 := hR
  have hcn := RF_ne hra hrt
  have kC' := kC
  have kM' := kM
  have w' := w
  obtain ⟨c1, c2, c3, ⟨c4, c5⟩, c6, c7⟩ := kC
  obtain ⟨m1, m2, m3, m4, m6, m7⟩ := kM
  obtain ⟨w1, w2, w3, w4, w5, w6⟩ := w
  refine c_X9_wish (hR := hR) (hct := hct) (hrt := hrt) (hC := c1) (wC := w1) (hD := c2) (wD := w2) (hN := ⟨hN.1, Int.le_trans hN.2 (by decide)⟩) (hr := hr) (h1 := ?_) (h0 := ?_)
  · intro hv σ1 d1 f1
    have hR1 : σ1.2.2 = RF tw cs := (congrArg Prod.snd f1.2).trans hR
    have kM1 := KM_hi w' (fun b j q => f1.1 b j (by omega)) kM'
    obtain ⟨m1, m2, m3, m4, m6, m7⟩ := kM1
    refine ⟨_, rfl, c_X10_wish (hR := hR1) (hM := m1) (wC := w1) (hM2 := m2) (wD := w2) (hN := ⟨hN.1, Int.le_trans hN.2 (by decide)⟩) (hr := hr) (h1 := ?_) (h0 := ?_)⟩
    · intro _ σ2 d2 f2
      exact ⟨rfl, day_fin ((congrArg Prod.snd f2.2).trans hR1) hrt hra kC' kM' w' (by have q := hv; unfold vwish at q; have := w2.2.1; exact wish_frm (by omega)) (wfDay_mono (Int.le_add_of_nonneg_right (by decide)) (wish_wf w1 w2 hv)) (fun b j q1 q2 => f1.1 b j q1) d1 (fun b j q1 q2 q3 => f2.1 b j q1 q3) d2⟩
    · intro q; exact absurd hv q
  · intro hv
    refine ⟨_, rfl, c_X10_wish (hR := hR1) (hM := m1) (wC := w1) (hM2 := m2) (wD := w2) (hN := ⟨hN.1, Int.le_trans hN.2 (by decide)⟩) (hr := hr) (h1 := ?_) (h0 := ?_)⟩
    · intro q; exact absurd q hv
    · intro _; exact ⟨rfl, INV_mk hR hrt hra kC' kM' (WF_mono (Int.le_add_of_nonneg_right (by decide)) w')⟩
theorem op_turn {l : Launch} {σ : aw_S} {N : Int} (hI0 : INV σ N) (hN : 0 ≤ N ∧ N ≤ 999)  : AE l yX9_turn cX9_turn 2 (some .int) 6 143 0 0 SH SH σ [.ref 0] (fun v1 σ1 => ∃ vv : Int, v1 = some (.int (jI vv)) ∧ AE l yX10_turn cX10_turn 5 (some .int) 3 69 0 0 SH SH σ1 [.ref 171] (fun v2 σ2 => v2 = some (.int (jI vv)) ∧ INV σ2 (N + 1))) := by
  obtain ⟨tw, cs, t, ad, m, ⟨hR, hrt, hra⟩, kC, kM, w⟩ := hI0
  have hct : isCity t := (tw_n hra hrt).1.2
  have hca : isCity ad := (tw_n hra hrt).1.1
  have hR1 := hR
  have hcn := RF_ne hra hrt
  have kC' := kC
  have kM' := kM
  have w' := w
  obtain ⟨c1, c2, c3, ⟨c4, c5⟩, c6, c7⟩ := kC
  obtain ⟨m1, m2, m3, m4, m6, m7⟩ := kM
  obtain ⟨w1, w2, w3, w4, w5, w6⟩ := w
  refine c_X9_turn (hR := hR) (hct := hct) (hrt := hrt) (hC := c1) (wC := w1) (hD := c2) (wD := w2) (hN := ⟨hN.1, Int.le_trans hN.2 (by decide)⟩) (hk := ?_)
  intro σ1 S hS d1 f1
  have hR1 : σ1.2.2 = RF tw cs := (congrArg Prod.snd f1.2).trans hR
  have kM1 := KM_hi w' (fun b j q => f1.1 b j (by omega) (by omega) (by omega) (by omega)) kM'
  obtain ⟨m1, m2, m3, m4, m6, m7⟩ := kM1
  refine ⟨_, rfl, c_X10_turn (hR := hR1) (hM := m1) (wC := w1) (hM2 := m2) (wD := w2) (hN := ⟨hN.1, Int.le_trans hN.2 (by decide)⟩) (hk := ?_)⟩
  intro σ2 S2 hS2 d2 f2
  obtain rfl := bst_u hS hS2
  exact ⟨rfl, day_fin ((congrArg Prod.snd f2.2).trans hR1) hrt hra kC' kM' w' (frm_turn w1 w2 hS.2.1 hS.2.2.1) (wfDay_mono (Int.le_add_of_nonneg_right (by decide)) (wf_turn w1 w2 hS.2.1 hS.2.2.1)) (fun b j q1 q2 => f1.1 b j q1 (by omega) (by omega) (by omega)) d1 (fun b j q1 q2 q3 => f2.1 b j q1 q2 q3) d2⟩
theorem wo_fin {σ σ1 σ2 : aw_S} {N : Int} {tw cs : Bool} {t a : Nat} {m : mS} (hR2 : σ2.2.2 = RF tw cs) (hrt : RF tw cs 0 1 = some t) (hra : RF tw cs 1 2 = some a) (kC : KC σ t m) (kM : KM σ m) (w : WF m N)
    (f1 : frW σ σ1) (hm : mmo σ1 m) (f2 : frX σ1 σ2) : INV σ2 (N + 1) := by
  have hct : isCity t := (tw_n hra hrt).1.2
  have h13 : t = 3 ∨ t = 13 := hct
  obtain ⟨k1, k2, k3, ⟨k4, k5⟩, k6, k7⟩ := kC
  have e : ∀ (b : Nat) (j : Int), b ≠ 51 → b ≠ 55 → b ≠ 56 → σ1.1 b j = σ.1 b j := fun b j q1 q2 q3 => f1.1 b j (by omega) q2 q3
  have kC1 : KC σ1 t m := ⟨cityC_kp (fun b j q1 q2 => e b j (by omega) (by omega) (by omega)) k1, dayC_tr w.2.1 (fun b j q1 q2 => e b j (by omega) (by omega) (by omega)) ⟨rfl, rfl, rfl⟩ (fun _ _ _ _ => rfl) k2, bookC_kp w.2.2.1 (fun b j q => e b j (by omega) (by omega) (by omega)) ⟨rfl, fun _ _ _ _ => rfl⟩ k3, ⟨chC_kp (fun b j q1 q2 => e b j (by omega) (by omega) (by omega)) (fun _ _ _ _ => rfl) k4, hm⟩, imC_kp w.2.2.2.2.1 (fun b j q => e b j (by omega) (by omega) (by omega)) (fun _ _ _ => rfl) k6, ⟨(e 1 1 (by omega) (by omega) (by omega)).trans k7.1, fun i i1 i2 => (e 2 i (by omega) (by omega) (by omega)).trans (k7.2 i i1 i2)⟩⟩
  exact INV_mk hR2 hrt hra (KC_lo hct w (fun b j q => f2.1 b j (by omega)) kC1) (KM_kp w (fun b j q => f2.1 b j (by unfold kpM at q; omega)) (KM_hi w (fun b j q => e b j (by omega) (by omega) (by omega)) kM)) (WF_mono (by omega) w)
theorem op_worth {l : Launch} {σ : aw_S} {N : Int} (hI0 : INV σ N) (hN : 0 ≤ N ∧ N ≤ 999) {r n1 k : Int} (hr : (-2147483648 ≤ r ∧ r ≤ 2147483647) ∧ (-2147483648 ≤ n1 ∧ n1 ≤ 2147483647) ∧ (-2147483648 ≤ k ∧ k ≤ 2147483647)) : AE l yX9_worth cX9_worth 4 (some .int) 6 150 0 0 SH SH σ [.ref 0, .int (jI r), .int (jI n1), .int (jI k)] (fun v1 σ1 => ∃ vv : Int, v1 = some (.int (jI vv)) ∧ AE l yX10_worth cX10_worth 4 (some .int) 4 99 0 0 SH SH σ1 [.ref 171, .int (jI r), .int (jI n1), .int (jI k)] (fun v2 σ2 => v2 = some (.int (jI vv)) ∧ INV σ2 (N + 1))) := by
  obtain ⟨tw, cs, t, ad, m, ⟨hR, hrt, hra⟩, kC, kM, w⟩ := hI0
  have hct : isCity t := (tw_n hra hrt).1.2
  have hca : isCity ad := (tw_n hra hrt).1.1
  have hR1 := hR
  have hcn := RF_ne hra hrt
  have kC' := kC
  have kM' := kM
  have w' := w
  obtain ⟨c1, c2, c3, ⟨c4, c5⟩, c6, c7⟩ := kC
  obtain ⟨m1, m2, m3, m4, m6, m7⟩ := kM
  obtain ⟨w1, w2, w3, w4, w5, w6⟩ := w
  refine c_X9_worth (hR := hR) (hct := hct) (hrt := hrt) (hC := c1) (wC := w1) (hD := c2) (wD := w2) (hN := ⟨hN.1, Int.le_trans hN.2 (by decide)⟩) (hH := c4) (wH := w4) (hMm := c5) (hr := hr) (h1 := ?_) (h0 := ?_)
  · intro hv0 σ1 f1 hm
    have hR1 : σ1.2.2 = RF tw cs := (congrArg Prod.snd f1.2).trans hR
    have kM1 := KM_hi w' (fun b j q => f1.1 b j (by omega) (by omega) (by omega)) kM'
    obtain ⟨m1, m2, m3, m4, m6, m7⟩ := kM1
    refine ⟨_, rfl, c_X10_worth (hR := hR1) (hM := m1) (wC := w1) (hM2 := m2) (wD := w2) (hN := ⟨hN.1, Int.le_trans hN.2 (by decide)⟩) (hH := m4) (wH := w4) (hr := hr) (h1 := ?_) (h0 := ?_)⟩
    · intro _ σ2 f2
      exact ⟨rfl, wo_fin (f2.2.2.trans hR1) hrt hra kC' kM' w' f1 hm f2⟩
    · intro q; exact absurd hv0 q
  · intro hv
    refine ⟨_, rfl, c_X10_worth (hR := hR1) (hM := m1) (wC := w1) (hM2 := m2) (wD := w2) (hN := ⟨hN.1, Int.le_trans hN.2 (by decide)⟩) (hH := m4) (wH := w4) (hr := hr) (h1 := ?_) (h0 := ?_)⟩
    · intro q; exact absurd q hv
    · intro _; exact ⟨rfl, INV_mk hR hrt hra kC' kM' (WF_mono (Int.le_add_of_nonneg_right (by decide)) w')⟩
theorem op_going {l : Launch} {σ : aw_S} {N : Int} (hI0 : INV σ N) (hN : 0 ≤ N ∧ N ≤ 999) {p k w : Int} (hr : (-2147483648 ≤ p ∧ p ≤ 2147483647) ∧ (-2147483648 ≤ k ∧ k ≤ 2147483647) ∧ (-2147483648 ≤ w ∧ w ≤ 2147483647)) : AE l yX9_going cX9_going 5 (some .int) 6 150 0 0 SH SH σ [.ref 0, .int (jI p), .int (jI k), .int (jI w)] (fun v1 σ1 => ∃ vv : Int, v1 = some (.int (jI vv)) ∧ AE l yX10_going cX10_going 5 (some .int) 4 99 0 0 SH SH σ1 [.ref 171, .int (jI p), .int (jI k), .int (jI w)] (fun v2 σ2 => v2 = some (.int (jI vv)) ∧ INV σ2 (N + 1))) := by
  obtain ⟨tw, cs, t, ad, m, ⟨hR, hrt, hra⟩, kC, kM, w⟩ := hI0
  have hct : isCity t := (tw_n hra hrt).1.2
  have hca : isCity ad := (tw_n hra hrt).1.1
  have hR1 := hR
  have hcn := RF_ne hra hrt
  have kC' := kC
  have kM' := kM
  have w' := w
  obtain ⟨c1, c2, c3, ⟨c4, c5⟩, c6, c7⟩ := kC
  obtain ⟨m1, m2, m3, m4, m6, m7⟩ := kM
  obtain ⟨w1, w2, w3, w4, w5, w6⟩ := w
  refine c_X9_going (hR := hR) (hct := hct) (hrt := hrt) (hC := c1) (wC := w1) (hD := c2) (wD := w2) (hN := ⟨hN.1, Int.le_trans hN.2 (by decide)⟩) (hH := c4) (wH := w4) (hMm := c5) (hr := hr) (h1 := ?_) (h0 := ?_)
  · intro hv0 hv1 σ1 f1 hm
    have hR1 : σ1.2.2 = RF tw cs := (congrArg Prod.snd f1.2).trans hR
    have kM1 := KM_hi w' (fun b j q => f1.1 b j (by omega) (by omega) (by omega)) kM'
    obtain ⟨m1, m2, m3, m4, m6, m7⟩ := kM1
    refine ⟨_, rfl, c_X10_going (hR := hR1) (hM := m1) (wC := w1) (hM2 := m2) (wD := w2) (hN := ⟨hN.1, Int.le_trans hN.2 (by decide)⟩) (hH := m4) (wH := w4) (hr := hr) (h1 := ?_) (h0 := ?_)⟩
    · intro _ _ σ2 f2
      exact ⟨rfl, wo_fin (f2.2.2.trans hR1) hrt hra kC' kM' w' f1 hm f2⟩
    · intro q; exact absurd ⟨hv0, hv1⟩ q
  · intro hv
    refine ⟨_, rfl, c_X10_going (hR := hR1) (hM := m1) (wC := w1) (hM2 := m2) (wD := w2) (hN := ⟨hN.1, Int.le_trans hN.2 (by decide)⟩) (hH := m4) (wH := w4) (hr := hr) (h1 := ?_) (h0 := ?_)⟩
    · intro hv0 hv1; exact absurd ⟨hv0, hv1⟩ hv
    · intro _; exact ⟨rfl, INV_mk hR hrt hra kC' kM' (WF_mono (Int.le_add_of_nonneg_right (by decide)) w')⟩
theorem op_thumb {l : Launch} {σ : aw_S} {N : Int} (hI0 : INV σ N) (hN : 0 ≤ N ∧ N ≤ 999) {th p k w : Int} (hr : (-2147483648 ≤ th ∧ th ≤ 2147483647) ∧ (-2147483648 ≤ p ∧ p ≤ 2147483647) ∧ (-2147483648 ≤ k ∧ k ≤ 2147483647) ∧ (-2147483648 ≤ w ∧ w ≤ 2147483647)) : AE l yX9_thumb cX9_thumb 7 (some .int) 6 150 0 0 SH SH σ [.ref 0, .int (jI th), .int (jI p), .int (jI k), .int (jI w)] (fun v1 σ1 => ∃ vv : Int, v1 = some (.int (jI vv)) ∧ AE l yX10_thumb cX10_thumb 8 (some .int) 4 99 0 0 SH SH σ1 [.ref 171, .int (jI th), .int (jI p), .int (jI k), .int (jI w)] (fun v2 σ2 => v2 = some (.int (jI vv)) ∧ INV σ2 (N + 1))) := by
  obtain ⟨tw, cs, t, ad, m, ⟨hR, hrt, hra⟩, kC, kM, w⟩ := hI0
  have hct : isCity t := (tw_n hra hrt).1.2
  have hca : isCity ad := (tw_n hra hrt).1.1
  have hR1 := hR
  have hcn := RF_ne hra hrt
  have kC' := kC
  have kM' := kM
  have w' := w
  obtain ⟨c1, c2, c3, ⟨c4, c5⟩, c6, c7⟩ := kC
  obtain ⟨m1, m2, m3, m4, m6, m7⟩ := kM
  obtain ⟨w1, w2, w3, w4, w5, w6⟩ := w
  refine c_X9_thumb (hR := hR) (hct := hct) (hrt := hrt) (hC := c1) (wC := w1) (hD := c2) (wD := w2) (hN := ⟨hN.1, Int.le_trans hN.2 (by decide)⟩) (hH := c4) (wH := w4) (hMm := c5) (hr := hr) (h1 := ?_) (h0 := ?_)
  · intro hv0 hv1 hv2 σ1 f1 hm
    have hR1 : σ1.2.2 = RF tw cs := (congrArg Prod.snd f1.2).trans hR
    have kM1 := KM_hi w' (fun b j q => f1.1 b j (by omega) (by omega) (by omega)) kM'
    obtain ⟨m1, m2, m3, m4, m6, m7⟩ := kM1
    refine ⟨_, rfl, c_X10_thumb (hR := hR1) (hM := m1) (wC := w1) (hM2 := m2) (wD := w2) (hN := ⟨hN.1, Int.le_trans hN.2 (by decide)⟩) (hH := m4) (wH := w4) (hr := hr) (h1 := ?_) (h0 := ?_)⟩
    · intro _ _ _ σ2 f2
      exact ⟨rfl, wo_fin (f2.2.2.trans hR1) hrt hra kC' kM' w' f1 hm f2⟩
    · intro q; exact absurd ⟨hv0, hv1, hv2⟩ q
  · intro hv
    refine ⟨_, rfl, c_X10_thumb (hR := hR1) (hM := m1) (wC := w1) (hM2 := m2) (wD := w2) (hN := ⟨hN.1, Int.le_trans hN.2 (by decide)⟩) (hH := m4) (wH := w4) (hr := hr) (h1 := ?_) (h0 := ?_)⟩
    · intro hv0 hv1 hv2; exact absurd ⟨hv0, hv1, hv2⟩ hv
    · intro _; exact ⟨rfl, INV_mk hR hrt hra kC' kM' (WF_mono (Int.le_add_of_nonneg_right (by decide)) w')⟩
theorem op_dead {l : Launch} {σ : aw_S} {N : Int} (hI0 : INV σ N) (hN : 0 ≤ N ∧ N ≤ 999) {h L1 : Int} (hr : (-2147483648 ≤ h ∧ h ≤ 2147483647) ∧ (-2147483648 ≤ L1 ∧ L1 ≤ 2147483647)) : AE l yX9_dead cX9_dead 3 (some .int) 4 93 0 0 SH SH σ [.ref 0, .int (jI h), .int (jI L1)] (fun v1 σ1 => ∃ vv : Int, v1 = some (.int (jI vv)) ∧ AE l yX10_dead cX10_dead 3 (some .int) 3 74 0 0 SH SH σ1 [.ref 171, .int (jI h), .int (jI L1)] (fun v2 σ2 => v2 = some (.int (jI vv)) ∧ INV σ2 (N + 1))) := by
  obtain ⟨tw, cs, t, ad, m, ⟨hR, hrt, hra⟩, kC, kM, w⟩ := hI0
  have hct : isCity t := (tw_n hra hrt).1.2
  have hca : isCity ad := (tw_n hra hrt).1.1
  have hR1 := hR
  have hcn := RF_ne hra hrt
  have kC' := kC
  have kM' := kM
  have w' := w
  obtain ⟨c1, c2, c3, ⟨c4, c5⟩, c6, c7⟩ := kC
  obtain ⟨m1, m2, m3, m4, m6, m7⟩ := kM
  obtain ⟨w1, w2, w3, w4, w5, w6⟩ := w
  refine c_X9_dead (hR := hR) (hct := hct) (hrt := hrt) (hC := c1) (wC := w1) (hD := c2) (wD := w2) (hN := ⟨hN.1, Int.le_trans hN.2 (by decide)⟩) (hr := hr) (h1 := ?_) (h0 := ?_)
  · intro hv σ1 f1
    have hR1 : σ1.2.2 = RF tw cs := (congrArg Prod.snd f1.2).trans hR
    have kM1 := KM_hi w' (fun b j q => f1.1 b j (by omega)) kM'
    obtain ⟨m1, m2, m3, m4, m6, m7⟩ := kM1
    refine ⟨_, rfl, c_X10_dead (hR := hR1) (hM := m1) (wC := w1) (hM2 := m2) (wD := w2) (hN := ⟨hN.1, Int.le_trans hN.2 (by decide)⟩) (hr := hr) (h1 := ?_) (h0 := ?_)⟩
    · intro _
      exact ⟨rfl, scr_fin hR1 hrt hra kC' kM' w' (fun b j q => f1.1 b j (by unfold kpC at q; omega)) (fun _ _ _ => rfl)⟩
    · intro q; exact absurd hv q
  · intro hv
    refine ⟨_, rfl, c_X10_dead (hR := hR1) (hM := m1) (wC := w1) (hM2 := m2) (wD := w2) (hN := ⟨hN.1, Int.le_trans hN.2 (by decide)⟩) (hr := hr) (h1 := ?_) (h0 := ?_)⟩
    · intro q; exact absurd q hv
    · intro _; exact ⟨rfl, INV_mk hR hrt hra kC' kM' (WF_mono (Int.le_add_of_nonneg_right (by decide)) w')⟩
theorem op_toLift {l : Launch} {σ : aw_S} {N : Int} (hI0 : INV σ N) (hN : 0 ≤ N ∧ N ≤ 999) {h most : Int} (hr : (-2147483648 ≤ h ∧ h ≤ 2147483647) ∧ (-2147483648 ≤ most ∧ most ≤ 2147483647)) : AE l yX9_toLift cX9_toLift 3 (some .int) 5 120 0 0 SH SH σ [.ref 0, .int (jI h), .int (jI most)] (fun v1 σ1 => ∃ vv : Int, v1 = some (.int (jI vv)) ∧ AE l yX10_toLift cX10_toLift 5 (some .int) 3 74 0 0 SH SH σ1 [.ref 171, .int (jI h), .int (jI most)] (fun v2 σ2 => v2 = some (.int (jI vv)) ∧ INV σ2 (N + 1))) := by
  obtain ⟨tw, cs, t, ad, m, ⟨hR, hrt, hra⟩, kC, kM, w⟩ := hI0
  have hct : isCity t := (tw_n hra hrt).1.2
  have hca : isCity ad := (tw_n hra hrt).1.1
  have hR1 := hR
  have hcn := RF_ne hra hrt
  have kC' := kC
  have kM' := kM
  have w' := w
  obtain ⟨c1, c2, c3, ⟨c4, c5⟩, c6, c7⟩ := kC
  obtain ⟨m1, m2, m3, m4, m6, m7⟩ := kM
  obtain ⟨w1, w2, w3, w4, w5, w6⟩ := w
  refine c_X9_toLift (hR := hR) (hct := hct) (hrt := hrt) (hC := c1) (wC := w1) (hD := c2) (wD := w2) (hN := ⟨hN.1, Int.le_trans hN.2 (by decide)⟩) (hr := hr) (h1 := ?_) (h0 := ?_)
  · intro hv σ1 f1
    have hR1 : σ1.2.2 = RF tw cs := (congrArg Prod.snd f1.2).trans hR
    have kM1 := KM_hi w' (fun b j q => f1.1 b j (by omega)) kM'
    obtain ⟨m1, m2, m3, m4, m6, m7⟩ := kM1
    refine ⟨_, rfl, c_X10_toLift (hR := hR1) (hM := m1) (wC := w1) (hM2 := m2) (wD := w2) (hN := ⟨hN.1, Int.le_trans hN.2 (by decide)⟩) (hr := hr) (h1 := ?_) (h0 := ?_)⟩
    · intro _
      exact ⟨rfl, scr_fin hR1 hrt hra kC' kM' w' (fun b j q => f1.1 b j (by unfold kpC at q; omega)) (fun _ _ _ => rfl)⟩
    · intro q; exact absurd hv q
  · intro hv
    refine ⟨_, rfl, c_X10_toLift (hR := hR1) (hM := m1) (wC := w1) (hM2 := m2) (wD := w2) (hN := ⟨hN.1, Int.le_trans hN.2 (by decide)⟩) (hr := hr) (h1 := ?_) (h0 := ?_)⟩
    · intro q; exact absurd q hv
    · intro _; exact ⟨rfl, INV_mk hR hrt hra kC' kM' (WF_mono (Int.le_add_of_nonneg_right (by decide)) w')⟩
theorem op_jumpers {l : Launch} {σ : aw_S} {N : Int} (hI0 : INV σ N) (hN : 0 ≤ N ∧ N ≤ 999) {i w : Int} (hr : (-2147483648 ≤ i ∧ i ≤ 2147483647) ∧ (-2147483648 ≤ w ∧ w ≤ 2147483647)) : AE l yX9_jumpers cX9_jumpers 4 (some .int) 2 50 0 0 SH SH σ [.ref 0, .int (jI i), .int (jI w)] (fun v1 σ1 => ∃ vv : Int, v1 = some (.int (jI vv)) ∧ AE l yX10_jumpers cX10_jumpers 11 (some .int) 2 50 0 0 SH SH σ1 [.ref 171, .int (jI i), .int (jI w)] (fun v2 σ2 => v2 = some (.int (jI vv)) ∧ INV σ2 (N + 1))) := by
  obtain ⟨tw, cs, t, ad, m, ⟨hR, hrt, hra⟩, kC, kM, w⟩ := hI0
  have hct : isCity t := (tw_n hra hrt).1.2
  have hca : isCity ad := (tw_n hra hrt).1.1
  have hR1 := hR
  have hcn := RF_ne hra hrt
  have kC' := kC
  have kM' := kM
  have w' := w
  obtain ⟨c1, c2, c3, ⟨c4, c5⟩, c6, c7⟩ := kC
  obtain ⟨m1, m2, m3, m4, m6, m7⟩ := kM
  obtain ⟨w1, w2, w3, w4, w5, w6⟩ := w
  refine c_X9_jumpers (hR := hR) (hct := hct) (hrt := hrt) (hC := c1) (wC := w1) (hB := c3) (wB := w3) (hr := hr) (hk := ?_)
  intro v σ1 hv f1
  have hR1 : σ1.2.2 = RF tw cs := (congrArg Prod.snd f1.2).trans hR
  have kM1 := KM_hi w' (fun b j q => f1.1 b j (by omega) (by omega) (by omega)) kM'
  obtain ⟨m1, m2, m3, m4, m6, m7⟩ := kM1
  refine ⟨_, rfl, c_X10_jumpers (hR := hR1) (hM := m1) (wC := w1) (hB := m3) (wB := w3) (hr := hr) (hk := ?_)⟩
  intro u hu
  obtain rfl := isjump_u hv hu
  exact ⟨rfl, scr_fin hR1 hrt hra kC' kM' w' (fun b j q => f1.1 b j (by unfold kpC at q; omega) (by unfold kpC at q; omega) (by unfold kpC at q; omega)) (fun _ _ _ => rfl)⟩
theorem op_cant {l : Launch} {σ : aw_S} {N : Int} (hI0 : INV σ N) (hN : 0 ≤ N ∧ N ≤ 999) {j : Int} (hr : (-2147483648 ≤ j ∧ j ≤ 2147483647)) : AE l yX9_cant cX9_cant 2 (some .int) 3 67 0 0 SH SH σ [.ref 0, .int (jI j)] (fun v1 σ1 => ∃ vv : Int, v1 = some (.int (jI vv)) ∧ AE l yX10_cant cX10_cant 4 (some .int) 1 23 0 0 SH SH σ1 [.ref 171, .int (jI j)] (fun v2 σ2 => v2 = some (.int (jI vv)) ∧ INV σ2 (N + 1))) := by
  obtain ⟨tw, cs, t, ad, m, ⟨hR, hrt, hra⟩, kC, kM, w⟩ := hI0
  have hct : isCity t := (tw_n hra hrt).1.2
  have hca : isCity ad := (tw_n hra hrt).1.1
  have hR1 := hR
  have hcn := RF_ne hra hrt
  have kC' := kC
  have kM' := kM
  have w' := w
  obtain ⟨c1, c2, c3, ⟨c4, c5⟩, c6, c7⟩ := kC
  obtain ⟨m1, m2, m3, m4, m6, m7⟩ := kM
  obtain ⟨w1, w2, w3, w4, w5, w6⟩ := w
  refine c_X9_cant (hR := hR) (hct := hct) (hrt := hrt) (hC := c1) (wC := w1) (hB := c3) (wB := w3) (hr := hr) (hk := ?_)
  intro v hv
  refine ⟨_, rfl, c_X10_cant (hR := hR1) (hM := m1) (wC := w1) (hB := m3) (wB := w3) (hk := ?_) (hr := hr)⟩
  intro u hu
  obtain rfl := iscant_u hv hu
  exact ⟨rfl, INV_mk hR hrt hra kC' kM' (WF_mono (Int.le_add_of_nonneg_right (by decide)) w')⟩
theorem op_rings {l : Launch} {σ : aw_S} {N : Int} (hI0 : INV σ N) (hN : 0 ≤ N ∧ N ≤ 999)  : AE l yX9_rings cX9_rings 1 (some .int) 6 143 0 0 SH SH σ [.ref 0] (fun v1 σ1 => ∃ vv : Int, v1 = some (.int (jI vv)) ∧ AE l yX10_rings cX10_rings 6 (some .int) 2 44 0 0 SH SH σ1 [.ref 171] (fun v2 σ2 => v2 = some (.int (jI vv)) ∧ INV σ2 (N + 1))) := by
  obtain ⟨tw, cs, t, ad, m, ⟨hR, hrt, hra⟩, kC, kM, w⟩ := hI0
  have hct : isCity t := (tw_n hra hrt).1.2
  have hca : isCity ad := (tw_n hra hrt).1.1
  have hR1 := hR
  have hcn := RF_ne hra hrt
  have kC' := kC
  have kM' := kM
  have w' := w
  obtain ⟨c1, c2, c3, ⟨c4, c5⟩, c6, c7⟩ := kC
  obtain ⟨m1, m2, m3, m4, m6, m7⟩ := kM
  obtain ⟨w1, w2, w3, w4, w5, w6⟩ := w
  refine c_X9_rings (hR := hR) (hD := c2) (wC := w1) (wD := w2) (hk := ?_)
  intro σ1 S f1 hS hg
  have hR1 : σ1.2.2 = RF tw cs := (congrArg Prod.snd f1.2).trans hR
  have kM1 := KM_hi w' (fun b j q => f1.1 b j (by omega) (by omega) (by omega)) kM'
  obtain ⟨m1, m2, m3, m4, m6, m7⟩ := kM1
  refine ⟨_, rfl, c_X10_rings (hR := hR1) (hM := m1) (wC := w1) (hM2 := m2) (wD := w2) (hN := ⟨hN.1, Int.le_trans hN.2 (by decide)⟩) (hk := ?_)⟩
  intro σ2 S2 f2 hS2
  obtain rfl := bst_u (bst_rg w1 w2 hS hg) hS2
  exact ⟨rfl, scr_fin ((congrArg Prod.snd f2.2).trans hR1) hrt hra kC' kM' w' (fun b j q => f1.1 b j (by unfold kpC at q; omega) (by unfold kpC at q; omega) (by unfold kpC at q; omega)) (fun b j q => f2.1 b j (by unfold kpM at q; omega))⟩
theorem RF_cs {tw : Bool} (cs cs' : Bool) : RF tw cs 0 1 = RF tw cs' 0 1 ∧ RF tw cs 1 2 = RF tw cs' 1 2 := by
  cases tw <;> cases cs <;> cases cs' <;> exact ⟨rfl, rfl⟩
theorem op_brought {l : Launch} {σ : aw_S} {N : Int} (hI0 : INV σ N) (hN : 0 ≤ N ∧ N ≤ 999) {w : Int} (hr : (-2147483648 ≤ w ∧ w ≤ 2147483647)) : AE l yX9_brought cX9_brought 2 (some .int) 3 75 0 0 SH SH σ [.ref 0, .int (jI w)] (fun v1 σ1 => ∃ vv : Int, v1 = some (.int (jI vv)) ∧ AE l yX10_brought cX10_brought 5 (some .int) 2 45 0 0 SH SH σ1 [.ref 171, .int (jI w)] (fun v2 σ2 => v2 = some (.int (jI vv)) ∧ INV σ2 (N + 1))) := by
  obtain ⟨tw, cs, t, ad, m, ⟨hR, hrt, hra⟩, kC, kM, w⟩ := hI0
  have hct : isCity t := (tw_n hra hrt).1.2
  have hca : isCity ad := (tw_n hra hrt).1.1
  have hR1 := hR
  have hcn := RF_ne hra hrt
  have kC' := kC
  have kM' := kM
  have w' := w
  obtain ⟨c1, c2, c3, ⟨c4, c5⟩, c6, c7⟩ := kC
  obtain ⟨m1, m2, m3, m4, m6, m7⟩ := kM
  obtain ⟨w1, w2, w3, w4, w5, w6⟩ := w
  refine c_X9_brought (hR := hR) (hct := hct) (hrt := hrt) (hC := c1) (wC := w1) (hr := hr) (hD := c2) (wD := w2) (hk := ?_)
  intro σ1 cs1 v f1 hR1 hv
  have kM1 := KM_hi w' (fun b j q => f1.1 b j (by omega)) kM'
  obtain ⟨m1, m2, m3, m4, m6, m7⟩ := kM1
  have hrt1 : RF tw cs1 0 1 = some t := (RF_cs cs1 cs).1.trans hrt
  have hra1 : RF tw cs1 1 2 = some ad := (RF_cs cs1 cs).2.trans hra
  refine ⟨_, rfl, c_X10_brought (hR := hR1) (hM := m1) (wC := w1) (hr := hr) (hD := m2) (wD := w2) (hk := ?_)⟩
  intro σ2 u f2 hu
  obtain rfl := isbr_u w1 w2 (aw_ub hv) (aw_ub hu)
  exact ⟨rfl, scr_fin ((congrArg Prod.snd f2.2).trans hR1) hrt1 hra1 kC' kM' w' (fun b j q => f1.1 b j (by unfold kpC at q; omega)) (fun b j q => f2.1 b j (by unfold kpM at q; omega))⟩
theorem op_fault {l : Launch} {σ : aw_S} {N : Int} (hI0 : INV σ N) (hN : 0 ≤ N ∧ N ≤ 999)  : AE l yX9_fault cX9_fault 1 (some .int) 10 210 0 0 SH SH σ [.ref 0] (fun v1 σ1 => ∃ vv : Int, v1 = some (.int (jI vv)) ∧ AE l yX10_fault cX10_fault 1 (some .int) 11 234 0 0 SH SH σ1 [.ref 171] (fun v2 σ2 => v2 = some (.int (jI vv)) ∧ INV σ2 (N + 1))) := by
  obtain ⟨tw, cs, t, ad, m, ⟨hR, hrt, hra⟩, kC, kM, w⟩ := hI0
  have hct : isCity t := (tw_n hra hrt).1.2
  have hca : isCity ad := (tw_n hra hrt).1.1
  have hR1 := hR
  have hcn := RF_ne hra hrt
  have kC' := kC
  have kM' := kM
  have w' := w
  obtain ⟨c1, c2, c3, ⟨c4, c5⟩, c6, c7⟩ := kC
  obtain ⟨m1, m2, m3, m4, m6, m7⟩ := kM
  obtain ⟨w1, w2, w3, w4, w5, w6⟩ := w
  refine c_X9_fault (hR := hR) (ha := hca) (hrd := hra) (hT := c7) (wT := w6) (hk := ?_)
  intro σ1 f1
  have hR1 : σ1.2.2 = RF tw cs := (congrArg Prod.snd f1.2).trans hR
  have kM1 := KM_hi w' (fun b j q => f1.1 b j (by omega) (by omega) (by omega) (by omega)) kM'
  obtain ⟨m1, m2, m3, m4, m6, m7⟩ := kM1
  refine ⟨_, rfl, c_X10_fault (hR := hR1) (hT := m7) (wT := w6) (hk := ?_)⟩
  intro σ2 f2 _
  exact ⟨rfl, scr_fin (f2.2.2.trans hR1) hrt hra kC' kM' w' (fun b j q => f1.1 b j (by unfold kpC at q; omega) (by unfold kpC at q; omega) (by unfold kpC at q; omega) (by unfold kpC at q; omega)) (fun b j q => f2.1 b j (by unfold kpM at q; omega) (by unfold kpM at q; omega))⟩
