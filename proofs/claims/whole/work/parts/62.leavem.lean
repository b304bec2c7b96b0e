set_option maxHeartbeats 4000000 in
set_option maxRecDepth 100000 in
theorem lp_leaves {l : Launch} {σ : aw_S} {Post : Option Value → aw_S → Prop} {tw cs : Bool} (hR : σ.2.2 = RF tw cs) {N : Int} {m : mS} (hM : dayM σ m) (wC : wfCity m) (wD : wfDay m 0 N) (hN : 0 ≤ N ∧ N ≤ 1000) {c r k : Int} (hv : vst m c) (hrk : r = m (100 + c) 3) (hk0 : k = mpos m 0 c) (hk : ∀ σ', dayM σ' (mlv m c) → frM σ σ' → Post (some (.int (jI k))) σ')  : ∀ (n : Nat) (i : Int), ((m 10 r - 1 - i).toNat ≤ n) → (k ≤ i ∧ i ≤ m 10 r - 1) → AW l yX10_leaves cX10_leaves 5 (some .int) 2 45 0 0 SH Post SH 0 0 (aw_sa (aw_si σ 184 r (m 10 r - 1)) 183 (fun j => if 18 * r + k ≤ j ∧ j < 18 * r + i then σ.1 183 (j + 1) else σ.1 183 j)) 26 [some (.ref 171), some (.int (jI c)), some (.int (jI r)), some (.int (jI k)), some (.int (jI i))] [] := by
  intro n
  induction n with
  | zero =>
    intro i hm hi
    obtain ⟨d1, d2, d3, d4, d5, d6, d7⟩ := id hM
    obtain ⟨w1, w2, w3, w4, w5, w6, w7, w8⟩ := id wC
    obtain ⟨v1, v2, v3, v4, v5, v6, v7, v8⟩ := id wD
    simp only [Int.zero_add] at d4 d5 d6 d7 v4 v5 v6 v7 v8
    have hp := pos0 wC wD hv
    obtain ⟨⟨hv1, hv2⟩, hv3⟩ := id hv
    rw [← hrk, ← hk0] at hp
    obtain ⟨hp1, hp2, hp3⟩ := hp
    have v4r := v4 r (by omega) (by omega)
    have d4r := d4 r (by omega) (by omega)
    have kc := d5 c (by omega) (by omega)
    unfold cabM at kc
    have k2 := kc.2.2.2.1 (Or.inr (by omega))
    refine a_ild4 eX10_leaves_26 ?_
    refine a_ald0 eX10_leaves_28 ?_
    refine a_getR 25 184 eX10_leaves_29 fl_X10_48 rfl rfl sh_171 ((congrFun (congrFun hR _) _).trans rf_171_25) ?_
    refine a_ild2 eX10_leaves_32 ?_
    refine a_iald eX10_leaves_33 sh_184 rfl (by omega) ?_
    refine a_eqtop (y0 := m 10 r - 1) (by simp only [rd_si, rd_sa, and_self, true_and, and_true, ↓reduceIte]; (repeat (first | rw [if_pos (by omega)] | rw [if_neg (by omega)] | rw [if_pos True.intro])); (try rfl)) ?_
    refine a_icmp_ge 69 eX10_leaves_34 (by decide) (by omega) (fun hT34 => ?_) (fun hF34 => ?_)
    · skip
      refine a_ild3 eX10_leaves_69 ?_
      refine a_iret eX10_leaves_70 rfl rfl ⟨Nat.zero_le _, Nat.zero_le _⟩ ?_
      refine hk _ ?_ ⟨fun a j h h9 => by simp only [rd_si, rd_sa]; (repeat rw [if_neg (by omega)]), rfl⟩
      rw [show mlv m c = mrem m r k by unfold mlv; rw [hrk, hk0]]
      refine dayM_row (by omega) (by omega) (fun x q1 q2 => by have := v4 x q1 q2; omega) (by omega) (rowD_rem (by omega)) hM (fun a j q1 q2 => ?_) (by simp only [rd_si, rd_sa, and_self, true_and, and_true, ↓reduceIte]; (repeat (first | rw [if_pos (by omega)] | rw [if_neg (by omega)] | rw [if_pos True.intro])); (try rfl)) (fun j j1 j2 => ?_)
      · simp only [rd_si, rd_sa, and_self, true_and, and_true, ↓reduceIte]
        by_cases z : a = 183
        · subst z; (repeat (first | rw [if_pos (by omega)] | rw [if_neg (by omega)] | rw [if_pos True.intro])); (try rfl)
        · (repeat rw [if_neg (by omega)])
      · simp only [rd_si, rd_sa, and_self, true_and, and_true, ↓reduceIte]
        by_cases q : j < k
        · rw [if_neg (by omega), if_pos q]; exact d6 r j (by omega) (by omega) j1 (by omega)
        · rw [if_pos (by omega), if_neg q, show (18 * r + j + 1 : Int) = 18 * r + (j + 1) by omega]; exact d6 r (j + 1) (by omega) (by omega) (by omega) (by omega)
    · skip
      exfalso; omega
  | succ n ih =>
    intro i hm hi
    obtain ⟨d1, d2, d3, d4, d5, d6, d7⟩ := id hM
    obtain ⟨w1, w2, w3, w4, w5, w6, w7, w8⟩ := id wC
    obtain ⟨v1, v2, v3, v4, v5, v6, v7, v8⟩ := id wD
    simp only [Int.zero_add] at d4 d5 d6 d7 v4 v5 v6 v7 v8
    have hp := pos0 wC wD hv
    obtain ⟨⟨hv1, hv2⟩, hv3⟩ := id hv
    rw [← hrk, ← hk0] at hp
    obtain ⟨hp1, hp2, hp3⟩ := hp
    have v4r := v4 r (by omega) (by omega)
    have d4r := d4 r (by omega) (by omega)
    have kc := d5 c (by omega) (by omega)
    unfold cabM at kc
    have k2 := kc.2.2.2.1 (Or.inr (by omega))
    refine a_ild4 eX10_leaves_26 ?_
    refine a_ald0 eX10_leaves_28 ?_
    refine a_getR 25 184 eX10_leaves_29 fl_X10_48 rfl rfl sh_171 ((congrFun (congrFun hR _) _).trans rf_171_25) ?_
    refine a_ild2 eX10_leaves_32 ?_
    refine a_iald eX10_leaves_33 sh_184 rfl (by omega) ?_
    refine a_eqtop (y0 := m 10 r - 1) (by simp only [rd_si, rd_sa, and_self, true_and, and_true, ↓reduceIte]; (repeat (first | rw [if_pos (by omega)] | rw [if_neg (by omega)] | rw [if_pos True.intro])); (try rfl)) ?_
    refine a_icmp_ge 69 eX10_leaves_34 (by decide) (by omega) (fun hT34 => ?_) (fun hF34 => ?_)
    · skip
      refine a_ild3 eX10_leaves_69 ?_
      refine a_iret eX10_leaves_70 rfl rfl ⟨Nat.zero_le _, Nat.zero_le _⟩ ?_
      refine hk _ ?_ ⟨fun a j h h9 => by simp only [rd_si, rd_sa]; (repeat rw [if_neg (by omega)]), rfl⟩
      rw [show mlv m c = mrem m r k by unfold mlv; rw [hrk, hk0]]
      refine dayM_row (by omega) (by omega) (fun x q1 q2 => by have := v4 x q1 q2; omega) (by omega) (rowD_rem (by omega)) hM (fun a j q1 q2 => ?_) (by simp only [rd_si, rd_sa, and_self, true_and, and_true, ↓reduceIte]; (repeat (first | rw [if_pos (by omega)] | rw [if_neg (by omega)] | rw [if_pos True.intro])); (try rfl)) (fun j j1 j2 => ?_)
      · simp only [rd_si, rd_sa, and_self, true_and, and_true, ↓reduceIte]
        by_cases z : a = 183
        · subst z; (repeat (first | rw [if_pos (by omega)] | rw [if_neg (by omega)] | rw [if_pos True.intro])); (try rfl)
        · (repeat rw [if_neg (by omega)])
      · simp only [rd_si, rd_sa, and_self, true_and, and_true, ↓reduceIte]
        by_cases q : j < k
        · rw [if_neg (by omega), if_pos q]; exact d6 r j (by omega) (by omega) j1 (by omega)
        · rw [if_pos (by omega), if_neg q, show (18 * r + j + 1 : Int) = 18 * r + (j + 1) by omega]; exact d6 r (j + 1) (by omega) (by omega) (by omega) (by omega)
    · skip
      refine a_ald0 eX10_leaves_37 ?_
      refine a_getR 24 183 eX10_leaves_38 fl_X10_45 rfl rfl sh_171 ((congrFun (congrFun hR _) _).trans rf_171_24) ?_
      refine a_bipush eX10_leaves_41 (by decide) ?_
      refine a_ild2 eX10_leaves_43 ?_
      refine a_imul eX10_leaves_44 ?_
      refine a_ild4 eX10_leaves_45 ?_
      refine a_iadd eX10_leaves_47 ?_
      refine a_ald0 eX10_leaves_48 ?_
      refine a_getR 24 183 eX10_leaves_49 fl_X10_45 rfl rfl sh_171 ((congrFun (congrFun hR _) _).trans rf_171_24) ?_
      refine a_bipush eX10_leaves_52 (by decide) ?_
      refine a_ild2 eX10_leaves_54 ?_
      refine a_imul eX10_leaves_55 ?_
      refine a_ild4 eX10_leaves_56 ?_
      refine a_iadd eX10_leaves_58 ?_
      refine a_iconst eX10_leaves_59 ?_
      refine a_iadd eX10_leaves_60 ?_
      refine a_iald eX10_leaves_61 sh_183 rfl (by omega) ?_
      refine a_eqtop (y0 := σ.1 183 (18 * r + i + 1)) (by simp only [rd_si, rd_sa, and_self, true_and, and_true, ↓reduceIte]; (repeat (first | rw [if_pos (by omega)] | rw [if_neg (by omega)] | rw [if_pos True.intro])); (try rfl)) ?_
      refine a_iast eX10_leaves_62 sh_183 rfl (by omega) ?_
      refine a_iinc4 eX10_leaves_63 (by decide) aw_n2i ?_
      refine a_goto 26 eX10_leaves_66 (by decide) ?_
      refine AW.st (aw_si_sa (aw_si σ 184 r (m 10 r - 1)) 183 _ (18 * r + i) _) ?_
      refine AW.st (aw_sa_congr (g' := fun j => if 18 * r + k ≤ j ∧ j < 18 * r + (i + 1) then σ.1 183 (j + 1) else σ.1 183 j) (fun j => ?_)) (ih (i + 1) (by omega) (by omega))
      by_cases q1 : j = 18 * r + i
      · subst q1
        rw [if_pos rfl, if_pos (by omega)]
      · rw [if_neg q1]
        by_cases q2 : 18 * r + k ≤ j ∧ j < 18 * r + i
        · rw [if_pos q2, if_pos (by omega)]
        · rw [if_neg q2, if_neg (by omega)]

set_option maxHeartbeats 4000000 in
set_option maxRecDepth 100000 in
theorem c_X10_leaves {l : Launch} {σ : aw_S} {Post : Option Value → aw_S → Prop} {tw cs : Bool} (hR : σ.2.2 = RF tw cs) {N : Int} {m : mS} (hM : dayM σ m) (wC : wfCity m) (wD : wfDay m 0 N) (hN : 0 ≤ N ∧ N ≤ 1000) {c r k : Int} (hv : vst m c) (hrk : r = m (100 + c) 3) (hk0 : k = mpos m 0 c) (hk : ∀ σ', dayM σ' (mlv m c) → frM σ σ' → Post (some (.int (jI k))) σ')  : AE l yX10_leaves cX10_leaves 5 (some .int) 2 45 0 0 SH SH σ [.ref 171, .int (jI c)] Post := by
  show AW l yX10_leaves cX10_leaves 5 (some .int) 2 45 0 0 SH Post SH 0 0 σ 0 [some (.ref 171), some (.int (jI c)), none, none, none] []
  obtain ⟨d1, d2, d3, d4, d5, d6, d7⟩ := id hM
  obtain ⟨w1, w2, w3, w4, w5, w6, w7, w8⟩ := id wC
  obtain ⟨v1, v2, v3, v4, v5, v6, v7, v8⟩ := id wD
  simp only [Int.zero_add] at d4 d5 d6 d7 v4 v5 v6 v7 v8
  have hp := pos0 wC wD hv
  obtain ⟨⟨hv1, hv2⟩, hv3⟩ := id hv
  rw [← hrk, ← hk0] at hp
  obtain ⟨hp1, hp2, hp3⟩ := hp
  have v4r := v4 r (by omega) (by omega)
  have d4r := d4 r (by omega) (by omega)
  have kc := d5 c (by omega) (by omega)
  unfold cabM at kc
  have k2 := kc.2.2.2.1 (Or.inr (by omega))
  refine a_ald0 eX10_leaves_0 ?_
  refine a_ild1 eX10_leaves_1 ?_
  refine a_iconst eX10_leaves_2 ?_
  refine a_cV2 eX10_leaves_3 lk_X10_276 mV_X10_of0 sh_171 ⟨_, rfl, rfl⟩ mt_X10_of0 rfl rfl rfl rfl rfl rfl (c_X10_of0 hR (by omega) ?_)
  dsimp only [Option.toList, List.cons_append, List.nil_append]
  refine a_eqtop (y0 := r) (by rw [hrk]; exact k2) ?_
  refine a_ist2 eX10_leaves_6 (by decide) aw_n2i ?_
  refine a_ald0 eX10_leaves_7 ?_
  refine a_ild1 eX10_leaves_8 ?_
  refine a_cV1 eX10_leaves_9 lk_X10_283 mV_X10_posOf sh_171 ⟨_, rfl, rfl⟩ mt_X10_posOf rfl rfl rfl rfl rfl (c_X10_posOf hR hM wC wD hN ⟨hv1, hv2⟩ hv3 ?_)
  dsimp only [Option.toList, List.cons_append, List.nil_append]
  refine a_eqtop (y0 := k) (by rw [hk0]) ?_
  refine a_ist3 eX10_leaves_12 (by decide) aw_n2i ?_
  refine a_ald0 eX10_leaves_13 ?_
  refine a_getR 25 184 eX10_leaves_14 fl_X10_48 rfl rfl sh_171 ((congrFun (congrFun hR _) _).trans rf_171_25) ?_
  refine a_ild2 eX10_leaves_17 ?_
  refine a_dup2 eX10_leaves_18 rfl rfl ?_
  refine a_iald eX10_leaves_19 sh_184 rfl (by omega) ?_
  refine a_eqtop (y0 := m 10 r) (by exact d4r.1) ?_
  refine a_iconst eX10_leaves_20 ?_
  refine a_isub eX10_leaves_21 ?_
  refine a_iast eX10_leaves_22 sh_184 rfl (by omega) ?_
  refine a_ild3 eX10_leaves_23 ?_
  refine a_ist4 eX10_leaves_24 (by decide) aw_n2i ?_
  refine AW.st (aw_sa_self (aw_si σ 184 r (m 10 r - 1)) 183 (g := fun j => if 18 * r + k ≤ j ∧ j < 18 * r + k then σ.1 183 (j + 1) else σ.1 183 j) (fun j => ?_)).symm (lp_leaves hR hM wC wD hN hv hrk hk0 hk _ k (Nat.le_refl _) (by omega))
  rw [if_neg (by omega), rd_si_ne (by omega)]

set_option maxHeartbeats 4000000 in
set_option maxRecDepth 100000 in
theorem c_X10_busies {l : Launch} {σ : aw_S} {Post : Option Value → aw_S → Prop} {tw cs : Bool} (hR : σ.2.2 = RF tw cs) {N c mi p : Int} {m : mS} (hC : cityM σ m) (wC : wfCity m) (hM : dayM σ m) (h16 : 0 ≤ m 0 4 ∧ m 0 4 ≤ 16) (hc : 0 ≤ c ∧ c < m 0 4) (hcab : wfCab m 0 N c (m (100 + c))) (h0 : 0 < m 0 0) (hm : vfare mi p) (h3 : 0 ≤ m 0 3 ∧ m 0 3 ≤ 300 * N) (hN : 0 ≤ N ∧ N ≤ 1000) (hk : ∀ σ', dayM σ' (mbz m c mi p) → frM σ σ' → σ'.1 182 (11 * c + 2) = σ.1 182 (11 * c + 2) → Post none σ')  : AE l yX10_busies cX10_busies 4 (none : Option Jvm.ClassFile.FieldType) 1 23 0 0 SH SH σ [.ref 171, .int (jI c), .int (jI mi), .int (jI p)] Post := by
  show AW l yX10_busies cX10_busies 4 (none : Option Jvm.ClassFile.FieldType) 1 23 0 0 SH Post SH 0 0 σ 0 [some (.ref 171), some (.int (jI c)), some (.int (jI mi)), some (.int (jI p))] []
  obtain ⟨c1, c2, c3, c4, c5, c6, c7⟩ := id hC
  obtain ⟨y1, y2, y3, y4, y5, y6, y7, y8⟩ := id wC
  obtain ⟨d1, d2, d3, d4, d5, d6, d7⟩ := id hM
  obtain ⟨hm1, hm2⟩ := id hm
  simp only [Int.zero_add] at d4 d5 d6 d7
  have y6 := y6 h0
  have c5 := c5 h0
  have kc := d5 c (by omega) (by omega)
  unfold cabM at kc
  obtain ⟨k0, k9, k1, k2, k3, k4, k5, k6, k7, k8, k10⟩ := kc
  unfold wfCab at hcab
  have hpb := mprice_b (mi := mi) (v := 0) wC h0 hm1 (by omega)
  refine a_ald0 eX10_busies_0 ?_
  refine a_ild1 eX10_busies_1 ?_
  refine a_iconst eX10_busies_2 ?_
  refine a_iconst eX10_busies_3 ?_
  refine a_cV3 eX10_busies_4 lk_X10_269 mV_X10_sets sh_171 ⟨_, rfl, rfl⟩ mt_X10_sets rfl rfl rfl rfl rfl rfl rfl (c_X10_sets hR (by omega) ?_)
  dsimp only [Option.toList, List.cons_append, List.nil_append]
  refine a_ald0 eX10_busies_7 ?_
  refine a_ild1 eX10_busies_8 ?_
  refine a_iconst eX10_busies_9 ?_
  refine a_ild3 eX10_busies_10 ?_
  refine a_cV3 eX10_busies_11 lk_X10_269 mV_X10_sets sh_171 ⟨_, rfl, rfl⟩ mt_X10_sets rfl rfl rfl rfl rfl rfl rfl (c_X10_sets hR (by omega) ?_)
  dsimp only [Option.toList, List.cons_append, List.nil_append]
  refine a_ald0 eX10_busies_14 ?_
  refine a_ild1 eX10_busies_15 ?_
  refine a_iconst eX10_busies_16 ?_
  refine a_ald0 eX10_busies_17 ?_
  refine a_getI 21 eX10_busies_18 fl_X10_243 rfl rfl sh_171 ?_
  refine a_eqtop (y0 := m 0 3) (by simp only [rd_si, rd_sa, and_self, true_and, and_true, ↓reduceIte]; (repeat (first | rw [if_pos (by omega)] | rw [if_neg (by omega)] | rw [if_pos True.intro])); exact d1) ?_
  refine a_ild2 eX10_busies_21 ?_
  refine a_iadd eX10_busies_22 ?_
  refine a_cV3 eX10_busies_23 lk_X10_269 mV_X10_sets sh_171 ⟨_, rfl, rfl⟩ mt_X10_sets rfl rfl rfl rfl rfl rfl rfl (c_X10_sets hR (by omega) ?_)
  dsimp only [Option.toList, List.cons_append, List.nil_append]
  refine AW.gen (fun σ2 hσ2 => ?_)
  have h2o : ∀ (a : Nat) (j : Int), a ≠ 182 → σ2.1 a j = σ.1 a j := fun a j h => by rw [hσ2]; simp only [rd_si]; (repeat rw [if_neg (by omega)])
  have h2f : ∀ j : Int, σ2.1 182 j = if j = 11 * c + 3 then m 0 3 + mi else if j = 11 * c + 1 then p else if j = 11 * c then 3 else σ.1 182 j := fun f => by
    rw [hσ2]; simp only [rd_si, true_and, Int.add_zero]
  have h2s : σ2.2 = σ.2 := by rw [hσ2]; rfl
  have hR : σ2.2.2 = RF tw cs := by rw [h2s]; exact hR
  have p9 := (h2o 180 0 (by omega)).trans c5.1
  have p10 := (h2o 180 1 (by omega)).trans c5.2.1
  have p11 := (h2o 180 2 (by omega)).trans c5.2.2.1
  have p12 := (h2o 180 3 (by omega)).trans c5.2.2.2.1
  have p15 := (h2o 171 20 (by omega)).trans c5.2.2.2.2
  refine a_ald0 eX10_busies_26 ?_
  refine a_ild1 eX10_busies_27 ?_
  refine a_bipush eX10_busies_28 (by decide) ?_
  refine a_ald0 eX10_busies_30 ?_
  refine a_ild1 eX10_busies_31 ?_
  refine a_bipush eX10_busies_32 (by decide) ?_
  refine a_cV2 eX10_busies_34 lk_X10_276 mV_X10_of0 sh_171 ⟨_, rfl, rfl⟩ mt_X10_of0 rfl rfl rfl rfl rfl rfl (c_X10_of0 hR (by omega) ?_)
  dsimp only [Option.toList, List.cons_append, List.nil_append]
  refine a_eqtop (y0 := m (100 + c) 7) (by rw [h2f]; (repeat (first | rw [if_pos (by omega)] | rw [if_neg (by omega)] | rw [if_pos True.intro])); exact k6) ?_
  refine a_ald0 eX10_busies_37 ?_
  refine a_ild2 eX10_busies_38 ?_
  refine a_iconst eX10_busies_39 ?_
  refine a_cV2 eX10_busies_40 lk_X10_265 mV_X10_priceOf sh_171 ⟨_, rfl, rfl⟩ mt_X10_priceOf rfl rfl rfl rfl rfl rfl (c_X10_priceOf hR (by omega) (by omega) (by omega) (by omega) (by omega) hm1 (by omega) ?_)
  dsimp only [Option.toList, List.cons_append, List.nil_append]
  refine a_eqtop (y0 := mprice m mi 0) (by unfold mprice; rw [p9, p10, p11, p12, p15]) ?_
  refine a_iadd eX10_busies_43 ?_
  refine a_cV3 eX10_busies_44 lk_X10_269 mV_X10_sets sh_171 ⟨_, rfl, rfl⟩ mt_X10_sets rfl rfl rfl rfl rfl rfl rfl (c_X10_sets hR (by omega) ?_)
  dsimp only [Option.toList, List.cons_append, List.nil_append]
  refine a_ald0 eX10_busies_47 ?_
  refine a_ild1 eX10_busies_48 ?_
  refine a_bipush eX10_busies_49 (by decide) ?_
  refine a_iconst eX10_busies_51 ?_
  refine a_cV3 eX10_busies_52 lk_X10_269 mV_X10_sets sh_171 ⟨_, rfl, rfl⟩ mt_X10_sets rfl rfl rfl rfl rfl rfl rfl (c_X10_sets hR (by omega) ?_)
  dsimp only [Option.toList, List.cons_append, List.nil_append]
  refine a_vret eX10_busies_55 rfl rfl ⟨Nat.zero_le _, Nat.zero_le _⟩ ?_
  refine hk _ ?_ ⟨fun a j h h9 => by simp only [rd_si]; (repeat rw [if_neg (by omega)]); exact h2o a j (by omega), h2s⟩ (by simp only [rd_si, true_and]; (repeat rw [if_neg (by omega)]); rw [h2f]; (repeat rw [if_neg (by omega)]))
  refine dayM_cab hc h16.2 hM (fun a j q => ?_) ?_
  · simp only [rd_si]
    (repeat rw [if_neg (by omega)])
    by_cases z : a = 182
    · subst z; rw [h2f]; (repeat rw [if_neg (by omega)])
    · exact h2o a j z
  unfold cabM
  simp only [rd_si, true_and, h2f, xbz]
  refine ⟨?_, ?_, ?_, ?_, ?_, ?_, ?_, ?_, ?_, ?_, ?_⟩
  · (repeat (first | rw [if_pos (by omega)] | rw [if_neg (by omega)] | rw [if_pos True.intro])); (first | done | rfl)
  · (repeat (first | rw [if_pos (by omega)] | rw [if_neg (by omega)] | rw [if_pos True.intro])); (first | done | exact k9)
  · intro q; (repeat (first | rw [if_pos (by omega)] | rw [if_neg (by omega)] | rw [if_pos True.intro])); (first | done | rfl)
  · intro q; simp at q
  · intro q; (repeat (first | rw [if_pos (by omega)] | rw [if_neg (by omega)] | rw [if_pos True.intro])); (first | done | rfl)
  · (repeat (first | rw [if_pos (by omega)] | rw [if_neg (by omega)] | rw [if_pos True.intro])); (first | done | exact k4)
  · (repeat (first | rw [if_pos (by omega)] | rw [if_neg (by omega)] | rw [if_pos True.intro])); (first | done | exact k5)
  · (repeat (first | rw [if_pos (by omega)] | rw [if_neg (by omega)] | rw [if_pos True.intro])); (first | done | rfl)
  · (repeat (first | rw [if_pos (by omega)] | rw [if_neg (by omega)] | rw [if_pos True.intro])); (first | done | exact k7)
  · (repeat (first | rw [if_pos (by omega)] | rw [if_neg (by omega)] | rw [if_pos True.intro])); (first | done | rfl)
  · (repeat (first | rw [if_pos (by omega)] | rw [if_neg (by omega)] | rw [if_pos True.intro])); (first | done | exact k10)

set_option maxHeartbeats 4000000 in
set_option maxRecDepth 100000 in
theorem c_X10_take {l : Launch} {σ : aw_S} {Post : Option Value → aw_S → Prop} {tw cs : Bool} (hR : σ.2.2 = RF tw cs) {m : mS} (hM : cityM σ m) (wC : wfCity m) {N : Int} (hM2 : dayM σ m) (wD : wfDay m 0 N) (hN : 0 ≤ N ∧ N ≤ 1000) {r mi p : Int} (hr : (-2147483648 ≤ r ∧ r ≤ 2147483647) ∧ (-2147483648 ≤ mi ∧ mi ≤ 2147483647) ∧ (-2147483648 ≤ p ∧ p ≤ 2147483647)) (h1 : vtake m r mi p → ∀ σ', dayM σ' (mtake m r mi p) → frM σ σ' → Post (some (.int (jI (m (200 + r) 0)))) σ') (h0 : ¬ vtake m r mi p → Post (some (.int (jI (-1)))) σ) : AE l yX10_take cX10_take 5 (some .int) 3 69 0 0 SH SH σ [.ref 171, .int (jI r), .int (jI mi), .int (jI p)] Post := by
  show AW l yX10_take cX10_take 5 (some .int) 3 69 0 0 SH Post SH 0 0 σ 0 [some (.ref 171), some (.int (jI r)), some (.int (jI mi)), some (.int (jI p)), none] []
  obtain ⟨c1, c2, c3, c4, c5, c6, c7⟩ := id hM
  obtain ⟨w1, w2, w3, w4, w5, w6, w7, w8⟩ := id wC
  obtain ⟨d1, d2, d3, d4, d5, d6, d7⟩ := id hM2
  obtain ⟨v1, v2, v3, v4, v5, v6, v7, v8⟩ := id wD
  simp only [Int.zero_add] at d4 d5 d6 d7 v4 v5 v6 v7 v8
  refine a_ald0 eX10_take_0 ?_
  refine a_ild1 eX10_take_1 ?_
  refine a_cV1 eX10_take_2 lk_X10_255 mV_X10_isRank sh_171 ⟨_, rfl, rfl⟩ mt_X10_isRank rfl rfl rfl rfl rfl (c_X10_isRank (by omega) (by omega) (fun hT2 => ?_) (fun hF2 => ?_))
  · skip
    dsimp only [Option.toList, List.cons_append, List.nil_append]
    refine a_if_eq 25 eX10_take_5 (by decide) (by omega) (fun h => absurd h (by decide)) (fun _ => ?_)
    refine a_ald0 eX10_take_8 ?_
    refine a_getR 25 184 eX10_take_9 fl_X10_48 rfl rfl sh_171 ((congrFun (congrFun hR _) _).trans rf_171_25) ?_
    refine a_ild1 eX10_take_12 ?_
    refine a_iald eX10_take_13 sh_184 rfl (by omega) ?_
    have v4r := v4 r (by omega) (by omega)
    refine a_eqtop (y0 := m 10 r) (by exact (d4 r (by omega) (by omega)).1) ?_
    refine a_if_eq 25 eX10_take_14 (by decide) (by omega) (fun hT14 => ?_) (fun hF14 => ?_)
    · skip
      refine a_iconst eX10_take_25 ?_
      refine a_iret eX10_take_26 rfl rfl ⟨Nat.zero_le _, Nat.zero_le _⟩ ?_
      exact h0 (fun q => by unfold vtake vfare at q; omega)
    · skip
      refine a_ild2 eX10_take_17 ?_
      refine a_ild3 eX10_take_18 ?_
      refine a_cS2 eX10_take_19 lk_X10_303 mS_X10_isFare mt_X10_isFare rfl rfl rfl rfl rfl rfl (c_X10_isFare (by omega) (fun hT19 => ?_) (fun hF19 => ?_))
      · skip
        dsimp only [Option.toList, List.cons_append, List.nil_append]
        refine a_if_ne 27 eX10_take_22 (by decide) (by omega) (fun _ => ?_) (fun h => absurd h (by decide))
        have hv : vtake m r mi p := ⟨by omega, by omega, ⟨by omega, by omega⟩⟩
        have hs := take_st wC wD hv
        have h6 := d6 r 0 (by omega) (by omega) (by omega) (by omega)
        rw [Int.add_zero] at h6
        obtain ⟨c, hc0⟩ : ∃ c, c = m (200 + r) 0 := ⟨_, rfl⟩
        rw [← hc0] at hs h6
        obtain ⟨hs1, hs2⟩ := hs
        obtain ⟨⟨hs3, hs4⟩, hs5⟩ := id hs1
        refine a_ald0 eX10_take_27 ?_
        refine a_getR 24 183 eX10_take_28 fl_X10_45 rfl rfl sh_171 ((congrFun (congrFun hR _) _).trans rf_171_24) ?_
        refine a_bipush eX10_take_31 (by decide) ?_
        refine a_ild1 eX10_take_33 ?_
        refine a_imul eX10_take_34 ?_
        refine a_iald eX10_take_35 sh_183 rfl (by omega) ?_
        refine a_eqtop (y0 := c) (by exact h6) ?_
        refine a_ist4 eX10_take_36 (by decide) aw_n2i ?_
        refine a_ald0 eX10_take_38 ?_
        refine a_ild4 eX10_take_39 ?_
        refine a_cV1 eX10_take_41 lk_X10_306 mV_X10_leaves sh_171 ⟨_, rfl, rfl⟩ mt_X10_leaves rfl rfl rfl rfl rfl (c_X10_leaves hR hM2 wC wD hN hs1 rfl rfl (fun σ1 hD1 fr1 => ?_))
        dsimp only [Option.toList, List.cons_append, List.nil_append]
        refine a_pop eX10_take_44 rfl ?_
        have hR := frM_R fr1 hR
        have hf1 := lv_frm wC wD hs1
        have hC1 := cityM_m hf1 (cityM_s fr1 hM)
        have wC1 := wfCity_fr hf1 wC
        have w1d := lv_D1 wC wD hs1
        have lc := lv_cab wC wD hs1
        have lcc := lv_c wC wD hs1
        have l0 : ∀ j : Int, mlv m c 0 j = m 0 j := fun j => lv_0 wC wD hs1
        have l00 := l0 0
        have l03 := l0 3
        have l04 := l0 4
        refine a_ald0 eX10_take_45 ?_
        refine a_ild4 eX10_take_46 ?_
        refine a_ild2 eX10_take_48 ?_
        refine a_ild3 eX10_take_49 ?_
        refine a_cV3 eX10_take_50 lk_X10_309 mV_X10_busies sh_171 ⟨_, rfl, rfl⟩ mt_X10_busies rfl rfl rfl rfl rfl rfl rfl (c_X10_busies (N := N) (m := mlv m c) hR hC1 wC1 hD1 (by omega) (by omega) lc (by omega) hv.2.2 (by omega) hN (fun σ2 hD2 fr2 hx2 => ?_))
        dsimp only [Option.toList, List.cons_append, List.nil_append]
        have hR := frM_R fr2 hR
        have fr12 := frM_tr fr1 fr2
        have hC1 := cityM_s fr12 hM
        obtain ⟨g1, g2, g3, g4, g5, g7, g8⟩ := id hC1
        have hfs := serve_frm (mi := mi) (p := p) wC wD hs1
        have hws := serve_wf wC hN.1 wD hs1 hv.2.2
        have e4 : mserve m c mi p 0 4 = m 0 4 := (upr_ne (by omega)).trans (lv_0 wC wD hs1)
        obtain ⟨m2, hm2⟩ : ∃ m2, m2 = mserve m c mi p := ⟨_, rfl⟩
        have hD2 : dayM σ2 (mserve m c mi p) := hD2
        rw [← hm2] at hD2 hfs hws e4
        have e91 : m2 9 1 = m 9 1 := hfs _ _ (by omega) (by omega) (by omega)
        have et : mtake m r mi p = if mi < m 9 0 then upr m2 (100 + c) (xtk m2 c r) else m2 := by unfold mtake; rw [← hc0, ← hm2]
        refine a_ild2 eX10_take_53 ?_
        refine a_ald0 eX10_take_54 ?_
        refine a_getR 19 181 eX10_take_55 fl_X10_39 rfl rfl sh_171 ((congrFun (congrFun hR _) _).trans rf_171_19) ?_
        refine a_iconst eX10_take_58 ?_
        refine a_iald eX10_take_59 sh_181 rfl (by omega) ?_
        refine a_eqtop (y0 := m 9 0) (by exact g7) ?_
        refine a_icmp_ge 89 eX10_take_60 (by decide) (by omega) (fun hT60 => ?_) (fun hF60 => ?_)
        · skip
          refine a_ild4 eX10_take_89 ?_
          refine a_iret eX10_take_91 rfl rfl ⟨Nat.zero_le _, Nat.zero_le _⟩ ?_
          refine aw_ret (x := m (200 + r) 0) ?_ hc0
          refine h1 hv _ ?_ fr12
          rw [et, if_neg (by omega)]
          exact hD2
        · skip
          refine a_ald0 eX10_take_63 ?_
          refine a_ild4 eX10_take_64 ?_
          refine a_iconst eX10_take_66 ?_
          refine a_ild1 eX10_take_67 ?_
          refine a_cV3 eX10_take_68 lk_X10_269 mV_X10_sets sh_171 ⟨_, rfl, rfl⟩ mt_X10_sets rfl rfl rfl rfl rfl rfl rfl (c_X10_sets hR (by omega) ?_)
          dsimp only [Option.toList, List.cons_append, List.nil_append]
          refine a_ald0 eX10_take_71 ?_
          refine a_ild4 eX10_take_72 ?_
          refine a_iconst eX10_take_74 ?_
          refine a_ald0 eX10_take_75 ?_
          refine a_getI 21 eX10_take_76 fl_X10_243 rfl rfl sh_171 ?_
          refine a_eqtop (y0 := m2 0 3) (by simp only [rd_si, rd_sa, and_self, true_and, and_true, ↓reduceIte]; (repeat (first | rw [if_pos (by omega)] | rw [if_neg (by omega)] | rw [if_pos True.intro])); exact hD2.1) ?_
          refine a_ald0 eX10_take_79 ?_
          refine a_getR 19 181 eX10_take_80 fl_X10_39 rfl rfl sh_171 ((congrFun (congrFun hR _) _).trans rf_171_19) ?_
          refine a_iconst eX10_take_83 ?_
          refine a_iald eX10_take_84 sh_181 rfl (by omega) ?_
          refine a_eqtop (y0 := m2 9 1) (by simp only [rd_si, rd_sa, and_self, true_and, and_true, ↓reduceIte]; (repeat (first | rw [if_pos (by omega)] | rw [if_neg (by omega)] | rw [if_pos True.intro])); rw [e91]; exact g8) ?_
          refine a_iadd eX10_take_85 ?_
          refine a_cV3 eX10_take_86 lk_X10_269 mV_X10_sets sh_171 ⟨_, rfl, rfl⟩ mt_X10_sets rfl rfl rfl rfl rfl rfl rfl (c_X10_sets hR (by omega) ?_)
          dsimp only [Option.toList, List.cons_append, List.nil_append]
          refine a_ild4 eX10_take_89 ?_
          refine a_iret eX10_take_91 rfl rfl ⟨Nat.zero_le _, Nat.zero_le _⟩ ?_
          refine aw_ret (x := m (200 + r) 0) ?_ hc0
          refine h1 hv _ ?_ (frM_tr fr12 ⟨fun a j h h9 => by simp only [rd_si, rd_sa]; (repeat rw [if_neg (by omega)]), rfl⟩)
          rw [et, if_pos (by omega)]
          have kc := hD2.2.2.2.2.1 c (by omega) (by omega)
          rw [Int.zero_add] at kc
          unfold cabM at kc
          obtain ⟨k0, k9, k1, k2, k3, k4, k5, k6, k7, k8, k10⟩ := kc
          refine dayM_cab (by omega) (by omega) hD2 (fun a j q => by simp only [rd_si]; (repeat rw [if_neg (by omega)])) ?_
          unfold cabM
          simp only [rd_si, true_and, xtk]
          refine ⟨?_, ?_, ?_, ?_, ?_, ?_, ?_, ?_, ?_, ?_, ?_⟩
          · (repeat (first | rw [if_pos (by omega)] | rw [if_neg (by omega)] | rw [if_pos True.intro])); (first | done | exact k0)
          · (repeat (first | rw [if_pos (by omega)] | rw [if_neg (by omega)] | rw [if_pos True.intro])); (first | done | exact k9)
          · intro q; (repeat (first | rw [if_pos (by omega)] | rw [if_neg (by omega)] | rw [if_pos True.intro])); (first | done | exact k1 q)
          · intro q; (repeat (first | rw [if_pos (by omega)] | rw [if_neg (by omega)] | rw [if_pos True.intro])); (first | done | exact k2 q)
          · intro q; (repeat (first | rw [if_pos (by omega)] | rw [if_neg (by omega)] | rw [if_pos True.intro])); (first | done | exact k3 q)
          · (repeat (first | rw [if_pos (by omega)] | rw [if_neg (by omega)] | rw [if_pos True.intro])); (first | done | rfl)
          · (repeat (first | rw [if_pos (by omega)] | rw [if_neg (by omega)] | rw [if_pos True.intro])); (first | done | rfl)
          · (repeat (first | rw [if_pos (by omega)] | rw [if_neg (by omega)] | rw [if_pos True.intro])); (first | done | exact k6)
          · (repeat (first | rw [if_pos (by omega)] | rw [if_neg (by omega)] | rw [if_pos True.intro])); (first | done | exact k7)
          · (repeat (first | rw [if_pos (by omega)] | rw [if_neg (by omega)] | rw [if_pos True.intro])); (first | done | exact k8)
          · (repeat (first | rw [if_pos (by omega)] | rw [if_neg (by omega)] | rw [if_pos True.intro])); (first | done | exact k10)
      · skip
        dsimp only [Option.toList, List.cons_append, List.nil_append]
        refine a_if_ne 27 eX10_take_22 (by decide) (by omega) (fun h => absurd h (by decide)) (fun _ => ?_)
        refine a_iconst eX10_take_25 ?_
        refine a_iret eX10_take_26 rfl rfl ⟨Nat.zero_le _, Nat.zero_le _⟩ ?_
        exact h0 (fun q => by unfold vtake vfare at q; omega)
  · skip
    dsimp only [Option.toList, List.cons_append, List.nil_append]
    refine a_if_eq 25 eX10_take_5 (by decide) (by omega) (fun _ => ?_) (fun h => absurd h (by decide))
    refine a_iconst eX10_take_25 ?_
    refine a_iret eX10_take_26 rfl rfl ⟨Nat.zero_le _, Nat.zero_le _⟩ ?_
    exact h0 (fun q => by unfold vtake vfare at q; omega)

set_option maxHeartbeats 4000000 in
set_option maxRecDepth 100000 in
theorem c_X10_call {l : Launch} {σ : aw_S} {Post : Option Value → aw_S → Prop} {tw cs : Bool} (hR : σ.2.2 = RF tw cs) {m : mS} (hM : cityM σ m) (wC : wfCity m) {N : Int} (hM2 : dayM σ m) (wD : wfDay m 0 N) (hN : 0 ≤ N ∧ N ≤ 1000) (hN9 : N ≤ 999) {c mi p : Int} (hr : (-2147483648 ≤ c ∧ c ≤ 2147483647) ∧ (-2147483648 ≤ mi ∧ mi ≤ 2147483647) ∧ (-2147483648 ≤ p ∧ p ≤ 2147483647)) (h1 : vst m c → vfare mi p → ∀ σ', dayM σ' (mcall m c mi p) → frM σ σ' → Post (some (.int (jI 1))) σ') (h0 : ¬ (vst m c ∧ vfare mi p) → Post (some (.int (jI 0))) σ) : AE l yX10_call cX10_call 5 (some .boolean) 3 69 0 0 SH SH σ [.ref 171, .int (jI c), .int (jI mi), .int (jI p)] Post := by
  show AW l yX10_call cX10_call 5 (some .boolean) 3 69 0 0 SH Post SH 0 0 σ 0 [some (.ref 171), some (.int (jI c)), some (.int (jI mi)), some (.int (jI p)), none] []
  obtain ⟨c1, c2, c3, c4, c5, c6, c7⟩ := id hM
  obtain ⟨w1, w2, w3, w4, w5, w6, w7, w8⟩ := id wC
  obtain ⟨d1, d2, d3, d4, d5, d6, d7⟩ := id hM2
  obtain ⟨v1, v2, v3, v4, v5, v6, v7, v8⟩ := id wD
  simp only [Int.zero_add] at d4 d5 d6 d7 v4 v5 v6 v7 v8
  refine a_ald0 eX10_call_0 ?_
  refine a_ild1 eX10_call_1 ?_
  refine a_iconst eX10_call_2 ?_
  refine a_cV2 eX10_call_3 lk_X10_293 mV_X10_isAt sh_171 ⟨_, rfl, rfl⟩ mt_X10_isAt rfl rfl rfl rfl rfl rfl (c_X10_isAt hR hM2 wC wD hN (by omega) (fun hT3 => ?_) (fun hF3 => ?_))
  · skip
    dsimp only [Option.toList, List.cons_append, List.nil_append]
    refine a_if_eq 17 eX10_call_6 (by decide) (by omega) (fun h => absurd h (by decide)) (fun _ => ?_)
    refine a_ild2 eX10_call_9 ?_
    refine a_ild3 eX10_call_10 ?_
    refine a_cS2 eX10_call_11 lk_X10_303 mS_X10_isFare mt_X10_isFare rfl rfl rfl rfl rfl rfl (c_X10_isFare (by omega) (fun hT11 => ?_) (fun hF11 => ?_))
    · skip
      dsimp only [Option.toList, List.cons_append, List.nil_append]
      refine a_if_ne 19 eX10_call_14 (by decide) (by omega) (fun _ => ?_) (fun h => absurd h (by decide))
      have hs1 : vst m c := hT3
      have hm : vfare mi p := ⟨by omega, by omega⟩
      have hp := pos0 wC wD hs1
      have v4r := v4 (m (100 + c) 3) (by omega) (by omega)
      obtain ⟨k, hk0⟩ : ∃ k, k = mpos m 0 c := ⟨_, rfl⟩
      rw [← hk0] at hp
      refine a_ald0 eX10_call_19 ?_
      refine a_ild1 eX10_call_20 ?_
      refine a_cV1 eX10_call_21 lk_X10_306 mV_X10_leaves sh_171 ⟨_, rfl, rfl⟩ mt_X10_leaves rfl rfl rfl rfl rfl (c_X10_leaves hR hM2 wC wD hN hs1 rfl hk0 (fun σ1 hD1 fr1 => ?_))
      dsimp only [Option.toList, List.cons_append, List.nil_append]
      have hR := frM_R fr1 hR
      have hf1 := lv_frm wC wD hs1
      have hC1 := cityM_m hf1 (cityM_s fr1 hM)
      have wC1 := wfCity_fr hf1 wC
      have w1d := lv_D1 wC wD hs1
      have lc := lv_cab wC wD hs1
      have lcc := lv_c wC wD hs1
      have l0 : ∀ j : Int, mlv m c 0 j = m 0 j := fun j => lv_0 wC wD hs1
      have l00 := l0 0
      have l03 := l0 3
      have l04 := l0 4
      have kc := hD1.2.2.2.2.1 c (by omega) (by omega)
      rw [Int.zero_add, lcc] at kc
      have kr := kc.2.2.2.1 (Or.inr (by omega))
      refine a_ist4 eX10_call_24 (by decide) aw_n2i ?_
      refine a_ald0 eX10_call_26 ?_
      refine a_ild1 eX10_call_27 ?_
      refine a_ild2 eX10_call_28 ?_
      refine a_ild3 eX10_call_29 ?_
      refine a_cV3 eX10_call_30 lk_X10_309 mV_X10_busies sh_171 ⟨_, rfl, rfl⟩ mt_X10_busies rfl rfl rfl rfl rfl rfl rfl (c_X10_busies (N := N) (m := mlv m c) hR hC1 wC1 hD1 (by omega) (by omega) lc (by omega) hm (by omega) hN (fun σ2 hD2 fr2 hx2 => ?_))
      dsimp only [Option.toList, List.cons_append, List.nil_append]
      have hR := frM_R fr2 hR
      have hD2 : dayM σ2 (mserve m c mi p) := hD2
      refine a_ald0 eX10_call_33 ?_
      refine a_ild1 eX10_call_34 ?_
      refine a_ald0 eX10_call_35 ?_
      refine a_ild1 eX10_call_36 ?_
      refine a_iconst eX10_call_37 ?_
      refine a_cV2 eX10_call_38 lk_X10_276 mV_X10_of0 sh_171 ⟨_, rfl, rfl⟩ mt_X10_of0 rfl rfl rfl rfl rfl rfl (c_X10_of0 hR (by omega) ?_)
      dsimp only [Option.toList, List.cons_append, List.nil_append]
      refine a_eqtop (y0 := m (100 + c) 3) (by exact hx2.trans kr) ?_
      refine a_iconst eX10_call_41 ?_
      refine a_ild4 eX10_call_42 ?_
      refine a_cV4 eX10_call_44 lk_X10_289 mV_X10_passed sh_171 ⟨_, rfl, rfl⟩ mt_X10_passed rfl rfl rfl rfl rfl rfl rfl rfl (c_X10_passed hR hD2 (wfCity_fr (serve_frm wC wD hs1) wC) (serve_wf wC hN.1 wD hs1 hm) (by omega) (by omega) (by omega) (fun σ3 hD3 fr3 => ?_))
      dsimp only [Option.toList, List.cons_append, List.nil_append]
      refine a_iconst eX10_call_47 ?_
      refine a_zret eX10_call_48 rfl (by first | exact Or.inl rfl | exact Or.inr rfl | omega) rfl ⟨Nat.zero_le _, Nat.zero_le _⟩ ?_
      refine h1 hs1 hm σ3 ?_ (frM_tr fr1 (frM_tr fr2 fr3))
      unfold mcall
      rw [← hk0, serve_tell wC wD hs1]
      exact hD3
    · skip
      dsimp only [Option.toList, List.cons_append, List.nil_append]
      refine a_if_ne 19 eX10_call_14 (by decide) (by omega) (fun h => absurd h (by decide)) (fun _ => ?_)
      refine a_iconst eX10_call_17 ?_
      refine a_zret eX10_call_18 rfl (by first | exact Or.inl rfl | exact Or.inr rfl | omega) rfl ⟨Nat.zero_le _, Nat.zero_le _⟩ ?_
      exact h0 (fun q => by unfold vst vfare at q; omega)
  · skip
    dsimp only [Option.toList, List.cons_append, List.nil_append]
    refine a_if_eq 17 eX10_call_6 (by decide) (by omega) (fun _ => ?_) (fun h => absurd h (by decide))
    refine a_iconst eX10_call_17 ?_
    refine a_zret eX10_call_18 rfl (by first | exact Or.inl rfl | exact Or.inr rfl | omega) rfl ⟨Nat.zero_le _, Nat.zero_le _⟩ ?_
    exact h0 (fun q => by unfold vst vfare at q; omega)

set_option maxHeartbeats 4000000 in
set_option maxRecDepth 100000 in
theorem lp_refuse {l : Launch} {σ : aw_S} {Post : Option Value → aw_S → Prop} {tw cs : Bool} (hR : σ.2.2 = RF tw cs) {m : mS} (hM : cityM σ m) (wC : wfCity m) {N : Int} (hM2 : dayM σ m) (wD : wfDay m 0 N) (hN : 0 ≤ N ∧ N ≤ 1000) {r : Int} (hv : vref m r) (h1 : vref m r → ∀ σ', dayM σ' (mrefuse m r) → frM σ σ' → Post (some (.int (jI (m (200 + r) 0)))) σ') : ∀ (n : Nat) (i : Int), ((m 10 r - i).toNat ≤ n) → (1 ≤ i ∧ i ≤ m 10 r) → AW l yX10_refuse cX10_refuse 4 (some .int) 2 43 0 0 SH Post SH 0 0 (aw_sa σ 183 (fun j => if 18 * r ≤ j ∧ j < 18 * r + i - 1 then σ.1 183 (j + 1) else σ.1 183 j)) 31 [some (.ref 171), some (.int (jI r)), some (.int (jI (m (200 + r) 0))), some (.int (jI i))] [] := by
  intro n
  induction n with
  | zero =>
    intro i hm hi
    obtain ⟨c1, c2, c3, c4, c5, c6, c7⟩ := id hM
    obtain ⟨w1, w2, w3, w4, w5, w6, w7, w8⟩ := id wC
    obtain ⟨d1, d2, d3, d4, d5, d6, d7⟩ := id hM2
    obtain ⟨v1, v2, v3, v4, v5, v6, v7, v8⟩ := id wD
    simp only [Int.zero_add] at d4 d5 d6 d7 v4 v5 v6 v7 v8
    have hv' := id hv
    unfold vref at hv'
    have v4r := v4 r (by omega) (by omega)
    have d4r := d4 r (by omega) (by omega)
    have hs := row_st (k := 0) wC wD (r := r) (by omega) (by omega)
    have h6 := d6 r 0 (by omega) (by omega) (by omega) (by omega)
    rw [Int.add_zero] at h6
    have hwr := rf_wf wC wD hv
    have hrd := rf_rowD (m := m) (r := r) (by omega)
    have hfm : frm m (mrf m r) := rowD_frm (by omega) hrd
    obtain ⟨c, hc0⟩ : ∃ c, c = m (200 + r) 0 := ⟨_, rfl⟩
    rw [← hc0] at hs h6
    obtain ⟨hs1, hs2⟩ := hs
    obtain ⟨⟨hs3, hs4⟩, hs5⟩ := id hs1
    rw [← hc0]
    refine a_ild3 eX10_refuse_31 ?_
    refine a_ald0 eX10_refuse_32 ?_
    refine a_getR 25 184 eX10_refuse_33 fl_X10_48 rfl rfl sh_171 ((congrFun (congrFun hR _) _).trans rf_171_25) ?_
    refine a_ild1 eX10_refuse_36 ?_
    refine a_iald eX10_refuse_37 sh_184 rfl (by omega) ?_
    refine a_eqtop (y0 := m 10 r) (by simp only [rd_si, rd_sa, and_self, true_and, and_true, ↓reduceIte]; (repeat (first | rw [if_pos (by omega)] | rw [if_neg (by omega)] | rw [if_pos True.intro])); exact d4r.1) ?_
    refine a_icmp_ge 71 eX10_refuse_38 (by decide) (by omega) (fun hT38 => ?_) (fun hF38 => ?_)
    · skip
      refine a_ald0 eX10_refuse_71 ?_
      refine a_getR 24 183 eX10_refuse_72 fl_X10_45 rfl rfl sh_171 ((congrFun (congrFun hR _) _).trans rf_171_24) ?_
      refine a_bipush eX10_refuse_75 (by decide) ?_
      refine a_ild1 eX10_refuse_77 ?_
      refine a_imul eX10_refuse_78 ?_
      refine a_ald0 eX10_refuse_79 ?_
      refine a_getR 25 184 eX10_refuse_80 fl_X10_48 rfl rfl sh_171 ((congrFun (congrFun hR _) _).trans rf_171_25) ?_
      refine a_ild1 eX10_refuse_83 ?_
      refine a_iald eX10_refuse_84 sh_184 rfl (by omega) ?_
      refine a_eqtop (y0 := m 10 r) (by simp only [rd_si, rd_sa, and_self, true_and, and_true, ↓reduceIte]; (repeat (first | rw [if_pos (by omega)] | rw [if_neg (by omega)] | rw [if_pos True.intro])); exact d4r.1) ?_
      refine a_iadd eX10_refuse_85 ?_
      refine a_iconst eX10_refuse_86 ?_
      refine a_isub eX10_refuse_87 ?_
      refine a_ild2 eX10_refuse_88 ?_
      refine a_iast eX10_refuse_89 sh_183 rfl (by omega) ?_
      refine AW.gen (fun σ2 hσ2 => ?_)
      have h2s : σ2.2 = σ.2 := by rw [hσ2]; rfl
      have hR : σ2.2.2 = RF tw cs := by rw [h2s]; exact hR
      have h2o : ∀ (a : Nat) (j : Int), a ≠ 183 → σ2.1 a j = σ.1 a j := fun a j q1 => by rw [hσ2]; simp only [rd_si, rd_sa]; (repeat rw [if_neg (by omega)])
      have h2f : ∀ j : Int, σ2.1 183 j = if j = 18 * r + m 10 r - 1 then c else if 18 * r ≤ j ∧ j < 18 * r + m 10 r - 1 then σ.1 183 (j + 1) else σ.1 183 j := fun j => by
        rw [hσ2]; simp only [rd_si, rd_sa, true_and, ↓reduceIte]; rw [show i = m 10 r by omega]
      have hD2 : dayM σ2 (mrf m r) := by
        refine dayM_row (by omega) (by omega) (fun x q1 q2 => by have := v4 x q1 q2; omega) (by omega) hrd hM2 (fun a j q1 q2 => ?_) ((h2o _ _ (by omega)).trans d4r.1) (fun j j1 j2 => ?_)
        · by_cases z : a = 183
          · subst z; rw [h2f, if_neg (by omega), if_neg (by omega)]
          · exact h2o a j z
        · rw [h2f]
          by_cases q : j < m 10 r - 1
          · rw [if_neg (by omega), if_pos (by omega), if_pos q, show (18 * r + j + 1 : Int) = 18 * r + (j + 1) by omega]; exact d6 r (j + 1) (by omega) (by omega) (by omega) (by omega)
          · rw [if_pos (by omega), if_neg q]; exact hc0
      have fr2 : frM σ σ2 := ⟨fun a j h h9 => h2o a j (by omega), h2s⟩
      refine a_ald0 eX10_refuse_90 ?_
      refine a_ild2 eX10_refuse_91 ?_
      refine a_ild1 eX10_refuse_92 ?_
      refine a_iconst eX10_refuse_93 ?_
      refine a_ald0 eX10_refuse_94 ?_
      refine a_getR 25 184 eX10_refuse_95 fl_X10_48 rfl rfl sh_171 ((congrFun (congrFun hR _) _).trans rf_171_25) ?_
      refine a_ild1 eX10_refuse_98 ?_
      refine a_iald eX10_refuse_99 sh_184 rfl (by omega) ?_
      refine a_eqtop (y0 := m 10 r) (by exact (h2o _ _ (by omega)).trans d4r.1) ?_
      refine a_iconst eX10_refuse_100 ?_
      refine a_isub eX10_refuse_101 ?_
      refine a_cV4 eX10_refuse_102 lk_X10_289 mV_X10_passed sh_171 ⟨_, rfl, rfl⟩ mt_X10_passed rfl rfl rfl rfl rfl rfl rfl rfl (c_X10_passed hR hD2 (wfCity_fr hfm wC) hwr hN (by omega) (by omega) (fun σ3 hD3 fr3 => ?_))
      dsimp only [Option.toList, List.cons_append, List.nil_append]
      refine a_ild2 eX10_refuse_105 ?_
      refine a_iret eX10_refuse_106 rfl rfl ⟨Nat.zero_le _, Nat.zero_le _⟩ ?_
      refine aw_ret (x := m (200 + r) 0) ?_ hc0
      refine h1 hv σ3 ?_ (frM_tr fr2 fr3)
      unfold mrefuse
      rw [← hc0]
      exact hD3
    · skip
      exfalso; omega
  | succ n ih =>
    intro i hm hi
    obtain ⟨c1, c2, c3, c4, c5, c6, c7⟩ := id hM
    obtain ⟨w1, w2, w3, w4, w5, w6, w7, w8⟩ := id wC
    obtain ⟨d1, d2, d3, d4, d5, d6, d7⟩ := id hM2
    obtain ⟨v1, v2, v3, v4, v5, v6, v7, v8⟩ := id wD
    simp only [Int.zero_add] at d4 d5 d6 d7 v4 v5 v6 v7 v8
    have hv' := id hv
    unfold vref at hv'
    have v4r := v4 r (by omega) (by omega)
    have d4r := d4 r (by omega) (by omega)
    have hs := row_st (k := 0) wC wD (r := r) (by omega) (by omega)
    have h6 := d6 r 0 (by omega) (by omega) (by omega) (by omega)
    rw [Int.add_zero] at h6
    have hwr := rf_wf wC wD hv
    have hrd := rf_rowD (m := m) (r := r) (by omega)
    have hfm : frm m (mrf m r) := rowD_frm (by omega) hrd
    obtain ⟨c, hc0⟩ : ∃ c, c = m (200 + r) 0 := ⟨_, rfl⟩
    rw [← hc0] at hs h6
    obtain ⟨hs1, hs2⟩ := hs
    obtain ⟨⟨hs3, hs4⟩, hs5⟩ := id hs1
    rw [← hc0]
    refine a_ild3 eX10_refuse_31 ?_
    refine a_ald0 eX10_refuse_32 ?_
    refine a_getR 25 184 eX10_refuse_33 fl_X10_48 rfl rfl sh_171 ((congrFun (congrFun hR _) _).trans rf_171_25) ?_
    refine a_ild1 eX10_refuse_36 ?_
    refine a_iald eX10_refuse_37 sh_184 rfl (by omega) ?_
    refine a_eqtop (y0 := m 10 r) (by simp only [rd_si, rd_sa, and_self, true_and, and_true, ↓reduceIte]; (repeat (first | rw [if_pos (by omega)] | rw [if_neg (by omega)] | rw [if_pos True.intro])); exact d4r.1) ?_
    refine a_icmp_ge 71 eX10_refuse_38 (by decide) (by omega) (fun hT38 => ?_) (fun hF38 => ?_)
    · skip
      refine a_ald0 eX10_refuse_71 ?_
      refine a_getR 24 183 eX10_refuse_72 fl_X10_45 rfl rfl sh_171 ((congrFun (congrFun hR _) _).trans rf_171_24) ?_
      refine a_bipush eX10_refuse_75 (by decide) ?_
      refine a_ild1 eX10_refuse_77 ?_
      refine a_imul eX10_refuse_78 ?_
      refine a_ald0 eX10_refuse_79 ?_
      refine a_getR 25 184 eX10_refuse_80 fl_X10_48 rfl rfl sh_171 ((congrFun (congrFun hR _) _).trans rf_171_25) ?_
      refine a_ild1 eX10_refuse_83 ?_
      refine a_iald eX10_refuse_84 sh_184 rfl (by omega) ?_
      refine a_eqtop (y0 := m 10 r) (by simp only [rd_si, rd_sa, and_self, true_and, and_true, ↓reduceIte]; (repeat (first | rw [if_pos (by omega)] | rw [if_neg (by omega)] | rw [if_pos True.intro])); exact d4r.1) ?_
      refine a_iadd eX10_refuse_85 ?_
      refine a_iconst eX10_refuse_86 ?_
      refine a_isub eX10_refuse_87 ?_
      refine a_ild2 eX10_refuse_88 ?_
      refine a_iast eX10_refuse_89 sh_183 rfl (by omega) ?_
      refine AW.gen (fun σ2 hσ2 => ?_)
      have h2s : σ2.2 = σ.2 := by rw [hσ2]; rfl
      have hR : σ2.2.2 = RF tw cs := by rw [h2s]; exact hR
      have h2o : ∀ (a : Nat) (j : Int), a ≠ 183 → σ2.1 a j = σ.1 a j := fun a j q1 => by rw [hσ2]; simp only [rd_si, rd_sa]; (repeat rw [if_neg (by omega)])
      have h2f : ∀ j : Int, σ2.1 183 j = if j = 18 * r + m 10 r - 1 then c else if 18 * r ≤ j ∧ j < 18 * r + m 10 r - 1 then σ.1 183 (j + 1) else σ.1 183 j := fun j => by
        rw [hσ2]; simp only [rd_si, rd_sa, true_and, ↓reduceIte]; rw [show i = m 10 r by omega]
      have hD2 : dayM σ2 (mrf m r) := by
        refine dayM_row (by omega) (by omega) (fun x q1 q2 => by have := v4 x q1 q2; omega) (by omega) hrd hM2 (fun a j q1 q2 => ?_) ((h2o _ _ (by omega)).trans d4r.1) (fun j j1 j2 => ?_)
        · by_cases z : a = 183
          · subst z; rw [h2f, if_neg (by omega), if_neg (by omega)]
          · exact h2o a j z
        · rw [h2f]
          by_cases q : j < m 10 r - 1
          · rw [if_neg (by omega), if_pos (by omega), if_pos q, show (18 * r + j + 1 : Int) = 18 * r + (j + 1) by omega]; exact d6 r (j + 1) (by omega) (by omega) (by omega) (by omega)
          · rw [if_pos (by omega), if_neg q]; exact hc0
      have fr2 : frM σ σ2 := ⟨fun a j h h9 => h2o a j (by omega), h2s⟩
      refine a_ald0 eX10_refuse_90 ?_
      refine a_ild2 eX10_refuse_91 ?_
      refine a_ild1 eX10_refuse_92 ?_
      refine a_iconst eX10_refuse_93 ?_
      refine a_ald0 eX10_refuse_94 ?_
      refine a_getR 25 184 eX10_refuse_95 fl_X10_48 rfl rfl sh_171 ((congrFun (congrFun hR _) _).trans rf_171_25) ?_
      refine a_ild1 eX10_refuse_98 ?_
      refine a_iald eX10_refuse_99 sh_184 rfl (by omega) ?_
      refine a_eqtop (y0 := m 10 r) (by exact (h2o _ _ (by omega)).trans d4r.1) ?_
      refine a_iconst eX10_refuse_100 ?_
      refine a_isub eX10_refuse_101 ?_
      refine a_cV4 eX10_refuse_102 lk_X10_289 mV_X10_passed sh_171 ⟨_, rfl, rfl⟩ mt_X10_passed rfl rfl rfl rfl rfl rfl rfl rfl (c_X10_passed hR hD2 (wfCity_fr hfm wC) hwr hN (by omega) (by omega) (fun σ3 hD3 fr3 => ?_))
      dsimp only [Option.toList, List.cons_append, List.nil_append]
      refine a_ild2 eX10_refuse_105 ?_
      refine a_iret eX10_refuse_106 rfl rfl ⟨Nat.zero_le _, Nat.zero_le _⟩ ?_
      refine aw_ret (x := m (200 + r) 0) ?_ hc0
      refine h1 hv σ3 ?_ (frM_tr fr2 fr3)
      unfold mrefuse
      rw [← hc0]
      exact hD3
    · skip
      refine a_ald0 eX10_refuse_41 ?_
      refine a_getR 24 183 eX10_refuse_42 fl_X10_45 rfl rfl sh_171 ((congrFun (congrFun hR _) _).trans rf_171_24) ?_
      refine a_bipush eX10_refuse_45 (by decide) ?_
      refine a_ild1 eX10_refuse_47 ?_
      refine a_imul eX10_refuse_48 ?_
      refine a_ild3 eX10_refuse_49 ?_
      refine a_iadd eX10_refuse_50 ?_
      refine a_iconst eX10_refuse_51 ?_
      refine a_isub eX10_refuse_52 ?_
      refine a_ald0 eX10_refuse_53 ?_
      refine a_getR 24 183 eX10_refuse_54 fl_X10_45 rfl rfl sh_171 ((congrFun (congrFun hR _) _).trans rf_171_24) ?_
      refine a_bipush eX10_refuse_57 (by decide) ?_
      refine a_ild1 eX10_refuse_59 ?_
      refine a_imul eX10_refuse_60 ?_
      refine a_ild3 eX10_refuse_61 ?_
      refine a_iadd eX10_refuse_62 ?_
      refine a_iald eX10_refuse_63 sh_183 rfl (by omega) ?_
      refine a_eqtop (y0 := σ.1 183 (18 * r + i)) (by simp only [rd_si, rd_sa, and_self, true_and, and_true, ↓reduceIte]; (repeat (first | rw [if_pos (by omega)] | rw [if_neg (by omega)] | rw [if_pos True.intro])); (try rfl)) ?_
      refine a_iast eX10_refuse_64 sh_183 rfl (by omega) ?_
      refine a_iinc3 eX10_refuse_65 (by decide) aw_n2i ?_
      refine a_goto 31 eX10_refuse_68 (by decide) ?_
      refine AW.st (aw_si_sa σ 183 _ (18 * r + i - 1) _) ?_
      rw [hc0]
      refine AW.st (aw_sa_congr (g' := fun j => if 18 * r ≤ j ∧ j < 18 * r + (i + 1) - 1 then σ.1 183 (j + 1) else σ.1 183 j) (fun j => ?_)) (ih (i + 1) (by omega) (by omega))
      by_cases q1 : j = 18 * r + i - 1
      · subst q1
        rw [if_pos rfl, if_pos (by omega), show (18 * r + i - 1 + 1 : Int) = 18 * r + i by omega]
      · rw [if_neg q1]
        by_cases q2 : 18 * r ≤ j ∧ j < 18 * r + i - 1
        · rw [if_pos q2, if_pos (by omega)]
        · rw [if_neg q2, if_neg (by omega)]

set_option maxHeartbeats 4000000 in
set_option maxRecDepth 100000 in
theorem c_X10_refuse {l : Launch} {σ : aw_S} {Post : Option Value → aw_S → Prop} {tw cs : Bool} (hR : σ.2.2 = RF tw cs) {m : mS} (hM : cityM σ m) (wC : wfCity m) {N : Int} (hM2 : dayM σ m) (wD : wfDay m 0 N) (hN : 0 ≤ N ∧ N ≤ 1000) {r : Int} (hr : (-2147483648 ≤ r ∧ r ≤ 2147483647)) (h1 : vref m r → ∀ σ', dayM σ' (mrefuse m r) → frM σ σ' → Post (some (.int (jI (m (200 + r) 0)))) σ') (h0 : ¬ vref m r → Post (some (.int (jI (-1)))) σ) : AE l yX10_refuse cX10_refuse 4 (some .int) 2 43 0 0 SH SH σ [.ref 171, .int (jI r)] Post := by
  show AW l yX10_refuse cX10_refuse 4 (some .int) 2 43 0 0 SH Post SH 0 0 σ 0 [some (.ref 171), some (.int (jI r)), none, none] []
  obtain ⟨c1, c2, c3, c4, c5, c6, c7⟩ := id hM
  obtain ⟨w1, w2, w3, w4, w5, w6, w7, w8⟩ := id wC
  obtain ⟨d1, d2, d3, d4, d5, d6, d7⟩ := id hM2
  obtain ⟨v1, v2, v3, v4, v5, v6, v7, v8⟩ := id wD
  simp only [Int.zero_add] at d4 d5 d6 d7 v4 v5 v6 v7 v8
  refine a_ald0 eX10_refuse_0 ?_
  refine a_ild1 eX10_refuse_1 ?_
  refine a_cV1 eX10_refuse_2 lk_X10_255 mV_X10_isRank sh_171 ⟨_, rfl, rfl⟩ mt_X10_isRank rfl rfl rfl rfl rfl (c_X10_isRank (by omega) (by omega) (fun hT2 => ?_) (fun hF2 => ?_))
  · skip
    dsimp only [Option.toList, List.cons_append, List.nil_append]
    refine a_if_eq 17 eX10_refuse_5 (by decide) (by omega) (fun h => absurd h (by decide)) (fun _ => ?_)
    refine a_ald0 eX10_refuse_8 ?_
    refine a_getR 25 184 eX10_refuse_9 fl_X10_48 rfl rfl sh_171 ((congrFun (congrFun hR _) _).trans rf_171_25) ?_
    refine a_ild1 eX10_refuse_12 ?_
    refine a_iald eX10_refuse_13 sh_184 rfl (by omega) ?_
    have v4r := v4 r (by omega) (by omega)
    have d4r := d4 r (by omega) (by omega)
    refine a_eqtop (y0 := m 10 r) (by exact d4r.1) ?_
    refine a_if_ne 19 eX10_refuse_14 (by decide) (by omega) (fun hT14 => ?_) (fun hF14 => ?_)
    · skip
      have hv : vref m r := ⟨by omega, by omega⟩
      have h6 := d6 r 0 (by omega) (by omega) (by omega) (by omega)
      rw [Int.add_zero] at h6
      refine a_ald0 eX10_refuse_19 ?_
      refine a_getR 24 183 eX10_refuse_20 fl_X10_45 rfl rfl sh_171 ((congrFun (congrFun hR _) _).trans rf_171_24) ?_
      refine a_bipush eX10_refuse_23 (by decide) ?_
      refine a_ild1 eX10_refuse_25 ?_
      refine a_imul eX10_refuse_26 ?_
      refine a_iald eX10_refuse_27 sh_183 rfl (by omega) ?_
      refine a_eqtop (y0 := m (200 + r) 0) (by exact h6) ?_
      refine a_ist2 eX10_refuse_28 (by decide) aw_n2i ?_
      refine a_iconst eX10_refuse_29 ?_
      refine a_ist3 eX10_refuse_30 (by decide) aw_n2i ?_
      refine AW.st (aw_sa_self σ 183 (g := fun j => if 18 * r ≤ j ∧ j < 18 * r + 1 - 1 then σ.1 183 (j + 1) else σ.1 183 j) (fun j => if_neg (by omega))).symm (lp_refuse hR hM wC hM2 wD hN hv h1 _ 1 (Nat.le_refl _) (by omega))
    · skip
      refine a_iconst eX10_refuse_17 ?_
      refine a_iret eX10_refuse_18 rfl rfl ⟨Nat.zero_le _, Nat.zero_le _⟩ ?_
      exact h0 (fun q => by unfold vref at q; omega)
  · skip
    dsimp only [Option.toList, List.cons_append, List.nil_append]
    refine a_if_eq 17 eX10_refuse_5 (by decide) (by omega) (fun _ => ?_) (fun h => absurd h (by decide))
    refine a_iconst eX10_refuse_17 ?_
    refine a_iret eX10_refuse_18 rfl rfl ⟨Nat.zero_le _, Nat.zero_le _⟩ ?_
    exact h0 (fun q => by unfold vref at q; omega)

set_option maxHeartbeats 4000000 in
set_option maxRecDepth 100000 in
theorem c_X10_change {l : Launch} {σ : aw_S} {Post : Option Value → aw_S → Prop} {tw cs : Bool} (hR : σ.2.2 = RF tw cs) {m : mS} (hM : cityM σ m) (wC : wfCity m) {N : Int} (hM2 : dayM σ m) (wD : wfDay m 0 N) (hN : 0 ≤ N ∧ N ≤ 1000) {c e : Int} (hr : (-2147483648 ≤ c ∧ c ≤ 2147483647) ∧ (-2147483648 ≤ e ∧ e ≤ 2147483647)) (h1 : vchange m c e → ∀ σ', dayM σ' (mchange m c e) → frM σ σ' → Post (some (.int (jI 1))) σ') (h0 : ¬ vchange m c e → Post (some (.int (jI 0))) σ) : AE l yX10_change cX10_change 6 (some .boolean) 3 65 0 0 SH SH σ [.ref 171, .int (jI c), .int (jI e)] Post := by
  show AW l yX10_change cX10_change 6 (some .boolean) 3 65 0 0 SH Post SH 0 0 σ 0 [some (.ref 171), some (.int (jI c)), some (.int (jI e)), none, none, none] []
  obtain ⟨c1, c2, c3, c4, c5, c6, c7⟩ := id hM
  obtain ⟨w1, w2, w3, w4, w5, w6, w7, w8⟩ := id wC
  obtain ⟨d1, d2, d3, d4, d5, d6, d7⟩ := id hM2
  obtain ⟨v1, v2, v3, v4, v5, v6, v7, v8⟩ := id wD
  simp only [Int.zero_add] at d4 d5 d6 d7 v4 v5 v6 v7 v8
  refine a_ald0 eX10_change_0 ?_
  refine a_ild1 eX10_change_1 ?_
  refine a_iconst eX10_change_2 ?_
  refine a_cV2 eX10_change_3 lk_X10_293 mV_X10_isAt sh_171 ⟨_, rfl, rfl⟩ mt_X10_isAt rfl rfl rfl rfl rfl rfl (c_X10_isAt hR hM2 wC wD hN (by omega) (fun hT3 => ?_) (fun hF3 => ?_))
  · skip
    dsimp only [Option.toList, List.cons_append, List.nil_append]
    refine a_if_eq 38 eX10_change_6 (by decide) (by omega) (fun h => absurd h (by decide)) (fun _ => ?_)
    refine a_ald0 eX10_change_9 ?_
    refine a_ild2 eX10_change_10 ?_
    refine a_iconst eX10_change_11 ?_
    refine a_cV2 eX10_change_12 lk_X10_293 mV_X10_isAt sh_171 ⟨_, rfl, rfl⟩ mt_X10_isAt rfl rfl rfl rfl rfl rfl (c_X10_isAt hR hM2 wC wD hN (by omega) (fun hT12 => ?_) (fun hF12 => ?_))
    · skip
      dsimp only [Option.toList, List.cons_append, List.nil_append]
      refine a_if_eq 38 eX10_change_15 (by decide) (by omega) (fun h => absurd h (by decide)) (fun _ => ?_)
      refine a_ild1 eX10_change_18 ?_
      refine a_ild2 eX10_change_19 ?_
      refine a_icmp_eq 38 eX10_change_20 (by decide) (by omega) (fun hT20 => ?_) (fun hF20 => ?_)
      · skip
        refine a_iconst eX10_change_38 ?_
        refine a_zret eX10_change_39 rfl (by first | exact Or.inl rfl | exact Or.inr rfl | omega) rfl ⟨Nat.zero_le _, Nat.zero_le _⟩ ?_
        exact h0 (fun q => by unfold vchange vst at q; omega)
      · skip
        have hv1 : vst m c := hT3
        have hv2 : vst m e := hT12
        have hp1 := pos0 wC wD hv1
        have hp2 := pos0 wC wD hv2
        obtain ⟨a1, ha1⟩ : ∃ a1, a1 = mpos m 0 c := ⟨_, rfl⟩
        obtain ⟨a2, ha2⟩ : ∃ a2, a2 = mpos m 0 e := ⟨_, rfl⟩
        rw [← ha1] at hp1
        rw [← ha2] at hp2
        obtain ⟨hp11, hp12, hp13⟩ := hp1
        obtain ⟨hp21, hp22, hp23⟩ := hp2
        have kc := d5 c (by omega) (by omega)
        unfold cabM at kc
        have kc2 := kc.2.2.2.1 (Or.inr (by omega))
        have ke := d5 e (by omega) (by omega)
        unfold cabM at ke
        have ke2 := ke.2.2.2.1 (Or.inr (by omega))
        refine a_ald0 eX10_change_23 ?_
        refine a_ild1 eX10_change_24 ?_
        refine a_iconst eX10_change_25 ?_
        refine a_cV2 eX10_change_26 lk_X10_276 mV_X10_of0 sh_171 ⟨_, rfl, rfl⟩ mt_X10_of0 rfl rfl rfl rfl rfl rfl (c_X10_of0 hR (by omega) ?_)
        dsimp only [Option.toList, List.cons_append, List.nil_append]
        refine a_eqtop (y0 := m (100 + c) 3) (by exact kc2) ?_
        refine a_ald0 eX10_change_29 ?_
        refine a_ild2 eX10_change_30 ?_
        refine a_iconst eX10_change_31 ?_
        refine a_cV2 eX10_change_32 lk_X10_276 mV_X10_of0 sh_171 ⟨_, rfl, rfl⟩ mt_X10_of0 rfl rfl rfl rfl rfl rfl (c_X10_of0 hR (by omega) ?_)
        dsimp only [Option.toList, List.cons_append, List.nil_append]
        refine a_eqtop (y0 := m (100 + e) 3) (by exact ke2) ?_
        refine a_icmp_eq 40 eX10_change_35 (by decide) (by omega) (fun hT35 => ?_) (fun hF35 => ?_)
        · skip
          obtain ⟨r, hrk⟩ : ∃ r, r = m (100 + c) 3 := ⟨_, rfl⟩
          have her : m (100 + e) 3 = r := by omega
          rw [← hrk] at hp11 hp12 hp13
          rw [her] at hp22 hp23
          have v4r := v4 r (by omega) (by omega)
          have d4r := d4 r (by omega) (by omega)
          have hv : vchange m c e := ⟨hv1, hv2, by omega, by omega⟩
          have hwr := sw_wf (r := r) (a := a1) (b := a2) wC wD (by omega) hp12 hp22
          have hrd := sw_rowD (m := m) (r := r) (a := a1) (b := a2) (by omega)
          refine a_ald0 eX10_change_40 ?_
          refine a_ild1 eX10_change_41 ?_
          refine a_iconst eX10_change_42 ?_
          refine a_cV2 eX10_change_43 lk_X10_276 mV_X10_of0 sh_171 ⟨_, rfl, rfl⟩ mt_X10_of0 rfl rfl rfl rfl rfl rfl (c_X10_of0 hR (by omega) ?_)
          dsimp only [Option.toList, List.cons_append, List.nil_append]
          refine a_eqtop (y0 := r) (by rw [hrk]; exact kc2) ?_
          refine a_ist3 eX10_change_46 (by decide) aw_n2i ?_
          refine a_ald0 eX10_change_47 ?_
          refine a_ild1 eX10_change_48 ?_
          refine a_cV1 eX10_change_49 lk_X10_283 mV_X10_posOf sh_171 ⟨_, rfl, rfl⟩ mt_X10_posOf rfl rfl rfl rfl rfl (c_X10_posOf hR hM2 wC wD hN hv1.1 hv1.2 ?_)
          dsimp only [Option.toList, List.cons_append, List.nil_append]
          refine a_eqtop (y0 := a1) (by rw [ha1]) ?_
          refine a_ist4 eX10_change_52 (by decide) aw_n2i ?_
          refine a_ald0 eX10_change_54 ?_
          refine a_ild2 eX10_change_55 ?_
          refine a_cV1 eX10_change_56 lk_X10_283 mV_X10_posOf sh_171 ⟨_, rfl, rfl⟩ mt_X10_posOf rfl rfl rfl rfl rfl (c_X10_posOf hR hM2 wC wD hN hv2.1 hv2.2 ?_)
          dsimp only [Option.toList, List.cons_append, List.nil_append]
          refine a_eqtop (y0 := a2) (by rw [ha2]) ?_
          refine a_ist5 eX10_change_59 (by decide) aw_n2i ?_
          refine a_ald0 eX10_change_61 ?_
          refine a_getR 24 183 eX10_change_62 fl_X10_45 rfl rfl sh_171 ((congrFun (congrFun hR _) _).trans rf_171_24) ?_
          refine a_bipush eX10_change_65 (by decide) ?_
          refine a_ild3 eX10_change_67 ?_
          refine a_imul eX10_change_68 ?_
          refine a_ild4 eX10_change_69 ?_
          refine a_iadd eX10_change_71 ?_
          refine a_ild2 eX10_change_72 ?_
          refine a_iast eX10_change_73 sh_183 rfl (by omega) ?_
          refine a_ald0 eX10_change_74 ?_
          refine a_getR 24 183 eX10_change_75 fl_X10_45 rfl rfl sh_171 ((congrFun (congrFun hR _) _).trans rf_171_24) ?_
          refine a_bipush eX10_change_78 (by decide) ?_
          refine a_ild3 eX10_change_80 ?_
          refine a_imul eX10_change_81 ?_
          refine a_ild5 eX10_change_82 ?_
          refine a_iadd eX10_change_84 ?_
          refine a_ild1 eX10_change_85 ?_
          refine a_iast eX10_change_86 sh_183 rfl (by omega) ?_
          refine AW.gen (fun σ2 hσ2 => ?_)
          have h2s : σ2.2 = σ.2 := by rw [hσ2]; rfl
          have hR : σ2.2.2 = RF tw cs := by rw [h2s]; exact hR
          have h2o : ∀ (a : Nat) (j : Int), ¬ (a = 183 ∧ 18 * r ≤ j ∧ j < 18 * r + 18) → σ2.1 a j = σ.1 a j := fun a j q1 => by rw [hσ2]; simp only [rd_si]; (repeat rw [if_neg (by omega)])
          have hD2 : dayM σ2 (msw m r a1 a2) := by
            refine dayM_row (by omega) (by omega) (fun x q1 q2 => by have := v4 x q1 q2; omega) (by omega) hrd hM2 (fun a j q1 q2 => h2o a j q1) ((h2o _ _ (by omega)).trans d4r.1) (fun j j1 j2 => ?_)
            rw [hσ2]
            simp only [rd_si, true_and, swp]
            by_cases q1 : j = a1
            · rw [if_neg (by intro z; have : a1 = a2 := by omega
                             subst this; have := hp13.symm.trans hp23; omega), if_pos (by omega), if_pos q1]; exact hp23.symm
            · by_cases q2 : j = a2
              · rw [if_pos (by omega), if_neg q1, if_pos q2]; exact hp13.symm
              · rw [if_neg (by omega), if_neg (by omega), if_neg q1, if_neg q2]; exact d6 r j (by omega) (by omega) j1 j2
          have fr2 : frM σ σ2 := ⟨fun a j h h9 => h2o a j (by omega), h2s⟩
          have hfm : frm m (msw m r a1 a2) := rowD_frm (by omega) hrd
          refine a_ald0 eX10_change_87 ?_
          refine a_ild1 eX10_change_88 ?_
          refine a_ild3 eX10_change_89 ?_
          refine a_iconst eX10_change_90 ?_
          refine a_ild4 eX10_change_91 ?_
          refine a_ild5 eX10_change_93 ?_
          refine a_cS2 eX10_change_95 lk_X10_296 mS_X10_apart mt_X10_apart rfl rfl rfl rfl rfl rfl (c_X10_apart (by omega) ?_)
          dsimp only [Option.toList, List.cons_append, List.nil_append]
          refine a_cV4 eX10_change_98 lk_X10_289 mV_X10_passed sh_171 ⟨_, rfl, rfl⟩ mt_X10_passed rfl rfl rfl rfl rfl rfl rfl rfl (c_X10_passed hR hD2 (wfCity_fr hfm wC) hwr hN (by have := aw_ap_b (a := a1) (b := a2) (by omega) (by omega); omega) (by have := aw_ap_b (a := a1) (b := a2) (by omega) (by omega); omega) (fun σ3 hD3 fr3 => ?_))
          dsimp only [Option.toList, List.cons_append, List.nil_append]
          refine a_iconst eX10_change_101 ?_
          refine a_zret eX10_change_102 rfl (by first | exact Or.inl rfl | exact Or.inr rfl | omega) rfl ⟨Nat.zero_le _, Nat.zero_le _⟩ ?_
          refine h1 hv σ3 ?_ (frM_tr fr2 fr3)
          unfold mchange
          rw [← hrk, ← ha1, ← ha2]
          exact hD3
        · skip
          refine a_iconst eX10_change_38 ?_
          refine a_zret eX10_change_39 rfl (by first | exact Or.inl rfl | exact Or.inr rfl | omega) rfl ⟨Nat.zero_le _, Nat.zero_le _⟩ ?_
          exact h0 (fun q => by unfold vchange vst at q; omega)
    · skip
      dsimp only [Option.toList, List.cons_append, List.nil_append]
      refine a_if_eq 38 eX10_change_15 (by decide) (by omega) (fun _ => ?_) (fun h => absurd h (by decide))
      refine a_iconst eX10_change_38 ?_
      refine a_zret eX10_change_39 rfl (by first | exact Or.inl rfl | exact Or.inr rfl | omega) rfl ⟨Nat.zero_le _, Nat.zero_le _⟩ ?_
      exact h0 (fun q => by unfold vchange vst at q; omega)
  · skip
    dsimp only [Option.toList, List.cons_append, List.nil_append]
    refine a_if_eq 38 eX10_change_6 (by decide) (by omega) (fun _ => ?_) (fun h => absurd h (by decide))
    refine a_iconst eX10_change_38 ?_
    refine a_zret eX10_change_39 rfl (by first | exact Or.inl rfl | exact Or.inr rfl | omega) rfl ⟨Nat.zero_le _, Nat.zero_le _⟩ ?_
    exact h0 (fun q => by unfold vchange vst at q; omega)
