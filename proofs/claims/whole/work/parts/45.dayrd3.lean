/-- how many of the first n CABS are in a state -/
def cnt (m : mS) (b s : Int) : Nat → Int
  | 0 => 0
  | n + 1 => cnt m b s n + (if m (b + 100 + (n : Int)) 1 = s then 1 else 0)
theorem cnt_s {m : mS} {b s k : Int} (h : 0 ≤ k) : cnt m b s (k + 1).toNat = cnt m b s k.toNat + (if m (b + 100 + k) 1 = s then 1 else 0) := by
  have e : (k + 1).toNat = k.toNat + 1 := by omega
  have e2 : ((k.toNat : Nat) : Int) = k := Int.toNat_of_nonneg h
  rw [e, cnt, e2]
theorem cnt_1 {m : mS} {b s k : Int} (h : 0 ≤ k) (h1 : m (b + 100 + k) 1 = s) : cnt m b s (k + 1).toNat = cnt m b s k.toNat + 1 := by rw [cnt_s h, if_pos h1]
theorem cnt_0 {m : mS} {b s k : Int} (h : 0 ≤ k) (h1 : ¬ m (b + 100 + k) 1 = s) : cnt m b s (k + 1).toNat = cnt m b s k.toNat := by rw [cnt_s h, if_neg h1, Int.add_zero]
theorem cnt_b {m : mS} {b s : Int} : ∀ n : Nat, 0 ≤ cnt m b s n ∧ cnt m b s n ≤ (n : Int)
  | 0 => by simp [cnt]
  | n + 1 => by
    have := cnt_b (m := m) (b := b) (s := s) n
    rw [cnt]
    split <;> omega
set_option maxHeartbeats 4000000 in
set_option maxRecDepth 100000 in
theorem lp_inState {l : Launch} {σ : aw_S} {Post : Option Value → aw_S → Prop} {tw cs : Bool} (hR : σ.2.2 = RF tw cs) {d : Nat} (hd : isDay d) {b N : Int} {m : mS} (hD : dayC σ d b m) (wC : wfCity m) (wD : wfDay m b N) (hN : 0 ≤ N ∧ N ≤ 1000) {s : Int} (hs : 0 ≤ s ∧ s ≤ 3) (hk : Post (some (.int (jI (cnt m b s (m b 4).toNat)))) σ)  : ∀ (n : Nat) (k : Int), ((m b 4 - k).toNat ≤ n) → (0 ≤ k ∧ k ≤ m b 4) → AW l yX5_inState cX5_inState 4 (some .int) 0 0 0 0 SH Post SH 0 0 (σ) 4 [some (.ref d), some (.int (jI s)), some (.int (jI (cnt m b s k.toNat))), some (.int (jI k))] [] := by
  intro n
  induction n with
  | zero =>
    intro k hm hkk
    obtain ⟨d1, d2, d3, d4, d5, d6, d7⟩ := id hD
    obtain ⟨w1, w2, w3, w4, w5, w6, w7, w8⟩ := id wC
    obtain ⟨v1, v2, v3, v4, v5, v6, v7, v8⟩ := id wD
    refine a_ild3 eX5_inState_4 ?_
    refine a_ald0 eX5_inState_5 ?_
    refine a_getI 1 eX5_inState_6 fl_X5_37 rfl rfl (sh_day hd) ?_
    refine a_icmp_ge 34 eX5_inState_9 (by decide) (by omega) (fun hT9 => ?_) (fun hF9 => ?_)
    · skip
      refine a_ild2 eX5_inState_34 ?_
      refine a_iret eX5_inState_35 rfl rfl ⟨Nat.zero_le _, Nat.zero_le _⟩ ?_
      have e : k = m b 4 := by omega
      rw [e]
      exact hk
    · skip
      exfalso; omega
  | succ n ih =>
    intro k hm hkk
    obtain ⟨d1, d2, d3, d4, d5, d6, d7⟩ := id hD
    obtain ⟨w1, w2, w3, w4, w5, w6, w7, w8⟩ := id wC
    obtain ⟨v1, v2, v3, v4, v5, v6, v7, v8⟩ := id wD
    refine a_ild3 eX5_inState_4 ?_
    refine a_ald0 eX5_inState_5 ?_
    refine a_getI 1 eX5_inState_6 fl_X5_37 rfl rfl (sh_day hd) ?_
    refine a_icmp_ge 34 eX5_inState_9 (by decide) (by omega) (fun hT9 => ?_) (fun hF9 => ?_)
    · skip
      refine a_ild2 eX5_inState_34 ?_
      refine a_iret eX5_inState_35 rfl rfl ⟨Nat.zero_le _, Nat.zero_le _⟩ ?_
      have e : k = m b 4 := by omega
      rw [e]
      exact hk
    · skip
      have e1 := d5 k 1 (by omega) (by omega) (by omega) (by omega)
      have w1 := (v5 k (by omega) (by omega)).2.1
      refine a_ald0 eX5_inState_12 ?_
      refine a_getR 2 (d + 1) eX5_inState_13 fl_X5_11 rfl rfl (sh_day hd) ((congrFun (congrFun hR _) _).trans (rf_day_2 hd)) ?_
      refine a_ild3 eX5_inState_16 ?_
      refine a_aald _ eX5_inState_17 (sh_day_1 hd) rfl rfl rfl (by omega) ((congrFun (congrFun hR _) _).trans (rf_cab hd (by omega))) ?_
      refine a_getI 1 eX5_inState_18 fl_X5_67 rfl rfl (sh_cab hd (by omega)) ?_
      refine a_ild1 eX5_inState_21 ?_
      refine a_icmp_ne 28 eX5_inState_22 (by decide) (by omega) (fun hT22 => ?_) (fun hF22 => ?_)
      · skip
        refine a_iinc3 eX5_inState_28 (by decide) aw_n2i ?_
        refine a_goto 4 eX5_inState_31 (by decide) ?_
        have q := ih (k + 1) (by omega) (by omega)
        first
          | (rw [cnt_1 hkk.1 (by omega)] at q; exact q)
          | (rw [cnt_0 hkk.1 (by omega)] at q; exact q)
      · skip
        refine a_iinc2 eX5_inState_25 (by decide) aw_n2i ?_
        refine a_iinc3 eX5_inState_28 (by decide) aw_n2i ?_
        refine a_goto 4 eX5_inState_31 (by decide) ?_
        have q := ih (k + 1) (by omega) (by omega)
        first
          | (rw [cnt_1 hkk.1 (by omega)] at q; exact q)
          | (rw [cnt_0 hkk.1 (by omega)] at q; exact q)

set_option maxHeartbeats 4000000 in
set_option maxRecDepth 100000 in
theorem c_X5_inState {l : Launch} {σ : aw_S} {Post : Option Value → aw_S → Prop} {tw cs : Bool} (hR : σ.2.2 = RF tw cs) {d : Nat} (hd : isDay d) {b N : Int} {m : mS} (hD : dayC σ d b m) (wC : wfCity m) (wD : wfDay m b N) (hN : 0 ≤ N ∧ N ≤ 1000) {s : Int} (hs : 0 ≤ s ∧ s ≤ 3) (hk : Post (some (.int (jI (cnt m b s (m b 4).toNat)))) σ)  : AE l yX5_inState cX5_inState 4 (some .int) 0 0 0 0 SH SH σ [.ref d, .int (jI s)] Post := by
  show AW l yX5_inState cX5_inState 4 (some .int) 0 0 0 0 SH Post SH 0 0 σ 0 [some (.ref d), some (.int (jI s)), none, none] []
  refine a_iconst eX5_inState_0 ?_
  refine a_ist2 eX5_inState_1 (by decide) aw_n2i ?_
  refine a_iconst eX5_inState_2 ?_
  refine a_ist3 eX5_inState_3 (by decide) aw_n2i ?_
  exact lp_inState hR hd hD wC wD hN hs hk _ 0 (Nat.le_refl _) (by have := wD.2.1; omega)

def sp_count (m : mS) (w : Int) : Int := if w = 0 then m 0 0 else if w = 1 then m 0 1 else if w = 2 then m 0 4 else if w = 3 then m 0 3 else if w = 4 then m 0 6 else if w = 5 then m 0 7 else if w = 6 then cnt m 0 2 (m 0 4).toNat else if w = 7 then cnt m 0 0 (m 0 4).toNat else -1
set_option maxHeartbeats 4000000 in
set_option maxRecDepth 100000 in
theorem c_X9_count {l : Launch} {σ : aw_S} {Post : Option Value → aw_S → Prop} {tw cs : Bool} (hR : σ.2.2 = RF tw cs) {t : Nat} (hct : isCity t) (hrt : RF tw cs 0 1 = some t) {m : mS} (hC : cityC σ t m) (wC : wfCity m) {N : Int} (hD : dayC σ 21 0 m) (wD : wfDay m 0 N) (hN : 0 ≤ N ∧ N ≤ 1000) {w : Int} (hr : (-2147483648 ≤ w ∧ w ≤ 2147483647)) (hb : σ.1 64 0 = m 0 6) (ht : σ.1 1 1 = m 0 7) (hk : Post (some (.int (jI (sp_count m w)))) σ) : AE l yX9_count cX9_count 2 (some .int) 1 23 0 0 SH SH σ [.ref 0, .int (jI w)] Post := by
  show AW l yX9_count cX9_count 2 (some .int) 1 23 0 0 SH Post SH 0 0 σ 0 [some (.ref 0), some (.int (jI w))] []
  obtain ⟨c1, c2, c3, c4, c5, c6, c7, c8⟩ := id hC
  obtain ⟨w1, w2, w3, w4, w5, w6, w7, w8⟩ := id wC
  obtain ⟨d1, d2, d3, d4, d5, d6, d7⟩ := id hD
  obtain ⟨v1, v2, v3, v4, v5, v6, v7, v8⟩ := id wD
  simp only [Int.zero_add] at d4 d5 d6 d7 v4 v5 v6 v7 v8
  refine a_ild1 eX9_count_0 ?_
  by_cases hsw : 0 ≤ w ∧ w ≤ 7
  · have hsx : w = 0 ∨ w = 1 ∨ w = 2 ∨ w = 3 ∨ w = 4 ∨ w = 5 ∨ w = 6 ∨ w = 7 := by omega
    rcases hsx with rfl | rfl | rfl | rfl | rfl | rfl | rfl | rfl
    · refine a_table 47 48 eX9_count_1 (by omega) (by omega) (by omega) rfl (by decide) ?_
      refine a_ald0 eX9_count_48 ?_
      refine a_getR 1 t eX9_count_49 fl_X9_19 rfl rfl sh_0 ((congrFun (congrFun hR _) _).trans hrt) ?_
      refine a_getI 0 eX9_count_52 fl_X9_99 rfl rfl (sh_city hct) ?_
      refine a_iret eX9_count_55 rfl rfl ⟨Nat.zero_le _, Nat.zero_le _⟩ ?_
      first | (refine aw_ret hk ?_; unfold sp_count; (repeat (first | rw [if_pos (by omega)] | rw [if_neg (by omega)])); done) | (refine aw_ret hk ?_; unfold sp_count; (repeat (first | rw [if_pos (by omega)] | rw [if_neg (by omega)])); omega)
    · refine a_table 55 56 eX9_count_1 (by omega) (by omega) (by omega) rfl (by decide) ?_
      refine a_ald0 eX9_count_56 ?_
      refine a_getR 1 t eX9_count_57 fl_X9_19 rfl rfl sh_0 ((congrFun (congrFun hR _) _).trans hrt) ?_
      refine a_getI 4 eX9_count_60 fl_X9_269 rfl rfl (sh_city hct) ?_
      refine a_iret eX9_count_63 rfl rfl ⟨Nat.zero_le _, Nat.zero_le _⟩ ?_
      first | (refine aw_ret hk ?_; unfold sp_count; (repeat (first | rw [if_pos (by omega)] | rw [if_neg (by omega)])); done) | (refine aw_ret hk ?_; unfold sp_count; (repeat (first | rw [if_pos (by omega)] | rw [if_neg (by omega)])); omega)
    · refine a_table 63 64 eX9_count_1 (by omega) (by omega) (by omega) rfl (by decide) ?_
      refine a_ald0 eX9_count_64 ?_
      refine a_getR 2 21 eX9_count_65 fl_X9_26 rfl rfl sh_0 ((congrFun (congrFun hR _) _).trans rf_0_2) ?_
      refine a_getI 1 eX9_count_68 fl_X9_282 rfl rfl (sh_day (Or.inl rfl)) ?_
      refine a_iret eX9_count_71 rfl rfl ⟨Nat.zero_le _, Nat.zero_le _⟩ ?_
      first | (refine aw_ret hk ?_; unfold sp_count; (repeat (first | rw [if_pos (by omega)] | rw [if_neg (by omega)])); done) | (refine aw_ret hk ?_; unfold sp_count; (repeat (first | rw [if_pos (by omega)] | rw [if_neg (by omega)])); omega)
    · refine a_table 71 72 eX9_count_1 (by omega) (by omega) (by omega) rfl (by decide) ?_
      refine a_ald0 eX9_count_72 ?_
      refine a_getR 2 21 eX9_count_73 fl_X9_26 rfl rfl sh_0 ((congrFun (congrFun hR _) _).trans rf_0_2) ?_
      refine a_getI 0 eX9_count_76 fl_X9_198 rfl rfl (sh_day (Or.inl rfl)) ?_
      refine a_iret eX9_count_79 rfl rfl ⟨Nat.zero_le _, Nat.zero_le _⟩ ?_
      first | (refine aw_ret hk ?_; unfold sp_count; (repeat (first | rw [if_pos (by omega)] | rw [if_neg (by omega)])); done) | (refine aw_ret hk ?_; unfold sp_count; (repeat (first | rw [if_pos (by omega)] | rw [if_neg (by omega)])); omega)
    · refine a_table 79 80 eX9_count_1 (by omega) (by omega) (by omega) rfl (by decide) ?_
      refine a_ald0 eX9_count_80 ?_
      refine a_getR 8 64 eX9_count_81 fl_X9_62 rfl rfl sh_0 ((congrFun (congrFun hR _) _).trans rf_0_8) ?_
      refine a_getI 0 eX9_count_84 fl_X9_96 rfl rfl sh_64 ?_
      refine a_iret eX9_count_87 rfl rfl ⟨Nat.zero_le _, Nat.zero_le _⟩ ?_
      first | (refine aw_ret hk ?_; unfold sp_count; (repeat (first | rw [if_pos (by omega)] | rw [if_neg (by omega)])); done) | (refine aw_ret hk ?_; unfold sp_count; (repeat (first | rw [if_pos (by omega)] | rw [if_neg (by omega)])); omega)
    · refine a_table 87 88 eX9_count_1 (by omega) (by omega) (by omega) rfl (by decide) ?_
      refine a_ald0 eX9_count_88 ?_
      refine a_getR 0 1 eX9_count_89 fl_X9_10 rfl rfl sh_0 ((congrFun (congrFun hR _) _).trans rf_0_0) ?_
      refine a_getI 1 eX9_count_92 fl_X9_73 rfl rfl sh_1 ?_
      refine a_iret eX9_count_95 rfl rfl ⟨Nat.zero_le _, Nat.zero_le _⟩ ?_
      first | (refine aw_ret hk ?_; unfold sp_count; (repeat (first | rw [if_pos (by omega)] | rw [if_neg (by omega)])); done) | (refine aw_ret hk ?_; unfold sp_count; (repeat (first | rw [if_pos (by omega)] | rw [if_neg (by omega)])); omega)
    · refine a_table 95 96 eX9_count_1 (by omega) (by omega) (by omega) rfl (by decide) ?_
      refine a_ald0 eX9_count_96 ?_
      refine a_getR 2 21 eX9_count_97 fl_X9_26 rfl rfl sh_0 ((congrFun (congrFun hR _) _).trans rf_0_2) ?_
      refine a_iconst eX9_count_100 ?_
      refine a_cV1 eX9_count_101 lk_X9_331 mV_X5_inState (sh_day (Or.inl rfl)) ⟨_, rfl, rfl⟩ mt_X5_inState rfl rfl rfl rfl rfl (c_X5_inState hR (Or.inl rfl) hD wC wD hN (by omega) ?_)
      dsimp only [Option.toList, List.cons_append, List.nil_append]
      refine a_iret eX9_count_104 rfl rfl ⟨Nat.zero_le _, Nat.zero_le _⟩ ?_
      first | (refine aw_ret hk ?_; unfold sp_count; (repeat (first | rw [if_pos (by omega)] | rw [if_neg (by omega)])); done) | (refine aw_ret hk ?_; unfold sp_count; (repeat (first | rw [if_pos (by omega)] | rw [if_neg (by omega)])); omega)
    · refine a_table 104 105 eX9_count_1 (by omega) (by omega) (by omega) rfl (by decide) ?_
      refine a_ald0 eX9_count_105 ?_
      refine a_getR 2 21 eX9_count_106 fl_X9_26 rfl rfl sh_0 ((congrFun (congrFun hR _) _).trans rf_0_2) ?_
      refine a_iconst eX9_count_109 ?_
      refine a_cV1 eX9_count_110 lk_X9_331 mV_X5_inState (sh_day (Or.inl rfl)) ⟨_, rfl, rfl⟩ mt_X5_inState rfl rfl rfl rfl rfl (c_X5_inState hR (Or.inl rfl) hD wC wD hN (by omega) ?_)
      dsimp only [Option.toList, List.cons_append, List.nil_append]
      refine a_iret eX9_count_113 rfl rfl ⟨Nat.zero_le _, Nat.zero_le _⟩ ?_
      first | (refine aw_ret hk ?_; unfold sp_count; (repeat (first | rw [if_pos (by omega)] | rw [if_neg (by omega)])); done) | (refine aw_ret hk ?_; unfold sp_count; (repeat (first | rw [if_pos (by omega)] | rw [if_neg (by omega)])); omega)
  · refine a_tableOut 114 eX9_count_1 (by omega) (by omega) (by decide) ?_
    refine a_iconst eX9_count_114 ?_
    refine a_iret eX9_count_115 rfl rfl ⟨Nat.zero_le _, Nat.zero_le _⟩ ?_
    first | (refine aw_ret hk ?_; unfold sp_count; (repeat (first | rw [if_pos (by omega)] | rw [if_neg (by omega)])); done) | (refine aw_ret hk ?_; unfold sp_count; (repeat (first | rw [if_pos (by omega)] | rw [if_neg (by omega)])); omega)

set_option maxHeartbeats 4000000 in
set_option maxRecDepth 100000 in
theorem lp_count {l : Launch} {σ : aw_S} {Post : Option Value → aw_S → Prop} {tw cs : Bool} (hR : σ.2.2 = RF tw cs) {m : mS} (hM : cityM σ m) (wC : wfCity m) {N : Int} (hM2 : dayM σ m) (wD : wfDay m 0 N) (hN : 0 ≤ N ∧ N ≤ 1000) {w : Int} (hw : w = 6 ∨ w = 7) (hk : Post (some (.int (jI (cnt m 0 (if w = 6 then 2 else 0) (m 0 4).toNat)))) σ)  : ∀ (n : Nat) (k : Int), ((m 0 4 - k).toNat ≤ n) → (0 ≤ k ∧ k ≤ m 0 4) → AW l yX10_count cX10_count 4 (some .int) 1 22 0 0 SH Post SH 0 0 (σ) 80 [some (.ref 171), some (.int (jI w)), some (.int (jI (cnt m 0 (if w = 6 then 2 else 0) k.toNat))), some (.int (jI k))] [] := by
  intro n
  induction n with
  | zero =>
    intro k hm hkk
    obtain ⟨c1, c2, c3, c4, c5, c6, c7⟩ := id hM
    obtain ⟨w1, w2, w3, w4, w5, w6, w7, w8⟩ := id wC
    obtain ⟨d1, d2, d3, d4, d5, d6, d7⟩ := id hM2
    obtain ⟨v1, v2, v3, v4, v5, v6, v7, v8⟩ := id wD
    simp only [Int.zero_add] at d4 d5 d6 d7 v4 v5 v6 v7 v8
    refine a_ild3 eX10_count_80 ?_
    refine a_ald0 eX10_count_81 ?_
    refine a_getI 22 eX10_count_82 fl_X10_246 rfl rfl sh_171 ?_
    refine a_icmp_ge 122 eX10_count_85 (by decide) (by omega) (fun hT85 => ?_) (fun hF85 => ?_)
    · skip
      refine a_ild2 eX10_count_122 ?_
      refine a_iret eX10_count_123 rfl rfl ⟨Nat.zero_le _, Nat.zero_le _⟩ ?_
      have e : k = m 0 4 := by omega
      rw [e]
      exact hk
    · skip
      exfalso; omega
  | succ n ih =>
    intro k hm hkk
    obtain ⟨c1, c2, c3, c4, c5, c6, c7⟩ := id hM
    obtain ⟨w1, w2, w3, w4, w5, w6, w7, w8⟩ := id wC
    obtain ⟨d1, d2, d3, d4, d5, d6, d7⟩ := id hM2
    obtain ⟨v1, v2, v3, v4, v5, v6, v7, v8⟩ := id wD
    simp only [Int.zero_add] at d4 d5 d6 d7 v4 v5 v6 v7 v8
    refine a_ild3 eX10_count_80 ?_
    refine a_ald0 eX10_count_81 ?_
    refine a_getI 22 eX10_count_82 fl_X10_246 rfl rfl sh_171 ?_
    refine a_icmp_ge 122 eX10_count_85 (by decide) (by omega) (fun hT85 => ?_) (fun hF85 => ?_)
    · skip
      refine a_ild2 eX10_count_122 ?_
      refine a_iret eX10_count_123 rfl rfl ⟨Nat.zero_le _, Nat.zero_le _⟩ ?_
      have e : k = m 0 4 := by omega
      rw [e]
      exact hk
    · skip
      have e1 := (d5 k (by omega) (by omega)).1
      have w1 := (v5 k (by omega) (by omega)).2.1
      refine a_ild2 eX10_count_88 ?_
      refine a_ald0 eX10_count_89 ?_
      refine a_ild3 eX10_count_90 ?_
      refine a_iconst eX10_count_91 ?_
      refine a_cV2 eX10_count_92 lk_X10_276 mV_X10_of0 sh_171 ⟨_, rfl, rfl⟩ mt_X10_of0 rfl rfl rfl rfl rfl rfl (c_X10_of0 hR (by omega) ?_)
      dsimp only [Option.toList, List.cons_append, List.nil_append]
      rw [Int.add_zero, e1]
      refine a_ild1 eX10_count_95 ?_
      refine a_bipush eX10_count_96 (by decide) ?_
      refine a_icmp_ne 105 eX10_count_98 (by decide) (by omega) (fun hT98 => ?_) (fun hF98 => ?_)
      · skip
        refine a_iconst eX10_count_105 ?_
        refine a_icmp_ne 113 eX10_count_106 (by decide) (by omega) (fun hT106 => ?_) (fun hF106 => ?_)
        · skip
          refine a_iconst eX10_count_113 ?_
          refine a_iadd eX10_count_114 ?_
          refine a_ist2 eX10_count_115 (by decide) aw_n2i ?_
          refine a_iinc3 eX10_count_116 (by decide) aw_n2i ?_
          refine a_goto 80 eX10_count_119 (by decide) ?_
          have q := ih (k + 1) (by omega) (by omega)
          first
            | (rw [cnt_1 hkk.1 (by simp only [Int.zero_add]; split <;> omega)] at q; exact q)
            | (rw [cnt_0 hkk.1 (by simp only [Int.zero_add]; split <;> omega)] at q; rw [Int.add_zero]; exact q)
        · skip
          refine a_iconst eX10_count_109 ?_
          refine a_goto 114 eX10_count_110 (by decide) ?_
          refine a_iadd eX10_count_114 ?_
          refine a_ist2 eX10_count_115 (by decide) aw_n2i ?_
          refine a_iinc3 eX10_count_116 (by decide) aw_n2i ?_
          refine a_goto 80 eX10_count_119 (by decide) ?_
          have q := ih (k + 1) (by omega) (by omega)
          first
            | (rw [cnt_1 hkk.1 (by simp only [Int.zero_add]; split <;> omega)] at q; exact q)
            | (rw [cnt_0 hkk.1 (by simp only [Int.zero_add]; split <;> omega)] at q; rw [Int.add_zero]; exact q)
      · skip
        refine a_iconst eX10_count_101 ?_
        refine a_goto 106 eX10_count_102 (by decide) ?_
        refine a_icmp_ne 113 eX10_count_106 (by decide) (by omega) (fun hT106 => ?_) (fun hF106 => ?_)
        · skip
          refine a_iconst eX10_count_113 ?_
          refine a_iadd eX10_count_114 ?_
          refine a_ist2 eX10_count_115 (by decide) aw_n2i ?_
          refine a_iinc3 eX10_count_116 (by decide) aw_n2i ?_
          refine a_goto 80 eX10_count_119 (by decide) ?_
          have q := ih (k + 1) (by omega) (by omega)
          first
            | (rw [cnt_1 hkk.1 (by simp only [Int.zero_add]; split <;> omega)] at q; exact q)
            | (rw [cnt_0 hkk.1 (by simp only [Int.zero_add]; split <;> omega)] at q; rw [Int.add_zero]; exact q)
        · skip
          refine a_iconst eX10_count_109 ?_
          refine a_goto 114 eX10_count_110 (by decide) ?_
          refine a_iadd eX10_count_114 ?_
          refine a_ist2 eX10_count_115 (by decide) aw_n2i ?_
          refine a_iinc3 eX10_count_116 (by decide) aw_n2i ?_
          refine a_goto 80 eX10_count_119 (by decide) ?_
          have q := ih (k + 1) (by omega) (by omega)
          first
            | (rw [cnt_1 hkk.1 (by simp only [Int.zero_add]; split <;> omega)] at q; exact q)
            | (rw [cnt_0 hkk.1 (by simp only [Int.zero_add]; split <;> omega)] at q; rw [Int.add_zero]; exact q)

set_option maxHeartbeats 4000000 in
set_option maxRecDepth 100000 in
theorem c_X10_count {l : Launch} {σ : aw_S} {Post : Option Value → aw_S → Prop} {tw cs : Bool} (hR : σ.2.2 = RF tw cs) {m : mS} (hM : cityM σ m) (wC : wfCity m) {N : Int} (hM2 : dayM σ m) (wD : wfDay m 0 N) (hN : 0 ≤ N ∧ N ≤ 1000) {w : Int} (hr : (-2147483648 ≤ w ∧ w ≤ 2147483647)) (hb : σ.1 171 30 = m 0 6) (ht : σ.1 171 1 = m 0 7) (hk : Post (some (.int (jI (sp_count m w)))) σ) : AE l yX10_count cX10_count 4 (some .int) 1 22 0 0 SH SH σ [.ref 171, .int (jI w)] Post := by
  show AW l yX10_count cX10_count 4 (some .int) 1 22 0 0 SH Post SH 0 0 σ 0 [some (.ref 171), some (.int (jI w)), none, none] []
  obtain ⟨c1, c2, c3, c4, c5, c6, c7⟩ := id hM
  obtain ⟨w1, w2, w3, w4, w5, w6, w7, w8⟩ := id wC
  obtain ⟨d1, d2, d3, d4, d5, d6, d7⟩ := id hM2
  obtain ⟨v1, v2, v3, v4, v5, v6, v7, v8⟩ := id wD
  simp only [Int.zero_add] at d4 d5 d6 d7 v4 v5 v6 v7 v8
  refine a_iconst eX10_count_0 ?_
  refine a_ist2 eX10_count_1 (by decide) aw_n2i ?_
  refine a_ild1 eX10_count_2 ?_
  by_cases hsw : 0 ≤ w ∧ w ≤ 7
  · have hsx : w = 0 ∨ w = 1 ∨ w = 2 ∨ w = 3 ∨ w = 4 ∨ w = 5 ∨ w = 6 ∨ w = 7 := by omega
    rcases hsx with rfl | rfl | rfl | rfl | rfl | rfl | rfl | rfl
    · refine a_table 45 48 eX10_count_3 (by omega) (by omega) (by omega) rfl (by decide) ?_
      refine a_ald0 eX10_count_48 ?_
      refine a_getI 14 eX10_count_49 fl_X10_235 rfl rfl sh_171 ?_
      refine a_iret eX10_count_52 rfl rfl ⟨Nat.zero_le _, Nat.zero_le _⟩ ?_
      first | (refine aw_ret hk ?_; unfold sp_count; (repeat (first | rw [if_pos (by omega)] | rw [if_neg (by omega)])); done) | (refine aw_ret hk ?_; unfold sp_count; (repeat (first | rw [if_pos (by omega)] | rw [if_neg (by omega)])); omega)
    · refine a_table 50 53 eX10_count_3 (by omega) (by omega) (by omega) rfl (by decide) ?_
      refine a_ald0 eX10_count_53 ?_
      refine a_getI 16 eX10_count_54 fl_X10_238 rfl rfl sh_171 ?_
      refine a_iret eX10_count_57 rfl rfl ⟨Nat.zero_le _, Nat.zero_le _⟩ ?_
      first | (refine aw_ret hk ?_; unfold sp_count; (repeat (first | rw [if_pos (by omega)] | rw [if_neg (by omega)])); done) | (refine aw_ret hk ?_; unfold sp_count; (repeat (first | rw [if_pos (by omega)] | rw [if_neg (by omega)])); omega)
    · refine a_table 55 58 eX10_count_3 (by omega) (by omega) (by omega) rfl (by decide) ?_
      refine a_ald0 eX10_count_58 ?_
      refine a_getI 22 eX10_count_59 fl_X10_246 rfl rfl sh_171 ?_
      refine a_iret eX10_count_62 rfl rfl ⟨Nat.zero_le _, Nat.zero_le _⟩ ?_
      first | (refine aw_ret hk ?_; unfold sp_count; (repeat (first | rw [if_pos (by omega)] | rw [if_neg (by omega)])); done) | (refine aw_ret hk ?_; unfold sp_count; (repeat (first | rw [if_pos (by omega)] | rw [if_neg (by omega)])); omega)
    · refine a_table 60 63 eX10_count_3 (by omega) (by omega) (by omega) rfl (by decide) ?_
      refine a_ald0 eX10_count_63 ?_
      refine a_getI 21 eX10_count_64 fl_X10_243 rfl rfl sh_171 ?_
      refine a_iret eX10_count_67 rfl rfl ⟨Nat.zero_le _, Nat.zero_le _⟩ ?_
      first | (refine aw_ret hk ?_; unfold sp_count; (repeat (first | rw [if_pos (by omega)] | rw [if_neg (by omega)])); done) | (refine aw_ret hk ?_; unfold sp_count; (repeat (first | rw [if_pos (by omega)] | rw [if_neg (by omega)])); omega)
    · refine a_table 65 68 eX10_count_3 (by omega) (by omega) (by omega) rfl (by decide) ?_
      refine a_ald0 eX10_count_68 ?_
      refine a_getI 30 eX10_count_69 fl_X10_252 rfl rfl sh_171 ?_
      refine a_iret eX10_count_72 rfl rfl ⟨Nat.zero_le _, Nat.zero_le _⟩ ?_
      first | (refine aw_ret hk ?_; unfold sp_count; (repeat (first | rw [if_pos (by omega)] | rw [if_neg (by omega)])); done) | (refine aw_ret hk ?_; unfold sp_count; (repeat (first | rw [if_pos (by omega)] | rw [if_neg (by omega)])); omega)
    · refine a_table 70 73 eX10_count_3 (by omega) (by omega) (by omega) rfl (by decide) ?_
      refine a_ald0 eX10_count_73 ?_
      refine a_getI 1 eX10_count_74 fl_X10_124 rfl rfl sh_171 ?_
      refine a_iret eX10_count_77 rfl rfl ⟨Nat.zero_le _, Nat.zero_le _⟩ ?_
      first | (refine aw_ret hk ?_; unfold sp_count; (repeat (first | rw [if_pos (by omega)] | rw [if_neg (by omega)])); done) | (refine aw_ret hk ?_; unfold sp_count; (repeat (first | rw [if_pos (by omega)] | rw [if_neg (by omega)])); omega)
    · refine a_table 75 78 eX10_count_3 (by omega) (by omega) (by omega) rfl (by decide) ?_
      refine a_iconst eX10_count_78 ?_
      refine a_ist3 eX10_count_79 (by decide) aw_n2i ?_
      first
        | exact lp_count hR hM wC hM2 wD hN (w := 6) (Or.inl rfl) hk _ 0 (Nat.le_refl _) (by omega)
        | exact lp_count hR hM wC hM2 wD hN (w := 7) (Or.inr rfl) hk _ 0 (Nat.le_refl _) (by omega)
    · refine a_table 75 78 eX10_count_3 (by omega) (by omega) (by omega) rfl (by decide) ?_
      refine a_iconst eX10_count_78 ?_
      refine a_ist3 eX10_count_79 (by decide) aw_n2i ?_
      first
        | exact lp_count hR hM wC hM2 wD hN (w := 6) (Or.inl rfl) hk _ 0 (Nat.le_refl _) (by omega)
        | exact lp_count hR hM wC hM2 wD hN (w := 7) (Or.inr rfl) hk _ 0 (Nat.le_refl _) (by omega)
  · refine a_tableOut 124 eX10_count_3 (by omega) (by omega) (by decide) ?_
    refine a_iconst eX10_count_124 ?_
    refine a_iret eX10_count_125 rfl rfl ⟨Nat.zero_le _, Nat.zero_le _⟩ ?_
    first | (refine aw_ret hk ?_; unfold sp_count; (repeat (first | rw [if_pos (by omega)] | rw [if_neg (by omega)])); done) | (refine aw_ret hk ?_; unfold sp_count; (repeat (first | rw [if_pos (by omega)] | rw [if_neg (by omega)])); omega)
