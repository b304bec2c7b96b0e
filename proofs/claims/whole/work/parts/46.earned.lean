/-- the gains of the first n CABS, gathered -/
def eF (f : Int → Int → Int) (m : mS) (z : Int) : Nat → Int
  | 0 => z
  | n + 1 => f (eF f m z n) (m (100 + (n : Int)) 7)
def e_mx (x y : Int) : Int := if x < y then y else x
def e_mn (x y : Int) : Int := if y < x then y else x
theorem eF_s {f : Int → Int → Int} {m : mS} {z k : Int} (h : 0 ≤ k) : eF f m z (k + 1).toNat = f (eF f m z k.toNat) (m (100 + k) 7) := by
  have e : (k + 1).toNat = k.toNat + 1 := by omega
  have e2 : ((k.toNat : Nat) : Int) = k := Int.toNat_of_nonneg h
  rw [e, eF, e2]
theorem eF_b {f : Int → Int → Int} (hf : ∀ x y, f x y = x ∨ f x y = y) {m : mS} {z B : Int} (hz : 0 ≤ z ∧ z ≤ B) : ∀ n : Nat, (∀ c : Int, 0 ≤ c → c < (n : Int) → 0 ≤ m (100 + c) 7 ∧ m (100 + c) 7 ≤ B) → 0 ≤ eF f m z n ∧ eF f m z n ≤ B
  | 0, _ => hz
  | n + 1, h => by
    have h1 := eF_b hf (m := m) hz n (fun c h0 h1 => h c h0 (by omega))
    have h2 := h (n : Int) (by omega) (by omega)
    rw [eF]
    rcases hf (eF f m z n) (m (100 + (n : Int)) 7) with e | e <;> rw [e] <;> assumption
theorem e_mx_or (x y : Int) : e_mx x y = x ∨ e_mx x y = y := by unfold e_mx; split <;> simp
theorem e_mn_or (x y : Int) : e_mn x y = x ∨ e_mn x y = y := by unfold e_mn; split <;> simp
def sp_earned (m : mS) (w : Int) : Int := if m 0 4 = 0 ∨ ¬ (0 ≤ w ∧ w ≤ 2) then -1 else if w = 2 then eF (· + ·) m 0 (m 0 4).toNat else if w = 0 then eF e_mx m (m 100 7) (m 0 4).toNat else eF e_mn m (m 100 7) (m 0 4).toNat
set_option maxHeartbeats 4000000 in
set_option maxRecDepth 100000 in
theorem lp_earned {l : Launch} {σ : aw_S} {Post : Option Value → aw_S → Prop} {tw cs : Bool} (hR : σ.2.2 = RF tw cs) {t : Nat} (hct : isCity t) (hrt : RF tw cs 0 1 = some t) {m : mS} (hC : cityC σ t m) (wC : wfCity m) {N : Int} (hD : dayC σ 21 0 m) (wD : wfDay m 0 N) (hN : 0 ≤ N ∧ N ≤ 1000) {w : Int} (hr : (-2147483648 ≤ w ∧ w ≤ 2147483647)) (hn : 0 < m 0 4) (hw : 0 ≤ w ∧ w ≤ 2) (hk : Post (some (.int (jI (sp_earned m w)))) σ)  : ∀ (n : Nat) (k : Int) (g : Int) (x6 : Option Value), ((m 0 4 - k).toNat ≤ n) → (0 ≤ k ∧ k ≤ m 0 4) → AW l yX9_earned cX9_earned 7 (some .int) 1 22 0 0 SH Post SH 0 0 (σ) 42 [some (.ref 0), some (.int (jI w)), some (.int (jI (eF e_mx m (m 100 7) k.toNat))), some (.int (jI (eF e_mn m (m 100 7) k.toNat))), some (.int (jI (eF (· + ·) m 0 k.toNat))), some (.int (jI k)), x6] [] := by
  intro n
  induction n with
  | zero =>
    intro k g x6 hm hkk
    obtain ⟨c1, c2, c3, c4, c5, c6, c7, c8⟩ := id hC
    obtain ⟨w1, w2, w3, w4, w5, w6, w7, w8⟩ := id wC
    obtain ⟨d1, d2, d3, d4, d5, d6, d7⟩ := id hD
    obtain ⟨v1, v2, v3, v4, v5, v6, v7, v8⟩ := id wD
    simp only [Int.zero_add] at d4 d5 d6 d7 v4 v5 v6 v7 v8
    have g0 : ∀ c : Int, 0 ≤ c → c < m 0 4 → 0 ≤ m (100 + c) 7 ∧ m (100 + c) 7 ≤ 300000 * N := fun c h0 h1 => by
      have h := v5 c h0 h1
      unfold wfCab at h
      omega
    have gz : 0 ≤ m 100 7 ∧ m 100 7 ≤ 300000 * N := g0 0 (by omega) (by omega)
    have gx := eF_b e_mx_or (m := m) gz k.toNat (fun c h0 h1 => g0 c h0 (by omega))
    have gn := eF_b e_mn_or (m := m) gz k.toNat (fun c h0 h1 => g0 c h0 (by omega))
    refine a_ild5 eX9_earned_42 ?_
    refine a_ald0 eX9_earned_44 ?_
    refine a_getR 2 21 eX9_earned_45 fl_X9_26 rfl rfl sh_0 ((congrFun (congrFun hR _) _).trans rf_0_2) ?_
    refine a_getI 1 eX9_earned_48 fl_X9_282 rfl rfl (sh_day (Or.inl rfl)) ?_
    refine a_icmp_ge 96 eX9_earned_51 (by decide) (by omega) (fun hT51 => ?_) (fun hF51 => ?_)
    · skip
      refine a_ild1 eX9_earned_96 ?_
      refine a_iconst eX9_earned_97 ?_
      refine a_icmp_ne 104 eX9_earned_98 (by decide) (by omega) (fun hT98 => ?_) (fun hF98 => ?_)
      · skip
        refine a_ild1 eX9_earned_104 ?_
        refine a_if_ne 112 eX9_earned_105 (by decide) (by omega) (fun hT105 => ?_) (fun hF105 => ?_)
        · skip
          refine a_ild3 eX9_earned_112 ?_
          refine a_iret eX9_earned_113 rfl rfl ⟨Nat.zero_le _, Nat.zero_le _⟩ ?_
          have e : k = m 0 4 := by omega
          rw [e]
          refine aw_ret hk ?_; unfold sp_earned; (repeat (first | rw [if_pos (by omega)] | rw [if_neg (by omega)])); done
        · skip
          refine a_ild2 eX9_earned_108 ?_
          refine a_goto 113 eX9_earned_109 (by decide) ?_
          refine a_iret eX9_earned_113 rfl rfl ⟨Nat.zero_le _, Nat.zero_le _⟩ ?_
          have e : k = m 0 4 := by omega
          rw [e]
          refine aw_ret hk ?_; unfold sp_earned; (repeat (first | rw [if_pos (by omega)] | rw [if_neg (by omega)])); done
      · skip
        refine a_ild4 eX9_earned_101 ?_
        refine a_iret eX9_earned_103 rfl rfl ⟨Nat.zero_le _, Nat.zero_le _⟩ ?_
        have e : k = m 0 4 := by omega
        rw [e]
        refine aw_ret hk ?_; unfold sp_earned; (repeat (first | rw [if_pos (by omega)] | rw [if_neg (by omega)])); done
    · skip
      exfalso; omega
  | succ n ih =>
    intro k g x6 hm hkk
    obtain ⟨c1, c2, c3, c4, c5, c6, c7, c8⟩ := id hC
    obtain ⟨w1, w2, w3, w4, w5, w6, w7, w8⟩ := id wC
    obtain ⟨d1, d2, d3, d4, d5, d6, d7⟩ := id hD
    obtain ⟨v1, v2, v3, v4, v5, v6, v7, v8⟩ := id wD
    simp only [Int.zero_add] at d4 d5 d6 d7 v4 v5 v6 v7 v8
    have g0 : ∀ c : Int, 0 ≤ c → c < m 0 4 → 0 ≤ m (100 + c) 7 ∧ m (100 + c) 7 ≤ 300000 * N := fun c h0 h1 => by
      have h := v5 c h0 h1
      unfold wfCab at h
      omega
    have gz : 0 ≤ m 100 7 ∧ m 100 7 ≤ 300000 * N := g0 0 (by omega) (by omega)
    have gx := eF_b e_mx_or (m := m) gz k.toNat (fun c h0 h1 => g0 c h0 (by omega))
    have gn := eF_b e_mn_or (m := m) gz k.toNat (fun c h0 h1 => g0 c h0 (by omega))
    refine a_ild5 eX9_earned_42 ?_
    refine a_ald0 eX9_earned_44 ?_
    refine a_getR 2 21 eX9_earned_45 fl_X9_26 rfl rfl sh_0 ((congrFun (congrFun hR _) _).trans rf_0_2) ?_
    refine a_getI 1 eX9_earned_48 fl_X9_282 rfl rfl (sh_day (Or.inl rfl)) ?_
    refine a_icmp_ge 96 eX9_earned_51 (by decide) (by omega) (fun hT51 => ?_) (fun hF51 => ?_)
    · skip
      refine a_ild1 eX9_earned_96 ?_
      refine a_iconst eX9_earned_97 ?_
      refine a_icmp_ne 104 eX9_earned_98 (by decide) (by omega) (fun hT98 => ?_) (fun hF98 => ?_)
      · skip
        refine a_ild1 eX9_earned_104 ?_
        refine a_if_ne 112 eX9_earned_105 (by decide) (by omega) (fun hT105 => ?_) (fun hF105 => ?_)
        · skip
          refine a_ild3 eX9_earned_112 ?_
          refine a_iret eX9_earned_113 rfl rfl ⟨Nat.zero_le _, Nat.zero_le _⟩ ?_
          have e : k = m 0 4 := by omega
          rw [e]
          refine aw_ret hk ?_; unfold sp_earned; (repeat (first | rw [if_pos (by omega)] | rw [if_neg (by omega)])); done
        · skip
          refine a_ild2 eX9_earned_108 ?_
          refine a_goto 113 eX9_earned_109 (by decide) ?_
          refine a_iret eX9_earned_113 rfl rfl ⟨Nat.zero_le _, Nat.zero_le _⟩ ?_
          have e : k = m 0 4 := by omega
          rw [e]
          refine aw_ret hk ?_; unfold sp_earned; (repeat (first | rw [if_pos (by omega)] | rw [if_neg (by omega)])); done
      · skip
        refine a_ild4 eX9_earned_101 ?_
        refine a_iret eX9_earned_103 rfl rfl ⟨Nat.zero_le _, Nat.zero_le _⟩ ?_
        have e : k = m 0 4 := by omega
        rw [e]
        refine aw_ret hk ?_; unfold sp_earned; (repeat (first | rw [if_pos (by omega)] | rw [if_neg (by omega)])); done
    · skip
      have e7 := d5 k 7 (by omega) (by omega) (by omega) (by omega)
      have gk := g0 k (by omega) (by omega)
      refine a_ald0 eX9_earned_54 ?_
      refine a_getR 2 21 eX9_earned_55 fl_X9_26 rfl rfl sh_0 ((congrFun (congrFun hR _) _).trans rf_0_2) ?_
      refine a_getR 2 (21 + 1) eX9_earned_58 fl_X9_142 rfl rfl (sh_day (Or.inl rfl)) ((congrFun (congrFun hR _) _).trans (rf_day_2 (Or.inl rfl))) ?_
      refine a_ild5 eX9_earned_61 ?_
      refine a_aald _ eX9_earned_63 (sh_day_1 (Or.inl rfl)) rfl rfl rfl (by omega) ((congrFun (congrFun hR _) _).trans (rf_cab (Or.inl rfl) (by omega))) ?_
      refine a_getI 7 eX9_earned_64 fl_X9_170 rfl rfl (sh_cab (Or.inl rfl) (by omega)) ?_
      refine a_ist6 eX9_earned_67 (by decide) aw_n2i ?_
      refine a_ild2 eX9_earned_69 ?_
      refine a_ild6 eX9_earned_70 ?_
      refine a_mmax eX9_earned_72 lk_X9_321 (by omega) rfl rfl ?_
      refine a_ist2 eX9_earned_75 (by decide) aw_n2i ?_
      refine a_ild3 eX9_earned_76 ?_
      refine a_ild6 eX9_earned_77 ?_
      refine a_mmin eX9_earned_79 lk_X9_324 (by omega) rfl rfl ?_
      refine a_ist3 eX9_earned_82 (by decide) aw_n2i ?_
      refine a_ild4 eX9_earned_83 ?_
      refine a_ild6 eX9_earned_85 ?_
      refine a_iadd eX9_earned_87 ?_
      refine a_ist4 eX9_earned_88 (by decide) aw_n2i ?_
      refine a_iinc5 eX9_earned_90 (by decide) aw_n2i ?_
      refine a_goto 42 eX9_earned_93 (by decide) ?_
      have q := ih (k + 1) 0 (some (.int (jI (m (100 + k) 7)))) (by omega) (by omega)
      rw [eF_s hkk.1, eF_s hkk.1, eF_s hkk.1] at q
      rw [e7]
      exact q

set_option maxHeartbeats 4000000 in
set_option maxRecDepth 100000 in
theorem c_X9_earned {l : Launch} {σ : aw_S} {Post : Option Value → aw_S → Prop} {tw cs : Bool} (hR : σ.2.2 = RF tw cs) {t : Nat} (hct : isCity t) (hrt : RF tw cs 0 1 = some t) {m : mS} (hC : cityC σ t m) (wC : wfCity m) {N : Int} (hD : dayC σ 21 0 m) (wD : wfDay m 0 N) (hN : 0 ≤ N ∧ N ≤ 1000) {w : Int} (hr : (-2147483648 ≤ w ∧ w ≤ 2147483647)) (hk : Post (some (.int (jI (sp_earned m w)))) σ) : AE l yX9_earned cX9_earned 7 (some .int) 1 22 0 0 SH SH σ [.ref 0, .int (jI w)] Post := by
  show AW l yX9_earned cX9_earned 7 (some .int) 1 22 0 0 SH Post SH 0 0 σ 0 [some (.ref 0), some (.int (jI w)), none, none, none, none, none] []
  obtain ⟨c1, c2, c3, c4, c5, c6, c7, c8⟩ := id hC
  obtain ⟨w1, w2, w3, w4, w5, w6, w7, w8⟩ := id wC
  obtain ⟨d1, d2, d3, d4, d5, d6, d7⟩ := id hD
  obtain ⟨v1, v2, v3, v4, v5, v6, v7, v8⟩ := id wD
  simp only [Int.zero_add] at d4 d5 d6 d7 v4 v5 v6 v7 v8
  refine a_ald0 eX9_earned_0 ?_
  refine a_getR 2 21 eX9_earned_1 fl_X9_26 rfl rfl sh_0 ((congrFun (congrFun hR _) _).trans rf_0_2) ?_
  refine a_getI 1 eX9_earned_4 fl_X9_282 rfl rfl (sh_day (Or.inl rfl)) ?_
  refine a_if_eq 19 eX9_earned_7 (by decide) (by omega) (fun hT7 => ?_) (fun hF7 => ?_)
  · skip
    refine a_iconst eX9_earned_19 ?_
    refine a_iret eX9_earned_20 rfl rfl ⟨Nat.zero_le _, Nat.zero_le _⟩ ?_
    refine aw_ret hk ?_; unfold sp_earned; (repeat (first | rw [if_pos (by omega)] | rw [if_neg (by omega)])); done
  · skip
    refine a_ild1 eX9_earned_10 ?_
    refine a_iconst eX9_earned_11 ?_
    refine a_iconst eX9_earned_12 ?_
    refine a_cS3 eX9_earned_13 lk_X9_81 mS_X9_within mt_X9_within rfl rfl rfl rfl rfl rfl rfl (c_X9_within (by omega) (fun hT13 => ?_) (fun hF13 => ?_))
    · skip
      dsimp only [Option.toList, List.cons_append, List.nil_append]
      refine a_if_ne 21 eX9_earned_16 (by decide) (by omega) (fun _ => ?_) (fun h => absurd h (by decide))
      refine a_ald0 eX9_earned_21 ?_
      refine a_getR 2 21 eX9_earned_22 fl_X9_26 rfl rfl sh_0 ((congrFun (congrFun hR _) _).trans rf_0_2) ?_
      refine a_getR 2 (21 + 1) eX9_earned_25 fl_X9_142 rfl rfl (sh_day (Or.inl rfl)) ((congrFun (congrFun hR _) _).trans (rf_day_2 (Or.inl rfl))) ?_
      refine a_iconst eX9_earned_28 ?_
      refine a_aald _ eX9_earned_29 (sh_day_1 (Or.inl rfl)) rfl rfl rfl (by omega) ((congrFun (congrFun hR _) _).trans (rf_cab (Or.inl rfl) (by omega))) ?_
      refine a_getI 7 eX9_earned_30 fl_X9_170 rfl rfl (sh_cab (Or.inl rfl) (by omega)) ?_
      refine a_ist2 eX9_earned_33 (by decide) aw_n2i ?_
      have e0 : σ.1 (21 + 12 + (0 : Int).toNat) 7 = m 100 7 := d5 0 7 (by omega) (by omega) (by omega) (by omega)
      rw [e0]
      refine a_ild2 eX9_earned_34 ?_
      refine a_ist3 eX9_earned_35 (by decide) aw_n2i ?_
      refine a_iconst eX9_earned_36 ?_
      refine a_ist4 eX9_earned_37 (by decide) aw_n2i ?_
      refine a_iconst eX9_earned_39 ?_
      refine a_ist5 eX9_earned_40 (by decide) aw_n2i ?_
      exact lp_earned hR hct hrt hC wC hD wD hN hr (by omega) (by omega) hk _ 0 0 none (Nat.le_refl _) (by omega)
    · skip
      dsimp only [Option.toList, List.cons_append, List.nil_append]
      refine a_if_ne 21 eX9_earned_16 (by decide) (by omega) (fun h => absurd h (by decide)) (fun _ => ?_)
      refine a_iconst eX9_earned_19 ?_
      refine a_iret eX9_earned_20 rfl rfl ⟨Nat.zero_le _, Nat.zero_le _⟩ ?_
      refine aw_ret hk ?_; unfold sp_earned; (repeat (first | rw [if_pos (by omega)] | rw [if_neg (by omega)])); done

set_option maxHeartbeats 4000000 in
set_option maxRecDepth 100000 in
theorem lp_earnedM_s {l : Launch} {σ : aw_S} {Post : Option Value → aw_S → Prop} {tw cs : Bool} (hR : σ.2.2 = RF tw cs) {m : mS} (hM : cityM σ m) (wC : wfCity m) {N : Int} (hM2 : dayM σ m) (wD : wfDay m 0 N) (hN : 0 ≤ N ∧ N ≤ 1000) (hn : 0 < m 0 4) (hk : Post (some (.int (jI (eF (· + ·) m 0 (m 0 4).toNat)))) σ)  : ∀ (n : Nat) (k : Int) (x4 : Option Value), ((m 0 4 - k).toNat ≤ n) → (0 ≤ k ∧ k ≤ m 0 4) → AW l yX10_earned cX10_earned 5 (some .int) 1 22 0 0 SH Post SH 0 0 (σ) 37 [some (.ref 171), some (.int (jI 2)), some (.int (jI (eF (· + ·) m 0 k.toNat))), some (.int (jI k)), x4] [] := by
  intro n
  induction n with
  | zero =>
    intro k x4 hm hkk
    obtain ⟨c1, c2, c3, c4, c5, c6, c7⟩ := id hM
    obtain ⟨w1, w2, w3, w4, w5, w6, w7, w8⟩ := id wC
    obtain ⟨d1, d2, d3, d4, d5, d6, d7⟩ := id hM2
    obtain ⟨v1, v2, v3, v4, v5, v6, v7, v8⟩ := id wD
    simp only [Int.zero_add] at d4 d5 d6 d7 v4 v5 v6 v7 v8
    have g0 : ∀ c : Int, 0 ≤ c → c < m 0 4 → 0 ≤ m (100 + c) 7 ∧ m (100 + c) 7 ≤ 300000 * N := fun c h0 h1 => by
      have h := v5 c h0 h1
      unfold wfCab at h
      omega
    have gz : 0 ≤ m 100 7 ∧ m 100 7 ≤ 300000 * N := g0 0 (by omega) (by omega)
    have gx := eF_b e_mx_or (m := m) gz k.toNat (fun c h0 h1 => g0 c h0 (by omega))
    have gn := eF_b e_mn_or (m := m) gz k.toNat (fun c h0 h1 => g0 c h0 (by omega))
    refine a_ild3 eX10_earned_37 ?_
    refine a_ald0 eX10_earned_38 ?_
    refine a_getI 22 eX10_earned_39 fl_X10_246 rfl rfl sh_171 ?_
    refine a_icmp_ge 92 eX10_earned_42 (by decide) (by omega) (fun hT42 => ?_) (fun hF42 => ?_)
    · skip
      refine a_ild2 eX10_earned_92 ?_
      refine a_iret eX10_earned_93 rfl rfl ⟨Nat.zero_le _, Nat.zero_le _⟩ ?_
      have e : k = m 0 4 := by omega
      rw [e]
      exact hk
    · skip
      exfalso; omega
  | succ n ih =>
    intro k x4 hm hkk
    obtain ⟨c1, c2, c3, c4, c5, c6, c7⟩ := id hM
    obtain ⟨w1, w2, w3, w4, w5, w6, w7, w8⟩ := id wC
    obtain ⟨d1, d2, d3, d4, d5, d6, d7⟩ := id hM2
    obtain ⟨v1, v2, v3, v4, v5, v6, v7, v8⟩ := id wD
    simp only [Int.zero_add] at d4 d5 d6 d7 v4 v5 v6 v7 v8
    have g0 : ∀ c : Int, 0 ≤ c → c < m 0 4 → 0 ≤ m (100 + c) 7 ∧ m (100 + c) 7 ≤ 300000 * N := fun c h0 h1 => by
      have h := v5 c h0 h1
      unfold wfCab at h
      omega
    have gz : 0 ≤ m 100 7 ∧ m 100 7 ≤ 300000 * N := g0 0 (by omega) (by omega)
    have gx := eF_b e_mx_or (m := m) gz k.toNat (fun c h0 h1 => g0 c h0 (by omega))
    have gn := eF_b e_mn_or (m := m) gz k.toNat (fun c h0 h1 => g0 c h0 (by omega))
    refine a_ild3 eX10_earned_37 ?_
    refine a_ald0 eX10_earned_38 ?_
    refine a_getI 22 eX10_earned_39 fl_X10_246 rfl rfl sh_171 ?_
    refine a_icmp_ge 92 eX10_earned_42 (by decide) (by omega) (fun hT42 => ?_) (fun hF42 => ?_)
    · skip
      refine a_ild2 eX10_earned_92 ?_
      refine a_iret eX10_earned_93 rfl rfl ⟨Nat.zero_le _, Nat.zero_le _⟩ ?_
      have e : k = m 0 4 := by omega
      rw [e]
      exact hk
    · skip
      have e7 := (d5 k (by omega) (by omega)).2.2.2.2.2.2.2.1
      have gk := g0 k (by omega) (by omega)
      refine a_ald0 eX10_earned_45 ?_
      refine a_ild3 eX10_earned_46 ?_
      refine a_bipush eX10_earned_47 (by decide) ?_
      refine a_cV2 eX10_earned_49 lk_X10_276 mV_X10_of0 sh_171 ⟨_, rfl, rfl⟩ mt_X10_of0 rfl rfl rfl rfl rfl rfl (c_X10_of0 hR (by omega) ?_)
      dsimp only [Option.toList, List.cons_append, List.nil_append]
      rw [e7]
      refine a_ist4 eX10_earned_52 (by decide) aw_n2i ?_
      refine a_ild1 eX10_earned_54 ?_
      refine a_iconst eX10_earned_55 ?_
      refine a_icmp_ne 66 eX10_earned_56 (by decide) (by omega) (fun h => absurd h (by decide)) (fun _ => ?_)
      refine a_ild2 eX10_earned_59 ?_
      refine a_ild4 eX10_earned_60 ?_
      refine a_iadd eX10_earned_62 ?_
      refine a_goto 85 eX10_earned_63 (by decide) ?_
      refine a_ist2 eX10_earned_85 (by decide) aw_n2i ?_
      refine a_iinc3 eX10_earned_86 (by decide) aw_n2i ?_
      refine a_goto 37 eX10_earned_89 (by decide) ?_
      have q := ih (k + 1) (some (.int (jI (m (100 + k) 7)))) (by omega) (by omega)
      rw [eF_s hkk.1] at q
      exact q

set_option maxHeartbeats 4000000 in
set_option maxRecDepth 100000 in
theorem lp_earnedM_x {l : Launch} {σ : aw_S} {Post : Option Value → aw_S → Prop} {tw cs : Bool} (hR : σ.2.2 = RF tw cs) {m : mS} (hM : cityM σ m) (wC : wfCity m) {N : Int} (hM2 : dayM σ m) (wD : wfDay m 0 N) (hN : 0 ≤ N ∧ N ≤ 1000) (hn : 0 < m 0 4) (hk : Post (some (.int (jI (eF e_mx m (m 100 7) (m 0 4).toNat)))) σ)  : ∀ (n : Nat) (k : Int) (x4 : Option Value), ((m 0 4 - k).toNat ≤ n) → (0 ≤ k ∧ k ≤ m 0 4) → AW l yX10_earned cX10_earned 5 (some .int) 1 22 0 0 SH Post SH 0 0 (σ) 37 [some (.ref 171), some (.int (jI 0)), some (.int (jI (eF e_mx m (m 100 7) k.toNat))), some (.int (jI k)), x4] [] := by
  intro n
  induction n with
  | zero =>
    intro k x4 hm hkk
    obtain ⟨c1, c2, c3, c4, c5, c6, c7⟩ := id hM
    obtain ⟨w1, w2, w3, w4, w5, w6, w7, w8⟩ := id wC
    obtain ⟨d1, d2, d3, d4, d5, d6, d7⟩ := id hM2
    obtain ⟨v1, v2, v3, v4, v5, v6, v7, v8⟩ := id wD
    simp only [Int.zero_add] at d4 d5 d6 d7 v4 v5 v6 v7 v8
    have g0 : ∀ c : Int, 0 ≤ c → c < m 0 4 → 0 ≤ m (100 + c) 7 ∧ m (100 + c) 7 ≤ 300000 * N := fun c h0 h1 => by
      have h := v5 c h0 h1
      unfold wfCab at h
      omega
    have gz : 0 ≤ m 100 7 ∧ m 100 7 ≤ 300000 * N := g0 0 (by omega) (by omega)
    have gx := eF_b e_mx_or (m := m) gz k.toNat (fun c h0 h1 => g0 c h0 (by omega))
    have gn := eF_b e_mn_or (m := m) gz k.toNat (fun c h0 h1 => g0 c h0 (by omega))
    refine a_ild3 eX10_earned_37 ?_
    refine a_ald0 eX10_earned_38 ?_
    refine a_getI 22 eX10_earned_39 fl_X10_246 rfl rfl sh_171 ?_
    refine a_icmp_ge 92 eX10_earned_42 (by decide) (by omega) (fun hT42 => ?_) (fun hF42 => ?_)
    · skip
      refine a_ild2 eX10_earned_92 ?_
      refine a_iret eX10_earned_93 rfl rfl ⟨Nat.zero_le _, Nat.zero_le _⟩ ?_
      have e : k = m 0 4 := by omega
      rw [e]
      exact hk
    · skip
      exfalso; omega
  | succ n ih =>
    intro k x4 hm hkk
    obtain ⟨c1, c2, c3, c4, c5, c6, c7⟩ := id hM
    obtain ⟨w1, w2, w3, w4, w5, w6, w7, w8⟩ := id wC
    obtain ⟨d1, d2, d3, d4, d5, d6, d7⟩ := id hM2
    obtain ⟨v1, v2, v3, v4, v5, v6, v7, v8⟩ := id wD
    simp only [Int.zero_add] at d4 d5 d6 d7 v4 v5 v6 v7 v8
    have g0 : ∀ c : Int, 0 ≤ c → c < m 0 4 → 0 ≤ m (100 + c) 7 ∧ m (100 + c) 7 ≤ 300000 * N := fun c h0 h1 => by
      have h := v5 c h0 h1
      unfold wfCab at h
      omega
    have gz : 0 ≤ m 100 7 ∧ m 100 7 ≤ 300000 * N := g0 0 (by omega) (by omega)
    have gx := eF_b e_mx_or (m := m) gz k.toNat (fun c h0 h1 => g0 c h0 (by omega))
    have gn := eF_b e_mn_or (m := m) gz k.toNat (fun c h0 h1 => g0 c h0 (by omega))
    refine a_ild3 eX10_earned_37 ?_
    refine a_ald0 eX10_earned_38 ?_
    refine a_getI 22 eX10_earned_39 fl_X10_246 rfl rfl sh_171 ?_
    refine a_icmp_ge 92 eX10_earned_42 (by decide) (by omega) (fun hT42 => ?_) (fun hF42 => ?_)
    · skip
      refine a_ild2 eX10_earned_92 ?_
      refine a_iret eX10_earned_93 rfl rfl ⟨Nat.zero_le _, Nat.zero_le _⟩ ?_
      have e : k = m 0 4 := by omega
      rw [e]
      exact hk
    · skip
      have e7 := (d5 k (by omega) (by omega)).2.2.2.2.2.2.2.1
      have gk := g0 k (by omega) (by omega)
      refine a_ald0 eX10_earned_45 ?_
      refine a_ild3 eX10_earned_46 ?_
      refine a_bipush eX10_earned_47 (by decide) ?_
      refine a_cV2 eX10_earned_49 lk_X10_276 mV_X10_of0 sh_171 ⟨_, rfl, rfl⟩ mt_X10_of0 rfl rfl rfl rfl rfl rfl (c_X10_of0 hR (by omega) ?_)
      dsimp only [Option.toList, List.cons_append, List.nil_append]
      rw [e7]
      refine a_ist4 eX10_earned_52 (by decide) aw_n2i ?_
      refine a_ild1 eX10_earned_54 ?_
      refine a_iconst eX10_earned_55 ?_
      refine a_icmp_ne 66 eX10_earned_56 (by decide) (by omega) (fun _ => ?_) (fun h => absurd h (by decide))
      refine a_ild1 eX10_earned_66 ?_
      refine a_if_ne 79 eX10_earned_67 (by decide) (by omega) (fun h => absurd h (by decide)) (fun _ => ?_)
      refine a_ild2 eX10_earned_70 ?_
      refine a_ild4 eX10_earned_71 ?_
      refine a_mmax eX10_earned_73 lk_X10_348 (by omega) rfl rfl ?_
      refine a_goto 85 eX10_earned_76 (by decide) ?_
      refine a_ist2 eX10_earned_85 (by decide) aw_n2i ?_
      refine a_iinc3 eX10_earned_86 (by decide) aw_n2i ?_
      refine a_goto 37 eX10_earned_89 (by decide) ?_
      have q := ih (k + 1) (some (.int (jI (m (100 + k) 7)))) (by omega) (by omega)
      rw [eF_s hkk.1] at q
      exact q

set_option maxHeartbeats 4000000 in
set_option maxRecDepth 100000 in
theorem lp_earnedM_n {l : Launch} {σ : aw_S} {Post : Option Value → aw_S → Prop} {tw cs : Bool} (hR : σ.2.2 = RF tw cs) {m : mS} (hM : cityM σ m) (wC : wfCity m) {N : Int} (hM2 : dayM σ m) (wD : wfDay m 0 N) (hN : 0 ≤ N ∧ N ≤ 1000) (hn : 0 < m 0 4) (hk : Post (some (.int (jI (eF e_mn m (m 100 7) (m 0 4).toNat)))) σ)  : ∀ (n : Nat) (k : Int) (x4 : Option Value), ((m 0 4 - k).toNat ≤ n) → (0 ≤ k ∧ k ≤ m 0 4) → AW l yX10_earned cX10_earned 5 (some .int) 1 22 0 0 SH Post SH 0 0 (σ) 37 [some (.ref 171), some (.int (jI 1)), some (.int (jI (eF e_mn m (m 100 7) k.toNat))), some (.int (jI k)), x4] [] := by
  intro n
  induction n with
  | zero =>
    intro k x4 hm hkk
    obtain ⟨c1, c2, c3, c4, c5, c6, c7⟩ := id hM
    obtain ⟨w1, w2, w3, w4, w5, w6, w7, w8⟩ := id wC
    obtain ⟨d1, d2, d3, d4, d5, d6, d7⟩ := id hM2
    obtain ⟨v1, v2, v3, v4, v5, v6, v7, v8⟩ := id wD
    simp only [Int.zero_add] at d4 d5 d6 d7 v4 v5 v6 v7 v8
    have g0 : ∀ c : Int, 0 ≤ c → c < m 0 4 → 0 ≤ m (100 + c) 7 ∧ m (100 + c) 7 ≤ 300000 * N := fun c h0 h1 => by
      have h := v5 c h0 h1
      unfold wfCab at h
      omega
    have gz : 0 ≤ m 100 7 ∧ m 100 7 ≤ 300000 * N := g0 0 (by omega) (by omega)
    have gx := eF_b e_mx_or (m := m) gz k.toNat (fun c h0 h1 => g0 c h0 (by omega))
    have gn := eF_b e_mn_or (m := m) gz k.toNat (fun c h0 h1 => g0 c h0 (by omega))
    refine a_ild3 eX10_earned_37 ?_
    refine a_ald0 eX10_earned_38 ?_
    refine a_getI 22 eX10_earned_39 fl_X10_246 rfl rfl sh_171 ?_
    refine a_icmp_ge 92 eX10_earned_42 (by decide) (by omega) (fun hT42 => ?_) (fun hF42 => ?_)
    · skip
      refine a_ild2 eX10_earned_92 ?_
      refine a_iret eX10_earned_93 rfl rfl ⟨Nat.zero_le _, Nat.zero_le _⟩ ?_
      have e : k = m 0 4 := by omega
      rw [e]
      exact hk
    · skip
      exfalso; omega
  | succ n ih =>
    intro k x4 hm hkk
    obtain ⟨c1, c2, c3, c4, c5, c6, c7⟩ := id hM
    obtain ⟨w1, w2, w3, w4, w5, w6, w7, w8⟩ := id wC
    obtain ⟨d1, d2, d3, d4, d5, d6, d7⟩ := id hM2
    obtain ⟨v1, v2, v3, v4, v5, v6, v7, v8⟩ := id wD
    simp only [Int.zero_add] at d4 d5 d6 d7 v4 v5 v6 v7 v8
    have g0 : ∀ c : Int, 0 ≤ c → c < m 0 4 → 0 ≤ m (100 + c) 7 ∧ m (100 + c) 7 ≤ 300000 * N := fun c h0 h1 => by
      have h := v5 c h0 h1
      unfold wfCab at h
      omega
    have gz : 0 ≤ m 100 7 ∧ m 100 7 ≤ 300000 * N := g0 0 (by omega) (by omega)
    have gx := eF_b e_mx_or (m := m) gz k.toNat (fun c h0 h1 => g0 c h0 (by omega))
    have gn := eF_b e_mn_or (m := m) gz k.toNat (fun c h0 h1 => g0 c h0 (by omega))
    refine a_ild3 eX10_earned_37 ?_
    refine a_ald0 eX10_earned_38 ?_
    refine a_getI 22 eX10_earned_39 fl_X10_246 rfl rfl sh_171 ?_
    refine a_icmp_ge 92 eX10_earned_42 (by decide) (by omega) (fun hT42 => ?_) (fun hF42 => ?_)
    · skip
      refine a_ild2 eX10_earned_92 ?_
      refine a_iret eX10_earned_93 rfl rfl ⟨Nat.zero_le _, Nat.zero_le _⟩ ?_
      have e : k = m 0 4 := by omega
      rw [e]
      exact hk
    · skip
      have e7 := (d5 k (by omega) (by omega)).2.2.2.2.2.2.2.1
      have gk := g0 k (by omega) (by omega)
      refine a_ald0 eX10_earned_45 ?_
      refine a_ild3 eX10_earned_46 ?_
      refine a_bipush eX10_earned_47 (by decide) ?_
      refine a_cV2 eX10_earned_49 lk_X10_276 mV_X10_of0 sh_171 ⟨_, rfl, rfl⟩ mt_X10_of0 rfl rfl rfl rfl rfl rfl (c_X10_of0 hR (by omega) ?_)
      dsimp only [Option.toList, List.cons_append, List.nil_append]
      rw [e7]
      refine a_ist4 eX10_earned_52 (by decide) aw_n2i ?_
      refine a_ild1 eX10_earned_54 ?_
      refine a_iconst eX10_earned_55 ?_
      refine a_icmp_ne 66 eX10_earned_56 (by decide) (by omega) (fun _ => ?_) (fun h => absurd h (by decide))
      refine a_ild1 eX10_earned_66 ?_
      refine a_if_ne 79 eX10_earned_67 (by decide) (by omega) (fun _ => ?_) (fun h => absurd h (by decide))
      refine a_ild2 eX10_earned_79 ?_
      refine a_ild4 eX10_earned_80 ?_
      refine a_mmin eX10_earned_82 lk_X10_356 (by omega) rfl rfl ?_
      refine a_ist2 eX10_earned_85 (by decide) aw_n2i ?_
      refine a_iinc3 eX10_earned_86 (by decide) aw_n2i ?_
      refine a_goto 37 eX10_earned_89 (by decide) ?_
      have q := ih (k + 1) (some (.int (jI (m (100 + k) 7)))) (by omega) (by omega)
      rw [eF_s hkk.1] at q
      exact q

set_option maxHeartbeats 4000000 in
set_option maxRecDepth 100000 in
theorem c_X10_earned {l : Launch} {σ : aw_S} {Post : Option Value → aw_S → Prop} {tw cs : Bool} (hR : σ.2.2 = RF tw cs) {m : mS} (hM : cityM σ m) (wC : wfCity m) {N : Int} (hM2 : dayM σ m) (wD : wfDay m 0 N) (hN : 0 ≤ N ∧ N ≤ 1000) {w : Int} (hr : (-2147483648 ≤ w ∧ w ≤ 2147483647)) (hk : Post (some (.int (jI (sp_earned m w)))) σ) : AE l yX10_earned cX10_earned 5 (some .int) 1 22 0 0 SH SH σ [.ref 171, .int (jI w)] Post := by
  show AW l yX10_earned cX10_earned 5 (some .int) 1 22 0 0 SH Post SH 0 0 σ 0 [some (.ref 171), some (.int (jI w)), none, none, none] []
  obtain ⟨c1, c2, c3, c4, c5, c6, c7⟩ := id hM
  obtain ⟨w1, w2, w3, w4, w5, w6, w7, w8⟩ := id wC
  obtain ⟨d1, d2, d3, d4, d5, d6, d7⟩ := id hM2
  obtain ⟨v1, v2, v3, v4, v5, v6, v7, v8⟩ := id wD
  simp only [Int.zero_add] at d4 d5 d6 d7 v4 v5 v6 v7 v8
  refine a_ald0 eX10_earned_0 ?_
  refine a_getI 22 eX10_earned_1 fl_X10_246 rfl rfl sh_171 ?_
  refine a_if_eq 16 eX10_earned_4 (by decide) (by omega) (fun hT4 => ?_) (fun hF4 => ?_)
  · skip
    refine a_iconst eX10_earned_16 ?_
    refine a_iret eX10_earned_17 rfl rfl ⟨Nat.zero_le _, Nat.zero_le _⟩ ?_
    refine aw_ret hk ?_; unfold sp_earned; (repeat (first | rw [if_pos (by omega)] | rw [if_neg (by omega)])); done
  · skip
    refine a_ild1 eX10_earned_7 ?_
    refine a_iconst eX10_earned_8 ?_
    refine a_iconst eX10_earned_9 ?_
    refine a_cS3 eX10_earned_10 lk_X10_128 mS_X10_in mt_X10_in rfl rfl rfl rfl rfl rfl rfl (c_X10_in (by omega) (fun hT10 => ?_) (fun hF10 => ?_))
    · skip
      dsimp only [Option.toList, List.cons_append, List.nil_append]
      refine a_if_ne 18 eX10_earned_13 (by decide) (by omega) (fun _ => ?_) (fun h => absurd h (by decide))
      refine a_ild1 eX10_earned_18 ?_
      refine a_iconst eX10_earned_19 ?_
      refine a_icmp_ne 27 eX10_earned_20 (by decide) (by omega) (fun hT20 => ?_) (fun hF20 => ?_)
      · skip
        refine a_ald0 eX10_earned_27 ?_
        refine a_iconst eX10_earned_28 ?_
        refine a_bipush eX10_earned_29 (by decide) ?_
        refine a_cV2 eX10_earned_31 lk_X10_276 mV_X10_of0 sh_171 ⟨_, rfl, rfl⟩ mt_X10_of0 rfl rfl rfl rfl rfl rfl (c_X10_of0 hR (by omega) ?_)
        dsimp only [Option.toList, List.cons_append, List.nil_append]
        first
          | (have e0 : σ.1 182 (11 * 0 + 6) = m 100 7 := (d5 0 (by omega) (by omega)).2.2.2.2.2.2.2.1
             rw [e0]
             refine a_ist2 eX10_earned_34 (by decide) aw_n2i ?_
             refine a_iconst eX10_earned_35 ?_
             refine a_ist3 eX10_earned_36 (by decide) aw_n2i ?_
             rcases (show w = 0 ∨ w = 1 by omega) with rfl | rfl
             · exact lp_earnedM_x hR hM wC hM2 wD hN (by omega) (aw_ret hk (by unfold sp_earned; rw [if_neg (by omega), if_neg (by decide), if_pos rfl])) _ 0 none (Nat.le_refl _) (by omega)
             · exact lp_earnedM_n hR hM wC hM2 wD hN (by omega) (aw_ret hk (by unfold sp_earned; rw [if_neg (by omega), if_neg (by decide), if_neg (by decide)])) _ 0 none (Nat.le_refl _) (by omega))
          | (refine a_ist2 eX10_earned_34 (by decide) aw_n2i ?_
             refine a_iconst eX10_earned_35 ?_
             refine a_ist3 eX10_earned_36 (by decide) aw_n2i ?_
             obtain rfl : w = 2 := by omega
             exact lp_earnedM_s hR hM wC hM2 wD hN (by omega) (aw_ret hk (by unfold sp_earned; rw [if_neg (by omega), if_pos rfl])) _ 0 none (Nat.le_refl _) (by omega))
      · skip
        refine a_iconst eX10_earned_23 ?_
        refine a_goto 34 eX10_earned_24 (by decide) ?_
        first
          | (have e0 : σ.1 182 (11 * 0 + 6) = m 100 7 := (d5 0 (by omega) (by omega)).2.2.2.2.2.2.2.1
             rw [e0]
             refine a_ist2 eX10_earned_34 (by decide) aw_n2i ?_
             refine a_iconst eX10_earned_35 ?_
             refine a_ist3 eX10_earned_36 (by decide) aw_n2i ?_
             rcases (show w = 0 ∨ w = 1 by omega) with rfl | rfl
             · exact lp_earnedM_x hR hM wC hM2 wD hN (by omega) (aw_ret hk (by unfold sp_earned; rw [if_neg (by omega), if_neg (by decide), if_pos rfl])) _ 0 none (Nat.le_refl _) (by omega)
             · exact lp_earnedM_n hR hM wC hM2 wD hN (by omega) (aw_ret hk (by unfold sp_earned; rw [if_neg (by omega), if_neg (by decide), if_neg (by decide)])) _ 0 none (Nat.le_refl _) (by omega))
          | (refine a_ist2 eX10_earned_34 (by decide) aw_n2i ?_
             refine a_iconst eX10_earned_35 ?_
             refine a_ist3 eX10_earned_36 (by decide) aw_n2i ?_
             obtain rfl : w = 2 := by omega
             exact lp_earnedM_s hR hM wC hM2 wD hN (by omega) (aw_ret hk (by unfold sp_earned; rw [if_neg (by omega), if_pos rfl])) _ 0 none (Nat.le_refl _) (by omega))
    · skip
      dsimp only [Option.toList, List.cons_append, List.nil_append]
      refine a_if_ne 18 eX10_earned_13 (by decide) (by omega) (fun h => absurd h (by decide)) (fun _ => ?_)
      refine a_iconst eX10_earned_16 ?_
      refine a_iret eX10_earned_17 rfl rfl ⟨Nat.zero_le _, Nat.zero_le _⟩ ?_
      refine aw_ret hk ?_; unfold sp_earned; (repeat (first | rw [if_pos (by omega)] | rw [if_neg (by omega)])); done
