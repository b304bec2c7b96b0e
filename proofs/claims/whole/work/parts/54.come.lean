set_option maxHeartbeats 4000000 in
set_option maxRecDepth 100000 in
theorem lp_behind {l : Launch} {σ : aw_S} {Post : Option Value → aw_S → Prop} {tw cs : Bool} (hR : σ.2.2 = RF tw cs) {r s : Int} {g fl : Int → Int} (hr : 0 ≤ r ∧ r < 6) (hs : σ.1 (21 + 9) r = s) (hs2 : 0 ≤ s ∧ s ≤ 16) (hg : ∀ k : Int, 0 ≤ k → k < s → σ.1 (21 + 3 + r.toNat) k = g k ∧ (0 ≤ g k ∧ g k < 16) ∧ σ.1 (21 + 12 + (g k).toNat) 10 = fl k ∧ (fl k = 0 ∨ fl k = 1)) (hk : ∀ k : Int, (0 ≤ k ∧ k ≤ s) → (∀ j : Int, 0 ≤ j → j < k → fl j = 1) → (k = s ∨ fl k ≠ 1) → Post (some (.int (jI k))) σ)  : ∀ (n : Nat) (k : Int), ((s - k).toNat ≤ n) → (0 ≤ k ∧ k ≤ s) → (∀ j : Int, 0 ≤ j → j < k → fl j = 1) → AW l yX5_behindTickets cX5_behindTickets 3 (some .int) 0 0 0 0 SH Post SH 0 0 (σ) 2 [some (.ref 21), some (.int (jI r)), some (.int (jI k))] [] := by
  intro n
  induction n with
  | zero =>
    intro k hm hkk hf
    refine a_ild2 eX5_behindTickets_2 ?_
    refine a_ald0 eX5_behindTickets_3 ?_
    refine a_getR 4 (21 + 9) eX5_behindTickets_4 fl_X5_22 rfl rfl (sh_day (Or.inl rfl)) ((congrFun (congrFun hR _) _).trans (rf_day_4 (Or.inl rfl))) ?_
    refine a_ild1 eX5_behindTickets_7 ?_
    refine a_iald eX5_behindTickets_8 (sh_day_9 (Or.inl rfl)) rfl (by omega) ?_
    refine a_icmp_ge 39 eX5_behindTickets_9 (by decide) (by omega) (fun hT9 => ?_) (fun hF9 => ?_)
    · skip
      refine a_ald0 eX5_behindTickets_39 ?_
      refine a_getR 4 (21 + 9) eX5_behindTickets_40 fl_X5_22 rfl rfl (sh_day (Or.inl rfl)) ((congrFun (congrFun hR _) _).trans (rf_day_4 (Or.inl rfl))) ?_
      refine a_ild1 eX5_behindTickets_43 ?_
      refine a_iald eX5_behindTickets_44 (sh_day_9 (Or.inl rfl)) rfl (by omega) ?_
      refine a_iret eX5_behindTickets_45 rfl rfl ⟨Nat.zero_le _, Nat.zero_le _⟩ ?_
      rw [hs]
      exact hk s (by omega) (fun j j1 j2 => hf j j1 (by omega)) (Or.inl rfl)
    · skip
      exfalso; omega
  | succ n ih =>
    intro k hm hkk hf
    refine a_ild2 eX5_behindTickets_2 ?_
    refine a_ald0 eX5_behindTickets_3 ?_
    refine a_getR 4 (21 + 9) eX5_behindTickets_4 fl_X5_22 rfl rfl (sh_day (Or.inl rfl)) ((congrFun (congrFun hR _) _).trans (rf_day_4 (Or.inl rfl))) ?_
    refine a_ild1 eX5_behindTickets_7 ?_
    refine a_iald eX5_behindTickets_8 (sh_day_9 (Or.inl rfl)) rfl (by omega) ?_
    refine a_icmp_ge 39 eX5_behindTickets_9 (by decide) (by omega) (fun hT9 => ?_) (fun hF9 => ?_)
    · skip
      refine a_ald0 eX5_behindTickets_39 ?_
      refine a_getR 4 (21 + 9) eX5_behindTickets_40 fl_X5_22 rfl rfl (sh_day (Or.inl rfl)) ((congrFun (congrFun hR _) _).trans (rf_day_4 (Or.inl rfl))) ?_
      refine a_ild1 eX5_behindTickets_43 ?_
      refine a_iald eX5_behindTickets_44 (sh_day_9 (Or.inl rfl)) rfl (by omega) ?_
      refine a_iret eX5_behindTickets_45 rfl rfl ⟨Nat.zero_le _, Nat.zero_le _⟩ ?_
      rw [hs]
      exact hk s (by omega) (fun j j1 j2 => hf j j1 (by omega)) (Or.inl rfl)
    · skip
      have gk := hg k (by omega) (by omega)
      refine a_ald0 eX5_behindTickets_12 ?_
      refine a_getR 2 (21 + 1) eX5_behindTickets_13 fl_X5_11 rfl rfl (sh_day (Or.inl rfl)) ((congrFun (congrFun hR _) _).trans (rf_day_2 (Or.inl rfl))) ?_
      refine a_ald0 eX5_behindTickets_16 ?_
      refine a_getR 3 (21 + 2) eX5_behindTickets_17 fl_X5_19 rfl rfl (sh_day (Or.inl rfl)) ((congrFun (congrFun hR _) _).trans (rf_day_3 (Or.inl rfl))) ?_
      refine a_ild1 eX5_behindTickets_20 ?_
      refine a_aald _ eX5_behindTickets_21 (sh_day_2 (Or.inl rfl)) rfl rfl rfl (by omega) ((congrFun (congrFun hR _) _).trans (rf_row (Or.inl rfl) (by omega))) ?_
      refine a_ild2 eX5_behindTickets_22 ?_
      refine a_iald eX5_behindTickets_23 (sh_row (Or.inl rfl) (by omega)) rfl (by omega) ?_
      refine a_eqtop (y0 := g k) (by exact gk.1) ?_
      refine a_aald _ eX5_behindTickets_24 (sh_day_1 (Or.inl rfl)) rfl rfl rfl (by omega) ((congrFun (congrFun hR _) _).trans (rf_cab (Or.inl rfl) (by omega))) ?_
      refine a_getI 10 eX5_behindTickets_25 fl_X5_135 rfl rfl (sh_cab (Or.inl rfl) (by omega)) ?_
      refine a_if_ne 33 eX5_behindTickets_28 (by decide) (by omega) (fun hT28 => ?_) (fun hF28 => ?_)
      · skip
        refine a_iinc2 eX5_behindTickets_33 (by decide) aw_n2i ?_
        refine a_goto 2 eX5_behindTickets_36 (by decide) ?_
        exact ih (k + 1) (by omega) (by omega) (fun j j1 j2 => by
          by_cases e : j < k
          · exact hf j j1 e
          · rw [show j = k by omega]; omega)
      · skip
        refine a_ild2 eX5_behindTickets_31 ?_
        refine a_iret eX5_behindTickets_32 rfl rfl ⟨Nat.zero_le _, Nat.zero_le _⟩ ?_
        exact hk k (by omega) hf (Or.inr (by omega))

set_option maxHeartbeats 4000000 in
set_option maxRecDepth 100000 in
theorem c_X5_behindTickets {l : Launch} {σ : aw_S} {Post : Option Value → aw_S → Prop} {tw cs : Bool} (hR : σ.2.2 = RF tw cs) {r s : Int} {g fl : Int → Int} (hr : 0 ≤ r ∧ r < 6) (hs : σ.1 (21 + 9) r = s) (hs2 : 0 ≤ s ∧ s ≤ 16) (hg : ∀ k : Int, 0 ≤ k → k < s → σ.1 (21 + 3 + r.toNat) k = g k ∧ (0 ≤ g k ∧ g k < 16) ∧ σ.1 (21 + 12 + (g k).toNat) 10 = fl k ∧ (fl k = 0 ∨ fl k = 1)) (hk : ∀ k : Int, (0 ≤ k ∧ k ≤ s) → (∀ j : Int, 0 ≤ j → j < k → fl j = 1) → (k = s ∨ fl k ≠ 1) → Post (some (.int (jI k))) σ)  : AE l yX5_behindTickets cX5_behindTickets 3 (some .int) 0 0 0 0 SH SH σ [.ref 21, .int (jI r)] Post := by
  show AW l yX5_behindTickets cX5_behindTickets 3 (some .int) 0 0 0 0 SH Post SH 0 0 σ 0 [some (.ref 21), some (.int (jI r)), none] []
  refine a_iconst eX5_behindTickets_0 ?_
  refine a_ist2 eX5_behindTickets_1 (by decide) aw_n2i ?_
  exact lp_behind hR hr hs hs2 hg hk _ 0 (Nat.le_refl _) (by omega) (fun j j1 j2 => by omega)

set_option maxHeartbeats 4000000 in
set_option maxRecDepth 100000 in
theorem c_X5_comeToRank {l : Launch} {σ : aw_S} {Post : Option Value → aw_S → Prop} {a : Nat} (ha : isCity a) {tw cs : Bool} (hR : σ.2.2 = RF tw cs) {N c r : Int} {m : mS} (hC : cityC σ a m) (wC : wfCity m) (hD : dayC σ 21 0 m) (w1 : wfD1 m N c) (hX : wfComer m N c r) (hN : 0 ≤ N ∧ N ≤ 1000) (hk : ∀ σ', dayC σ' 21 0 (marr m c r) → frC σ σ' → Post none σ')  : AE l yX5_comeToRank cX5_comeToRank 8 (none : Option Jvm.ClassFile.FieldType) 2 50 0 0 SH SH σ [.ref 21, .ref a, .int (jI c)] Post := by
  show AW l yX5_comeToRank cX5_comeToRank 8 (none : Option Jvm.ClassFile.FieldType) 2 50 0 0 SH Post SH 0 0 σ 0 [some (.ref 21), some (.ref a), some (.int (jI c)), none, none, none, none, none] []
  obtain ⟨c1, c2, c3, c4, c5, c6, c7, c8⟩ := id hC
  obtain ⟨y1, y2, y3, y4, y5, y6, y7, y8⟩ := id wC
  obtain ⟨d1, d2, d3, d4, d5, d6, d7⟩ := id hD
  obtain ⟨v1, v2, v3, v4, v5, v6, v7, v8⟩ := id w1
  obtain ⟨x1, ⟨x2, x2a, x2b⟩, x3, x4, x5, x6, x7, x8, x9⟩ := id hX
  simp only [Int.zero_add] at d4 d5 d6 d7
  have cr := c2 r (by omega) (by omega)
  have yr := y2 r (by omega) (by omega)
  have vr := v4 r (by omega) (by omega)
  have dr := d4 r (by omega) (by omega)
  have f3 := d5 c 3 (by omega) (by omega) (by omega) (by omega)
  refine a_ald0 eX5_comeToRank_0 ?_
  refine a_getR 2 (21 + 1) eX5_comeToRank_1 fl_X5_11 rfl rfl (sh_day (Or.inl rfl)) ((congrFun (congrFun hR _) _).trans (rf_day_2 (Or.inl rfl))) ?_
  refine a_ild2 eX5_comeToRank_4 ?_
  refine a_aald _ eX5_comeToRank_5 (sh_day_1 (Or.inl rfl)) rfl rfl rfl (by omega) ((congrFun (congrFun hR _) _).trans (rf_cab (Or.inl rfl) (by omega))) ?_
  refine a_ast3 eX5_comeToRank_6 (by decide) aw_n2i ?_
  refine a_ald3 eX5_comeToRank_7 ?_
  refine a_getI 3 eX5_comeToRank_8 fl_X5_77 rfl rfl (sh_cab (Or.inl rfl) (by omega)) ?_
  refine a_eqtop (y0 := r) (by rw [f3]; exact x2) ?_
  refine a_ist4 eX5_comeToRank_11 (by decide) aw_n2r ?_
  refine a_ald3 eX5_comeToRank_13 ?_
  refine a_ald1 eX5_comeToRank_14 ?_
  refine a_getR 1 (a + 1) eX5_comeToRank_15 fl_X5_106 rfl rfl (sh_city ha) ((congrFun (congrFun hR _) _).trans (rf_city_1 ha)) ?_
  refine a_ild4 eX5_comeToRank_18 ?_
  refine a_iald eX5_comeToRank_20 (sh_city_1 ha) rfl (by omega) ?_
  refine a_cV1 eX5_comeToRank_21 lk_X5_102 mV_X2_becomeEmpty (sh_cab (Or.inl rfl) (by omega)) ⟨_, rfl, rfl⟩ mt_X2_becomeEmpty rfl rfl rfl rfl rfl (c_X2_becomeEmpty (Or.inl rfl) (by omega) ?_)
  dsimp only [Option.toList, List.cons_append, List.nil_append]
  refine AW.gen (fun σ1 hσ1 => ?_)
  have h1o : ∀ (a : Nat) (j : Int), a ≠ (21 + 12 + c.toNat) → σ1.1 a j = σ.1 a j := fun a j h => by rw [hσ1]; simp only [rd_si]; (repeat rw [if_neg (by omega)])
  have h1f : ∀ f : Int, 0 ≤ f → f < 11 → σ1.1 (21 + 12 + c.toNat) f = xem m c (m 1 r) f := fun f q1 q2 => by
    have e5 := d5 c f (by omega) (by omega) q1 q2
    rw [hσ1]
    rcases (show f = 0 ∨ f = 1 ∨ f = 2 ∨ f = 3 ∨ f = 4 ∨ f = 5 ∨ f = 6 ∨ f = 7 ∨ f = 8 ∨ f = 9 ∨ f = 10 by omega) with rfl | rfl | rfl | rfl | rfl | rfl | rfl | rfl | rfl | rfl | rfl <;> simp [rd_si, xem, e5, cr.1]
  have hR : σ1.2.2 = RF tw cs := by rw [hσ1]; exact hR
  have fr1 : frC σ σ1 := ⟨fun a j h => h1o a j (by omega), by rw [hσ1]; rfl⟩
  have hC1 := cityC_s ha fr1 hC
  obtain ⟨c1, c2, c3, c4, c5, c6, c7, c8⟩ := id hC1
  have cr := c2 r (by omega) (by omega)
  have z0 : σ1.1 (21 + 12 + c.toNat) 0 = m (100 + c) 0 := h1f 0 (by omega) (by omega)
  have z5 : σ1.1 (21 + 12 + c.toNat) 5 = m (100 + c) 5 := h1f 5 (by omega) (by omega)
  have z6 : σ1.1 (21 + 12 + c.toNat) 6 = m (100 + c) 6 := h1f 6 (by omega) (by omega)
  have zm : σ1.1 21 0 = m 0 3 := (h1o 21 0 (by omega)).trans d1
  have zs : σ1.1 (21 + 9) r = m 10 r := (h1o (21 + 9) r (by omega)).trans dr.1
  refine a_ald1 eX5_comeToRank_24 ?_
  refine a_ald3 eX5_comeToRank_25 ?_
  refine a_getI 0 eX5_comeToRank_26 fl_X5_109 rfl rfl (sh_cab (Or.inl rfl) (by omega)) ?_
  refine a_eqtop (y0 := m (100 + c) 0) (by exact z0) ?_
  refine a_ald0 eX5_comeToRank_29 ?_
  refine a_getI 0 eX5_comeToRank_30 fl_X5_33 rfl rfl (sh_day (Or.inl rfl)) ?_
  refine a_eqtop (y0 := m 0 3) (by exact zm) ?_
  refine a_bipush eX5_comeToRank_33 (by decide) ?_
  refine a_idiv eX5_comeToRank_35 (by omega) (by omega) ?_
  refine a_bipush eX5_comeToRank_36 (by decide) ?_
  refine a_irem eX5_comeToRank_38 (by omega) (by omega) ?_
  refine a_cV2 eX5_comeToRank_39 lk_X5_112 mV_X3_saying (sh_city ha) ⟨_, rfl, rfl⟩ mt_X3_saying rfl rfl rfl rfl rfl rfl (c_X3_saying ha hR (by omega) (by omega) (by omega) (fun k k1 k2 => by have := c4 k k1 (by omega); have := y5 k k1 (by omega); omega) (fun S39 hS39 hT39 => ?_))
  dsimp only [Option.toList, List.cons_append, List.nil_append]
  refine a_ist5 eX5_comeToRank_42 (by decide) aw_n2i ?_
  refine a_ald1 eX5_comeToRank_44 ?_
  refine a_ild4 eX5_comeToRank_45 ?_
  refine a_ild5 eX5_comeToRank_47 ?_
  refine a_iconst eX5_comeToRank_49 ?_
  refine a_cV3 eX5_comeToRank_50 lk_X5_115 mV_X3_letsStand (sh_city ha) ⟨_, rfl, rfl⟩ mt_X3_letsStand rfl rfl rfl rfl rfl rfl rfl (c_X3_letsStand (L := 0) ha hR (by omega) (c5 _ (by omega) (by omega)).1 hS39 (by decide) (fun hT50 => ?_) (fun hF50 => ?_))
  · skip
    dsimp only [Option.toList, List.cons_append, List.nil_append]
    refine a_if_eq 72 eX5_comeToRank_53 (by decide) (by omega) (fun h => absurd h (by decide)) (fun _ => ?_)
    refine a_ald0 eX5_comeToRank_56 ?_
    refine a_getR 4 (21 + 9) eX5_comeToRank_57 fl_X5_22 rfl rfl (sh_day (Or.inl rfl)) ((congrFun (congrFun hR _) _).trans (rf_day_4 (Or.inl rfl))) ?_
    refine a_ild4 eX5_comeToRank_60 ?_
    refine a_iald eX5_comeToRank_62 (sh_day_9 (Or.inl rfl)) rfl (by omega) ?_
    refine a_ald1 eX5_comeToRank_63 ?_
    refine a_ild4 eX5_comeToRank_64 ?_
    refine a_cV1 eX5_comeToRank_66 lk_X5_118 mV_X3_room (sh_city ha) ⟨_, rfl, rfl⟩ mt_X3_room rfl rfl rfl rfl rfl (c_X3_room ha hR (by omega) ?_)
    dsimp only [Option.toList, List.cons_append, List.nil_append]
    refine a_icmp_lt 73 eX5_comeToRank_69 (by decide) (by omega) (fun hT69 => ?_) (fun hF69 => ?_)
    · skip
      refine a_ald3 eX5_comeToRank_73 ?_
      refine a_getI 5 eX5_comeToRank_74 fl_X5_122 rfl rfl (sh_cab (Or.inl rfl) (by omega)) ?_
      refine a_eqtop (y0 := m (100 + c) 5) (by exact z5) ?_
      refine a_ild4 eX5_comeToRank_77 ?_
      refine a_icmp_ne 97 eX5_comeToRank_79 (by decide) (by omega) (fun hT79 => ?_) (fun hF79 => ?_)
      · skip
        refine a_iconst eX5_comeToRank_97 ?_
        refine a_ist6 eX5_comeToRank_98 (by decide) aw_n2i ?_
        refine a_ild6 eX5_comeToRank_100 ?_
        refine a_if_eq 114 eX5_comeToRank_102 (by decide) (by omega) (fun _ => ?_) (fun h => absurd h (by decide))
        refine a_ald0 eX5_comeToRank_114 ?_
        refine a_getR 4 (21 + 9) eX5_comeToRank_115 fl_X5_22 rfl rfl (sh_day (Or.inl rfl)) ((congrFun (congrFun hR _) _).trans (rf_day_4 (Or.inl rfl))) ?_
        refine a_ild4 eX5_comeToRank_118 ?_
        refine a_iald eX5_comeToRank_120 (sh_day_9 (Or.inl rfl)) rfl (by omega) ?_
        refine a_eqtop (y0 := m 10 r) (by exact zs) ?_
        refine a_ist7 eX5_comeToRank_121 (by decide) aw_n2i ?_
        refine a_ald0 eX5_comeToRank_123 ?_
        refine a_ild2 eX5_comeToRank_124 ?_
        refine a_ild4 eX5_comeToRank_125 ?_
        refine a_ild7 eX5_comeToRank_127 ?_
        refine a_cV3 eX5_comeToRank_129 lk_X5_131 mV_X5_putInRow (sh_day (Or.inl rfl)) ⟨_, rfl, rfl⟩ mt_X5_putInRow rfl rfl rfl rfl rfl rfl rfl (c_X5_putInRow (s := m 10 r) (q := (m 10 r)) hR (by omega) (by omega) zs ⟨by omega, by have := pig_c x1 vr.1.1 (fun k k1 k2 => by have := v6 r k (by omega) (by omega) k1 k2; exact ⟨this.1, this.2.1⟩) (fun k j k1 k2 j1 j2 q => v7 r k j (by omega) (by omega) k1 k2 j1 j2 q); omega⟩ (by omega) ?_)
        dsimp only [Option.toList, List.cons_append, List.nil_append]
        refine AW.gen (fun σ2 hσ2 => ?_)
        have h2o : ∀ (a : Nat) (j : Int), a ≠ (21 + 12 + c.toNat) → a ≠ (21 + 3 + r.toNat) → ¬ (a = 21 + 9 ∧ j = r) → σ2.1 a j = σ1.1 a j := fun a j q1 q2 q3 => by rw [hσ2]; simp only [rd_si, rd_sa]; (repeat rw [if_neg (by omega)])
        have h2s : σ2.1 (21 + 9) r = m 10 r + 1 := by rw [hσ2]; (simp only [rd_si, rd_sa, and_self, true_and, and_true, ↓reduceIte]; (repeat (first | rw [if_pos (by omega)] | rw [if_neg (by omega)])); (try omega))
        have h2w : ∀ j : Int, σ2.1 (21 + 3 + r.toNat) j = if j < (m 10 r) then σ1.1 (21 + 3 + r.toNat) j else if j = (m 10 r) then c else if j ≤ m 10 r then σ1.1 (21 + 3 + r.toNat) (j - 1) else σ1.1 (21 + 3 + r.toNat) j := fun j => by
          rw [hσ2, rd_si_ne (by omega), rd_si_ne (by omega), rd_si_ne (by omega), rd_sa_eq]
        have h2f : ∀ f : Int, σ2.1 (21 + 12 + c.toNat) f = if f = 3 then r else if f = 1 then 2 else σ1.1 (21 + 12 + c.toNat) f := fun f => by
          rw [hσ2]; simp only [rd_si, rd_sa, true_and]
          by_cases q3 : f = 3
          · rw [if_pos q3, if_pos q3]
          · rw [if_neg q3, if_neg q3]
            by_cases q1 : f = 1
            · rw [if_pos q1, if_pos q1]
            · rw [if_neg q1, if_neg q1, if_neg (by omega), if_neg (by omega)]
        have hR : σ2.2.2 = RF tw cs := by rw [hσ2]; exact hR
        refine a_ald3 eX5_comeToRank_132 ?_
        refine a_ild6 eX5_comeToRank_133 ?_
        refine a_putZ 10 eX5_comeToRank_135 fl_X5_135 rfl rfl (by first | exact Or.inl rfl | exact Or.inr rfl | omega) (sh_cab (Or.inl rfl) (by omega)) (fun q h => Or.inl (by cases h; rfl)) ?_
        refine AW.gen (fun σ3 hσ3 => ?_)
        have h3o : ∀ (a : Nat) (j : Int), a ≠ (21 + 12 + c.toNat) → σ3.1 a j = σ2.1 a j := fun a j q1 => by rw [hσ3]; simp only [rd_si]; (repeat rw [if_neg (by omega)])
        have h3f : ∀ f : Int, 0 ≤ f → f < 11 → σ3.1 (21 + 12 + c.toNat) f = xst m c r 0 f := fun f q1 q2 => by
          have e1 := h1f f q1 q2
          have e2 := h2f f
          rw [hσ3]
          rcases (show f = 0 ∨ f = 1 ∨ f = 2 ∨ f = 3 ∨ f = 4 ∨ f = 5 ∨ f = 6 ∨ f = 7 ∨ f = 8 ∨ f = 9 ∨ f = 10 by omega) with rfl | rfl | rfl | rfl | rfl | rfl | rfl | rfl | rfl | rfl | rfl <;> simp [rd_si, xst, e2, e1, xem]
        have hR : σ3.2.2 = RF tw cs := by rw [hσ3]; exact hR
        have fr3 : frC σ σ3 := ⟨fun a j h => by rw [h3o a j (by omega), h2o a j (by omega) (by omega) (by omega)]; exact h1o a j (by omega), by rw [hσ3, hσ2, hσ1]; rfl⟩
        have hrow : dayC (aw_sa σ3 (21 + 12 + c.toNat) (σ.1 (21 + 12 + c.toNat))) 21 0 (mrow m r (m 10 r) c) := by
          refine dayC_row (by omega) (by omega) (rowD_ins x2a) hD (fun a j q1 q2 => ?_) ?_ (fun j j1 j2 => ?_)
          · by_cases q : a = (21 + 12 + c.toNat)
            · rw [q, rd_sa_eq]
            · rw [rd_sa_ne q, h3o a j q, h2o a j q q1 q2, h1o a j q]
          · rw [rd_sa_ne (by omega), h3o _ _ (by omega), h2s]
          · rw [rd_sa_ne (by omega), h3o _ _ (by omega), h2w]
            by_cases q1 : j < (m 10 r)
            · rw [if_pos q1, if_pos q1, h1o _ _ (by omega)]; exact d6 r j (by omega) (by omega) j1 (by omega)
            · rw [if_neg q1, if_neg q1]
              by_cases q2 : j = (m 10 r)
              · rw [if_pos q2, if_pos q2]
              · rw [if_neg q2, if_neg q2, if_pos (by omega), h1o _ _ (by omega)]; exact d6 r (j - 1) (by omega) (by omega) (by omega) (by omega)
        have hD3 : dayC σ3 21 0 (upr (mrow m r (m 10 r) c) (100 + c) (xst m c r 0)) := by
          have e4 : mrow m r (m 10 r) c 0 4 = m 0 4 := mrow_ne (by omega) (by omega)
          exact dayC_cab (by rw [e4]; exact x1) (by rw [e4]; omega) hrow (fun a j q => by rw [rd_sa_ne q]) h3f
        refine a_ild6 eX5_comeToRank_138 ?_
        refine a_if_eq 171 eX5_comeToRank_140 (by decide) (by omega) (fun _ => ?_) (fun h => absurd h (by decide))
        refine a_vret eX5_comeToRank_171 rfl rfl ⟨Nat.zero_le _, Nat.zero_le _⟩ ?_
        refine hk σ3 ?_ fr3
        rw [show marr m c r = upr (mrow m r (m 10 r) c) (100 + c) (xst m c r 0) from (if_pos ⟨(mayst_of_ls hC1 (by omega) hT39).mp hT50, by omega⟩).trans (if_neg (by omega))]
        exact hD3
      · skip
        refine a_ald0 eX5_comeToRank_82 ?_
        refine a_getI 0 eX5_comeToRank_83 fl_X5_33 rfl rfl (sh_day (Or.inl rfl)) ?_
        refine a_eqtop (y0 := m 0 3) (by exact zm) ?_
        refine a_ald3 eX5_comeToRank_86 ?_
        refine a_getI 6 eX5_comeToRank_87 fl_X5_125 rfl rfl (sh_cab (Or.inl rfl) (by omega)) ?_
        refine a_eqtop (y0 := m (100 + c) 6) (by exact z6) ?_
        refine a_icmp_gt 97 eX5_comeToRank_90 (by decide) (by omega) (fun hT90 => ?_) (fun hF90 => ?_)
        · skip
          refine a_iconst eX5_comeToRank_97 ?_
          refine a_ist6 eX5_comeToRank_98 (by decide) aw_n2i ?_
          refine a_ild6 eX5_comeToRank_100 ?_
          refine a_if_eq 114 eX5_comeToRank_102 (by decide) (by omega) (fun _ => ?_) (fun h => absurd h (by decide))
          refine a_ald0 eX5_comeToRank_114 ?_
          refine a_getR 4 (21 + 9) eX5_comeToRank_115 fl_X5_22 rfl rfl (sh_day (Or.inl rfl)) ((congrFun (congrFun hR _) _).trans (rf_day_4 (Or.inl rfl))) ?_
          refine a_ild4 eX5_comeToRank_118 ?_
          refine a_iald eX5_comeToRank_120 (sh_day_9 (Or.inl rfl)) rfl (by omega) ?_
          refine a_eqtop (y0 := m 10 r) (by exact zs) ?_
          refine a_ist7 eX5_comeToRank_121 (by decide) aw_n2i ?_
          refine a_ald0 eX5_comeToRank_123 ?_
          refine a_ild2 eX5_comeToRank_124 ?_
          refine a_ild4 eX5_comeToRank_125 ?_
          refine a_ild7 eX5_comeToRank_127 ?_
          refine a_cV3 eX5_comeToRank_129 lk_X5_131 mV_X5_putInRow (sh_day (Or.inl rfl)) ⟨_, rfl, rfl⟩ mt_X5_putInRow rfl rfl rfl rfl rfl rfl rfl (c_X5_putInRow (s := m 10 r) (q := (m 10 r)) hR (by omega) (by omega) zs ⟨by omega, by have := pig_c x1 vr.1.1 (fun k k1 k2 => by have := v6 r k (by omega) (by omega) k1 k2; exact ⟨this.1, this.2.1⟩) (fun k j k1 k2 j1 j2 q => v7 r k j (by omega) (by omega) k1 k2 j1 j2 q); omega⟩ (by omega) ?_)
          dsimp only [Option.toList, List.cons_append, List.nil_append]
          refine AW.gen (fun σ2 hσ2 => ?_)
          have h2o : ∀ (a : Nat) (j : Int), a ≠ (21 + 12 + c.toNat) → a ≠ (21 + 3 + r.toNat) → ¬ (a = 21 + 9 ∧ j = r) → σ2.1 a j = σ1.1 a j := fun a j q1 q2 q3 => by rw [hσ2]; simp only [rd_si, rd_sa]; (repeat rw [if_neg (by omega)])
          have h2s : σ2.1 (21 + 9) r = m 10 r + 1 := by rw [hσ2]; (simp only [rd_si, rd_sa, and_self, true_and, and_true, ↓reduceIte]; (repeat (first | rw [if_pos (by omega)] | rw [if_neg (by omega)])); (try omega))
          have h2w : ∀ j : Int, σ2.1 (21 + 3 + r.toNat) j = if j < (m 10 r) then σ1.1 (21 + 3 + r.toNat) j else if j = (m 10 r) then c else if j ≤ m 10 r then σ1.1 (21 + 3 + r.toNat) (j - 1) else σ1.1 (21 + 3 + r.toNat) j := fun j => by
            rw [hσ2, rd_si_ne (by omega), rd_si_ne (by omega), rd_si_ne (by omega), rd_sa_eq]
          have h2f : ∀ f : Int, σ2.1 (21 + 12 + c.toNat) f = if f = 3 then r else if f = 1 then 2 else σ1.1 (21 + 12 + c.toNat) f := fun f => by
            rw [hσ2]; simp only [rd_si, rd_sa, true_and]
            by_cases q3 : f = 3
            · rw [if_pos q3, if_pos q3]
            · rw [if_neg q3, if_neg q3]
              by_cases q1 : f = 1
              · rw [if_pos q1, if_pos q1]
              · rw [if_neg q1, if_neg q1, if_neg (by omega), if_neg (by omega)]
          have hR : σ2.2.2 = RF tw cs := by rw [hσ2]; exact hR
          refine a_ald3 eX5_comeToRank_132 ?_
          refine a_ild6 eX5_comeToRank_133 ?_
          refine a_putZ 10 eX5_comeToRank_135 fl_X5_135 rfl rfl (by first | exact Or.inl rfl | exact Or.inr rfl | omega) (sh_cab (Or.inl rfl) (by omega)) (fun q h => Or.inl (by cases h; rfl)) ?_
          refine AW.gen (fun σ3 hσ3 => ?_)
          have h3o : ∀ (a : Nat) (j : Int), a ≠ (21 + 12 + c.toNat) → σ3.1 a j = σ2.1 a j := fun a j q1 => by rw [hσ3]; simp only [rd_si]; (repeat rw [if_neg (by omega)])
          have h3f : ∀ f : Int, 0 ≤ f → f < 11 → σ3.1 (21 + 12 + c.toNat) f = xst m c r 0 f := fun f q1 q2 => by
            have e1 := h1f f q1 q2
            have e2 := h2f f
            rw [hσ3]
            rcases (show f = 0 ∨ f = 1 ∨ f = 2 ∨ f = 3 ∨ f = 4 ∨ f = 5 ∨ f = 6 ∨ f = 7 ∨ f = 8 ∨ f = 9 ∨ f = 10 by omega) with rfl | rfl | rfl | rfl | rfl | rfl | rfl | rfl | rfl | rfl | rfl <;> simp [rd_si, xst, e2, e1, xem]
          have hR : σ3.2.2 = RF tw cs := by rw [hσ3]; exact hR
          have fr3 : frC σ σ3 := ⟨fun a j h => by rw [h3o a j (by omega), h2o a j (by omega) (by omega) (by omega)]; exact h1o a j (by omega), by rw [hσ3, hσ2, hσ1]; rfl⟩
          have hrow : dayC (aw_sa σ3 (21 + 12 + c.toNat) (σ.1 (21 + 12 + c.toNat))) 21 0 (mrow m r (m 10 r) c) := by
            refine dayC_row (by omega) (by omega) (rowD_ins x2a) hD (fun a j q1 q2 => ?_) ?_ (fun j j1 j2 => ?_)
            · by_cases q : a = (21 + 12 + c.toNat)
              · rw [q, rd_sa_eq]
              · rw [rd_sa_ne q, h3o a j q, h2o a j q q1 q2, h1o a j q]
            · rw [rd_sa_ne (by omega), h3o _ _ (by omega), h2s]
            · rw [rd_sa_ne (by omega), h3o _ _ (by omega), h2w]
              by_cases q1 : j < (m 10 r)
              · rw [if_pos q1, if_pos q1, h1o _ _ (by omega)]; exact d6 r j (by omega) (by omega) j1 (by omega)
              · rw [if_neg q1, if_neg q1]
                by_cases q2 : j = (m 10 r)
                · rw [if_pos q2, if_pos q2]
                · rw [if_neg q2, if_neg q2, if_pos (by omega), h1o _ _ (by omega)]; exact d6 r (j - 1) (by omega) (by omega) (by omega) (by omega)
          have hD3 : dayC σ3 21 0 (upr (mrow m r (m 10 r) c) (100 + c) (xst m c r 0)) := by
            have e4 : mrow m r (m 10 r) c 0 4 = m 0 4 := mrow_ne (by omega) (by omega)
            exact dayC_cab (by rw [e4]; exact x1) (by rw [e4]; omega) hrow (fun a j q => by rw [rd_sa_ne q]) h3f
          refine a_ild6 eX5_comeToRank_138 ?_
          refine a_if_eq 171 eX5_comeToRank_140 (by decide) (by omega) (fun _ => ?_) (fun h => absurd h (by decide))
          refine a_vret eX5_comeToRank_171 rfl rfl ⟨Nat.zero_le _, Nat.zero_le _⟩ ?_
          refine hk σ3 ?_ fr3
          rw [show marr m c r = upr (mrow m r (m 10 r) c) (100 + c) (xst m c r 0) from (if_pos ⟨(mayst_of_ls hC1 (by omega) hT39).mp hT50, by omega⟩).trans (if_neg (by omega))]
          exact hD3
        · skip
          refine a_iconst eX5_comeToRank_93 ?_
          refine a_goto 98 eX5_comeToRank_94 (by decide) ?_
          refine a_ist6 eX5_comeToRank_98 (by decide) aw_n2i ?_
          refine a_ild6 eX5_comeToRank_100 ?_
          refine a_if_eq 114 eX5_comeToRank_102 (by decide) (by omega) (fun h => absurd h (by decide)) (fun _ => ?_)
          refine a_ald0 eX5_comeToRank_105 ?_
          refine a_ild4 eX5_comeToRank_106 ?_
          refine a_cV1 eX5_comeToRank_108 lk_X5_128 mV_X5_behindTickets (sh_day (Or.inl rfl)) ⟨_, rfl, rfl⟩ mt_X5_behindTickets rfl rfl rfl rfl rfl (c_X5_behindTickets (s := m 10 r) (g := fun k => m (200 + r) k) (fl := fun k => m (100 + m (200 + r) k) 10) hR (by omega) zs (by omega) (fun k k1 k2 => by
    have h6 := v6 r k (by omega) (by omega) k1 k2
    have h5 := v5 _ h6.1.1 h6.1.2 h6.2.1
    unfold wfCab at h5
    exact ⟨by rw [h1o _ _ (by omega)]; exact d6 r k (by omega) (by omega) k1 k2, by omega, by rw [h1o _ _ (by have := h6.2.1; omega)]; exact d5 _ 10 h6.1.1 h6.1.2 (by omega) (by omega), h5.2.2.2.2.2.2.2.2.2.2.2.2.2⟩) (fun k108 hk108 hj108 he108 => ?_))
          dsimp only [Option.toList, List.cons_append, List.nil_append]
          have hbt : k108 = btp m r := btp_eq ⟨hk108, hj108, he108⟩
          rw [hbt] at hk108 ⊢
          refine a_goto 121 eX5_comeToRank_111 (by decide) ?_
          refine a_ist7 eX5_comeToRank_121 (by decide) aw_n2i ?_
          refine a_ald0 eX5_comeToRank_123 ?_
          refine a_ild2 eX5_comeToRank_124 ?_
          refine a_ild4 eX5_comeToRank_125 ?_
          refine a_ild7 eX5_comeToRank_127 ?_
          refine a_cV3 eX5_comeToRank_129 lk_X5_131 mV_X5_putInRow (sh_day (Or.inl rfl)) ⟨_, rfl, rfl⟩ mt_X5_putInRow rfl rfl rfl rfl rfl rfl rfl (c_X5_putInRow (s := m 10 r) (q := (btp m r)) hR (by omega) (by omega) zs ⟨by omega, by have := pig_c x1 vr.1.1 (fun k k1 k2 => by have := v6 r k (by omega) (by omega) k1 k2; exact ⟨this.1, this.2.1⟩) (fun k j k1 k2 j1 j2 q => v7 r k j (by omega) (by omega) k1 k2 j1 j2 q); omega⟩ (by omega) ?_)
          dsimp only [Option.toList, List.cons_append, List.nil_append]
          refine AW.gen (fun σ2 hσ2 => ?_)
          have h2o : ∀ (a : Nat) (j : Int), a ≠ (21 + 12 + c.toNat) → a ≠ (21 + 3 + r.toNat) → ¬ (a = 21 + 9 ∧ j = r) → σ2.1 a j = σ1.1 a j := fun a j q1 q2 q3 => by rw [hσ2]; simp only [rd_si, rd_sa]; (repeat rw [if_neg (by omega)])
          have h2s : σ2.1 (21 + 9) r = m 10 r + 1 := by rw [hσ2]; (simp only [rd_si, rd_sa, and_self, true_and, and_true, ↓reduceIte]; (repeat (first | rw [if_pos (by omega)] | rw [if_neg (by omega)])); (try omega))
          have h2w : ∀ j : Int, σ2.1 (21 + 3 + r.toNat) j = if j < (btp m r) then σ1.1 (21 + 3 + r.toNat) j else if j = (btp m r) then c else if j ≤ m 10 r then σ1.1 (21 + 3 + r.toNat) (j - 1) else σ1.1 (21 + 3 + r.toNat) j := fun j => by
            rw [hσ2, rd_si_ne (by omega), rd_si_ne (by omega), rd_si_ne (by omega), rd_sa_eq]
          have h2f : ∀ f : Int, σ2.1 (21 + 12 + c.toNat) f = if f = 3 then r else if f = 1 then 2 else σ1.1 (21 + 12 + c.toNat) f := fun f => by
            rw [hσ2]; simp only [rd_si, rd_sa, true_and]
            by_cases q3 : f = 3
            · rw [if_pos q3, if_pos q3]
            · rw [if_neg q3, if_neg q3]
              by_cases q1 : f = 1
              · rw [if_pos q1, if_pos q1]
              · rw [if_neg q1, if_neg q1, if_neg (by omega), if_neg (by omega)]
          have hR : σ2.2.2 = RF tw cs := by rw [hσ2]; exact hR
          refine a_ald3 eX5_comeToRank_132 ?_
          refine a_ild6 eX5_comeToRank_133 ?_
          refine a_putZ 10 eX5_comeToRank_135 fl_X5_135 rfl rfl (by first | exact Or.inl rfl | exact Or.inr rfl | omega) (sh_cab (Or.inl rfl) (by omega)) (fun q h => Or.inl (by cases h; rfl)) ?_
          refine a_ild6 eX5_comeToRank_138 ?_
          refine a_if_eq 171 eX5_comeToRank_140 (by decide) (by omega) (fun h => absurd h (by decide)) (fun _ => ?_)
          refine a_ald3 eX5_comeToRank_143 ?_
          refine a_iconst eX5_comeToRank_144 ?_
          refine a_putI 5 eX5_comeToRank_145 fl_X5_122 rfl rfl (sh_cab (Or.inl rfl) (by omega)) (fun q h => Or.inl (by cases h; rfl)) ?_
          refine a_ald3 eX5_comeToRank_148 ?_
          refine a_iconst eX5_comeToRank_149 ?_
          refine a_putI 6 eX5_comeToRank_150 fl_X5_125 rfl rfl (sh_cab (Or.inl rfl) (by omega)) (fun q h => Or.inl (by cases h; rfl)) ?_
          refine AW.gen (fun σ3 hσ3 => ?_)
          have h3o : ∀ (a : Nat) (j : Int), a ≠ (21 + 12 + c.toNat) → σ3.1 a j = σ2.1 a j := fun a j q1 => by rw [hσ3]; simp only [rd_si]; (repeat rw [if_neg (by omega)])
          have h3f : ∀ f : Int, 0 ≤ f → f < 11 → σ3.1 (21 + 12 + c.toNat) f = xst m c r 1 f := fun f q1 q2 => by
            have e1 := h1f f q1 q2
            have e2 := h2f f
            rw [hσ3]
            rcases (show f = 0 ∨ f = 1 ∨ f = 2 ∨ f = 3 ∨ f = 4 ∨ f = 5 ∨ f = 6 ∨ f = 7 ∨ f = 8 ∨ f = 9 ∨ f = 10 by omega) with rfl | rfl | rfl | rfl | rfl | rfl | rfl | rfl | rfl | rfl | rfl <;> simp [rd_si, xst, e2, e1, xem]
          have hR : σ3.2.2 = RF tw cs := by rw [hσ3]; exact hR
          have fr3 : frC σ σ3 := ⟨fun a j h => by rw [h3o a j (by omega), h2o a j (by omega) (by omega) (by omega)]; exact h1o a j (by omega), by rw [hσ3, hσ2, hσ1]; rfl⟩
          have hrow : dayC (aw_sa σ3 (21 + 12 + c.toNat) (σ.1 (21 + 12 + c.toNat))) 21 0 (mrow m r (btp m r) c) := by
            refine dayC_row (by omega) (by omega) (rowD_ins x2a) hD (fun a j q1 q2 => ?_) ?_ (fun j j1 j2 => ?_)
            · by_cases q : a = (21 + 12 + c.toNat)
              · rw [q, rd_sa_eq]
              · rw [rd_sa_ne q, h3o a j q, h2o a j q q1 q2, h1o a j q]
            · rw [rd_sa_ne (by omega), h3o _ _ (by omega), h2s]
            · rw [rd_sa_ne (by omega), h3o _ _ (by omega), h2w]
              by_cases q1 : j < (btp m r)
              · rw [if_pos q1, if_pos q1, h1o _ _ (by omega)]; exact d6 r j (by omega) (by omega) j1 (by omega)
              · rw [if_neg q1, if_neg q1]
                by_cases q2 : j = (btp m r)
                · rw [if_pos q2, if_pos q2]
                · rw [if_neg q2, if_neg q2, if_pos (by omega), h1o _ _ (by omega)]; exact d6 r (j - 1) (by omega) (by omega) (by omega) (by omega)
          have hD3 : dayC σ3 21 0 (upr (mrow m r (btp m r) c) (100 + c) (xst m c r 1)) := by
            have e4 : mrow m r (btp m r) c 0 4 = m 0 4 := mrow_ne (by omega) (by omega)
            exact dayC_cab (by rw [e4]; exact x1) (by rw [e4]; omega) hrow (fun a j q => by rw [rd_sa_ne q]) h3f
          refine a_ald0 eX5_comeToRank_153 ?_
          refine a_ild2 eX5_comeToRank_154 ?_
          refine a_iconst eX5_comeToRank_155 ?_
          refine a_ald0 eX5_comeToRank_156 ?_
          refine a_getR 4 (21 + 9) eX5_comeToRank_157 fl_X5_22 rfl rfl (sh_day (Or.inl rfl)) ((congrFun (congrFun hR _) _).trans (rf_day_4 (Or.inl rfl))) ?_
          refine a_ild4 eX5_comeToRank_160 ?_
          refine a_iald eX5_comeToRank_162 (sh_day_9 (Or.inl rfl)) rfl (by omega) ?_
          refine a_eqtop (y0 := m 10 r + 1) (by rw [h3o _ _ (by omega)]; exact h2s) ?_
          refine a_iconst eX5_comeToRank_163 ?_
          refine a_isub eX5_comeToRank_164 ?_
          refine a_ild7 eX5_comeToRank_165 ?_
          refine a_isub eX5_comeToRank_167 ?_
          refine a_cV3 eX5_comeToRank_168 lk_X5_139 mV_X5_tell (sh_day (Or.inl rfl)) ⟨_, rfl, rfl⟩ mt_X5_tell rfl rfl rfl rfl rfl rfl rfl (c_X5_tell hR hD3 (wfCity_fr (frm_tr (rowD_frm (by omega) (rowD_ins x2a)) (frm_upr (by omega))) wC) (wf_ins x1 w1 (by omega) hk108 (by omega) (wfCab_xst wC hN.1 hX (Or.inr rfl)) rfl rfl) hN (c := c) (rk := r) (by
    have e4 : upr (mrow m r (btp m r) c) (100 + c) (xst m c r 1) 0 4 = m 0 4 := (upr_ne (by omega)).trans (mrow_ne (by omega) (by omega))
    rw [e4]; exact x1) (by rw [upr_eq]; rfl) (by omega) (fun σ4 hD4 fr4 => ?_))
          dsimp only [Option.toList, List.cons_append, List.nil_append]
          refine a_vret eX5_comeToRank_171 rfl rfl ⟨Nat.zero_le _, Nat.zero_le _⟩ ?_
          refine hk σ4 ?_ (frC_tr fr3 fr4)
          rw [show marr m c r = mtell (upr (mrow m r (btp m r) c) (100 + c) (xst m c r 1)) c r 1 (m 10 r - btp m r) from (if_pos ⟨(mayst_of_ls hC1 (by omega) hT39).mp hT50, by omega⟩).trans (if_pos (by omega))]
          rw [show (m 10 r - btp m r : Int) = m 10 r + 1 - 1 - btp m r by omega]
          exact hD4
    · skip
      refine a_vret eX5_comeToRank_72 rfl rfl ⟨Nat.zero_le _, Nat.zero_le _⟩ ?_
      refine hk σ1 ?_ fr1
      rw [show marr m c r = upr m (100 + c) (xem m c (m 1 r)) from if_neg (fun q => ?_)]
      · exact dayC_cab x1 (by omega) hD h1o h1f
      · first
          | exact hF50 ((mayst_of_ls hC1 (by omega) hT39).mpr q.1)
          | omega
  · skip
    dsimp only [Option.toList, List.cons_append, List.nil_append]
    refine a_if_eq 72 eX5_comeToRank_53 (by decide) (by omega) (fun _ => ?_) (fun h => absurd h (by decide))
    refine a_vret eX5_comeToRank_72 rfl rfl ⟨Nat.zero_le _, Nat.zero_le _⟩ ?_
    refine hk σ1 ?_ fr1
    rw [show marr m c r = upr m (100 + c) (xem m c (m 1 r)) from if_neg (fun q => ?_)]
    · exact dayC_cab x1 (by omega) hD h1o h1f
    · first
        | exact hF50 ((mayst_of_ls hC1 (by omega) hT39).mpr q.1)
        | omega
