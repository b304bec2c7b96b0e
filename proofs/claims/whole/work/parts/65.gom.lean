set_option maxHeartbeats 4000000 in
set_option maxRecDepth 100000 in
theorem lp_goM2 {l : Launch} {σ : aw_S} {Post : Option Value → aw_S → Prop} {tw cs : Bool} (hR : σ.2.2 = RF tw cs) {N g : Int} {m : mS} (hC : cityM σ m) (wC : wfCity m) (hM : dayM σ m) (hG : wfG m N g) (hg : 0 ≤ g ∧ g < 300) (hN : 0 ≤ N ∧ N ≤ 999) {nn k : Int} (hk : ∀ (σ' : aw_S) (c : Int) (lx : Option Value), dayM σ' (mmin m) → frM σ σ' → AW l yX10_go cX10_go 5 (some .int) 3 73 0 0 SH Post SH 0 0 (σ') 152 [some (.ref 171), some (.int (jI nn)), some (.int (jI k)), some (.int (jI c)), lx] [])  : ∀ (n : Nat) (i : Int) (σ1 : aw_S) (lx : Option Value), ((m 0 4 - i).toNat ≤ n) → (0 ≤ i ∧ i ≤ m 0 4) → (dayM σ1 (mcs (mtk m (m 0 4)) i.toNat)) → (frM σ σ1) → AW l yX10_go cX10_go 5 (some .int) 3 73 0 0 SH Post SH 0 0 (σ1) 81 [some (.ref 171), some (.int (jI nn)), some (.int (jI k)), some (.int (jI i)), lx] [] := by
  intro n
  induction n with
  | zero =>
    intro i σ1 lx hm hi hD1 fr1
    have h16 := (wfDay_0 hG.1).2.1
    have ht := wfG_tk (n := m 0 4) wC hN.1 hg ⟨h16.1, Int.le_refl _⟩ hG
    have hft := tk_frm (m := m) (n := m 0 4) h16
    have e4 : mtk m (m 0 4) 0 4 = m 0 4 := mtk_ne (by omega) (by omega)
    obtain ⟨i1, i2, i3, i4⟩ := mcs_all (wfCity_fr hft wC) hN.1 ht i.toNat (by rw [e4]; omega)
    have hf2 := frm_tr hft i2
    have wC2 := wfCity_fr hf2 wC
    have es := mcs_s (m := mtk m (m 0 4)) (i := i) (by omega)
    rw [e4] at i3
    obtain ⟨m2, hm2⟩ : ∃ m2, m2 = mcs (mtk m (m 0 4)) i.toNat := ⟨_, rfl⟩
    rw [← hm2] at i1 i2 i3 i4 hf2 wC2 es hD1
    have hR0 := hR
    have hR := frM_R fr1 hR
    have hC2 := cityM_m hf2 (cityM_s fr1 hC)
    obtain ⟨d1, d2, d3, d4, d5, d6, d7⟩ := id hD1
    obtain ⟨v1, v2, v3, v4, v5, v6, v7, v8⟩ := wfDay_0 i1.1
    simp only [Int.zero_add] at d4 d5 d6 d7
    refine a_ild3 eX10_go_81 ?_
    refine a_ald0 eX10_go_82 ?_
    refine a_getI 22 eX10_go_83 fl_X10_246 rfl rfl sh_171 ?_
    refine a_eqtop (y0 := m 0 4) (by rw [← i3]; exact d2) ?_
    refine a_icmp_ge 152 eX10_go_86 (by decide) (by omega) (fun hT86 => ?_) (fun hF86 => ?_)
    · skip
      refine hk σ1 i lx ?_ fr1
      unfold mmin
      rw [show (m 0 4).toNat = i.toNat by omega, ← hm2]
      exact hD1
    · skip
      exfalso; omega
  | succ n ih =>
    intro i σ1 lx hm hi hD1 fr1
    have h16 := (wfDay_0 hG.1).2.1
    have ht := wfG_tk (n := m 0 4) wC hN.1 hg ⟨h16.1, Int.le_refl _⟩ hG
    have hft := tk_frm (m := m) (n := m 0 4) h16
    have e4 : mtk m (m 0 4) 0 4 = m 0 4 := mtk_ne (by omega) (by omega)
    obtain ⟨i1, i2, i3, i4⟩ := mcs_all (wfCity_fr hft wC) hN.1 ht i.toNat (by rw [e4]; omega)
    have hf2 := frm_tr hft i2
    have wC2 := wfCity_fr hf2 wC
    have es := mcs_s (m := mtk m (m 0 4)) (i := i) (by omega)
    rw [e4] at i3
    obtain ⟨m2, hm2⟩ : ∃ m2, m2 = mcs (mtk m (m 0 4)) i.toNat := ⟨_, rfl⟩
    rw [← hm2] at i1 i2 i3 i4 hf2 wC2 es hD1
    have hR0 := hR
    have hR := frM_R fr1 hR
    have hC2 := cityM_m hf2 (cityM_s fr1 hC)
    obtain ⟨d1, d2, d3, d4, d5, d6, d7⟩ := id hD1
    obtain ⟨v1, v2, v3, v4, v5, v6, v7, v8⟩ := wfDay_0 i1.1
    simp only [Int.zero_add] at d4 d5 d6 d7
    refine a_ild3 eX10_go_81 ?_
    refine a_ald0 eX10_go_82 ?_
    refine a_getI 22 eX10_go_83 fl_X10_246 rfl rfl sh_171 ?_
    refine a_eqtop (y0 := m 0 4) (by rw [← i3]; exact d2) ?_
    refine a_icmp_ge 152 eX10_go_86 (by decide) (by omega) (fun hT86 => ?_) (fun hF86 => ?_)
    · skip
      refine hk σ1 i lx ?_ fr1
      unfold mmin
      rw [show (m 0 4).toNat = i.toNat by omega, ← hm2]
      exact hD1
    · skip
      have w5 := v5 i (by omega) (by omega)
      unfold wfCab at w5
      have kc := d5 i (by omega) (by omega)
      unfold cabM at kc
      obtain ⟨k0, k9, k1, k2, k3, k4, k5, k6, k7, k8, k10⟩ := kc
      refine a_ald0 eX10_go_89 ?_
      refine a_ild3 eX10_go_90 ?_
      refine a_iconst eX10_go_91 ?_
      refine a_cV2 eX10_go_92 lk_X10_276 mV_X10_of0 sh_171 ⟨_, rfl, rfl⟩ mt_X10_of0 rfl rfl rfl rfl rfl rfl (c_X10_of0 hR (by omega) ?_)
      dsimp only [Option.toList, List.cons_append, List.nil_append]
      refine a_eqtop (y0 := m2 (100 + i) 1) (by rw [Int.add_zero]; exact k0) ?_
      refine a_ist4 eX10_go_95 (by decide) aw_n2i ?_
      refine a_ild4 eX10_go_97 ?_
      refine a_iconst eX10_go_99 ?_
      refine a_icmp_eq 109 eX10_go_100 (by decide) (by omega) (fun hT100 => ?_) (fun hF100 => ?_)
      · skip
        refine a_ald0 eX10_go_109 ?_
        refine a_ild3 eX10_go_110 ?_
        refine a_iconst eX10_go_111 ?_
        refine a_cV2 eX10_go_112 lk_X10_276 mV_X10_of0 sh_171 ⟨_, rfl, rfl⟩ mt_X10_of0 rfl rfl rfl rfl rfl rfl (c_X10_of0 hR (by omega) ?_)
        dsimp only [Option.toList, List.cons_append, List.nil_append]
        have k3 := k3 (by omega)
        refine a_eqtop (y0 := m2 (100 + i) 4) (by exact k3) ?_
        refine a_ald0 eX10_go_115 ?_
        refine a_getI 21 eX10_go_116 fl_X10_243 rfl rfl sh_171 ?_
        refine a_eqtop (y0 := m2 0 3) (by exact d1) ?_
        refine a_icmp_eq 125 eX10_go_119 (by decide) (by omega) (fun hT119 => ?_) (fun hF119 => ?_)
        · skip
          refine a_ild4 eX10_go_125 ?_
          refine a_iconst eX10_go_127 ?_
          refine a_icmp_ne 141 eX10_go_128 (by decide) (by omega) (fun hT128 => ?_) (fun hF128 => ?_)
          · skip
            refine a_ald0 eX10_go_141 ?_
            refine a_ild3 eX10_go_142 ?_
            refine a_cV1 eX10_go_143 lk_X10_299 mV_X10_arrives sh_171 ⟨_, rfl, rfl⟩ mt_X10_arrives rfl rfl rfl rfl rfl (c_X10_arrives hR hC2 wC2 hD1 (wfD1_of i1.1 (by omega)) (comer_of i1.1 (by omega) (by omega)) (by omega) (by omega) (fun σ2 hD2 fr2 => ?_))
            dsimp only [Option.toList, List.cons_append, List.nil_append]
            refine a_iinc3 eX10_go_146 (by decide) aw_n2i ?_
            refine a_goto 81 eX10_go_149 (by decide) ?_
            exact ih (i + 1) σ2 _ (by omega) (by omega) (by rw [es, show mcome m2 i = marr m2 i (m2 (100 + i) 3) from (if_pos ⟨by omega, by omega⟩).trans (if_neg (by omega))]; exact hD2) (frM_tr fr1 fr2)
          · skip
            refine a_ald0 eX10_go_131 ?_
            refine a_ild3 eX10_go_132 ?_
            refine a_iconst eX10_go_133 ?_
            refine a_iconst eX10_go_134 ?_
            refine a_cV3 eX10_go_135 lk_X10_269 mV_X10_sets sh_171 ⟨_, rfl, rfl⟩ mt_X10_sets rfl rfl rfl rfl rfl rfl rfl (c_X10_sets hR (by omega) ?_)
            dsimp only [Option.toList, List.cons_append, List.nil_append]
            refine a_goto 146 eX10_go_138 (by decide) ?_
            refine a_iinc3 eX10_go_146 (by decide) aw_n2i ?_
            refine a_goto 81 eX10_go_149 (by decide) ?_
            refine ih (i + 1) _ _ (by omega) (by omega) ?_ (frM_tr fr1 ⟨fun a j h h9 => by simp only [rd_si, rd_sa]; (repeat rw [if_neg (by omega)]), rfl⟩)
            rw [es, show mcome m2 i = upr m2 (100 + i) (xem m2 i (m2 (100 + i) 2)) from (if_pos ⟨by omega, by omega⟩).trans (if_pos (by omega))]
            refine dayM_cab (by omega) (by omega) hD1 (fun a j q => by simp only [rd_si]; (repeat rw [if_neg (by omega)])) ?_
            unfold cabM
            simp only [rd_si, true_and, Int.add_zero, xem]
            refine ⟨?_, ?_, ?_, ?_, ?_, ?_, ?_, ?_, ?_, ?_, ?_⟩
            · (repeat (first | rw [if_pos (by omega)] | rw [if_neg (by omega)] | rw [if_pos True.intro])); (first | done | rfl)
            · (repeat (first | rw [if_pos (by omega)] | rw [if_neg (by omega)] | rw [if_pos True.intro])); (first | done | exact k9)
            · intro q; (repeat (first | rw [if_pos (by omega)] | rw [if_neg (by omega)] | rw [if_pos True.intro])); (first | done | exact k1 (Or.inr (by omega)))
            · intro q; simp at q
            · intro q; simp at q
            · (repeat (first | rw [if_pos (by omega)] | rw [if_neg (by omega)] | rw [if_pos True.intro])); (first | done | exact k4)
            · (repeat (first | rw [if_pos (by omega)] | rw [if_neg (by omega)] | rw [if_pos True.intro])); (first | done | exact k5)
            · (repeat (first | rw [if_pos (by omega)] | rw [if_neg (by omega)] | rw [if_pos True.intro])); (first | done | exact k6)
            · (repeat (first | rw [if_pos (by omega)] | rw [if_neg (by omega)] | rw [if_pos True.intro])); (first | done | exact k7)
            · (repeat (first | rw [if_pos (by omega)] | rw [if_neg (by omega)] | rw [if_pos True.intro])); (first | done | exact k8)
            · (repeat (first | rw [if_pos (by omega)] | rw [if_neg (by omega)] | rw [if_pos True.intro])); (first | done | exact k10)
        · skip
          refine a_goto 146 eX10_go_122 (by decide) ?_
          refine a_iinc3 eX10_go_146 (by decide) aw_n2i ?_
          refine a_goto 81 eX10_go_149 (by decide) ?_
          exact ih (i + 1) σ1 _ (by omega) (by omega) (by rw [es, come_no (fun q => by omega)]; exact hD1) fr1
      · skip
        refine a_ild4 eX10_go_103 ?_
        refine a_iconst eX10_go_105 ?_
        refine a_icmp_ne 146 eX10_go_106 (by decide) (by omega) (fun hT106 => ?_) (fun hF106 => ?_)
        · skip
          refine a_iinc3 eX10_go_146 (by decide) aw_n2i ?_
          refine a_goto 81 eX10_go_149 (by decide) ?_
          exact ih (i + 1) σ1 _ (by omega) (by omega) (by rw [es, come_no (fun q => by omega)]; exact hD1) fr1
        · skip
          refine a_ald0 eX10_go_109 ?_
          refine a_ild3 eX10_go_110 ?_
          refine a_iconst eX10_go_111 ?_
          refine a_cV2 eX10_go_112 lk_X10_276 mV_X10_of0 sh_171 ⟨_, rfl, rfl⟩ mt_X10_of0 rfl rfl rfl rfl rfl rfl (c_X10_of0 hR (by omega) ?_)
          dsimp only [Option.toList, List.cons_append, List.nil_append]
          have k3 := k3 (by omega)
          refine a_eqtop (y0 := m2 (100 + i) 4) (by exact k3) ?_
          refine a_ald0 eX10_go_115 ?_
          refine a_getI 21 eX10_go_116 fl_X10_243 rfl rfl sh_171 ?_
          refine a_eqtop (y0 := m2 0 3) (by exact d1) ?_
          refine a_icmp_eq 125 eX10_go_119 (by decide) (by omega) (fun hT119 => ?_) (fun hF119 => ?_)
          · skip
            refine a_ild4 eX10_go_125 ?_
            refine a_iconst eX10_go_127 ?_
            refine a_icmp_ne 141 eX10_go_128 (by decide) (by omega) (fun hT128 => ?_) (fun hF128 => ?_)
            · skip
              refine a_ald0 eX10_go_141 ?_
              refine a_ild3 eX10_go_142 ?_
              refine a_cV1 eX10_go_143 lk_X10_299 mV_X10_arrives sh_171 ⟨_, rfl, rfl⟩ mt_X10_arrives rfl rfl rfl rfl rfl (c_X10_arrives hR hC2 wC2 hD1 (wfD1_of i1.1 (by omega)) (comer_of i1.1 (by omega) (by omega)) (by omega) (by omega) (fun σ2 hD2 fr2 => ?_))
              dsimp only [Option.toList, List.cons_append, List.nil_append]
              refine a_iinc3 eX10_go_146 (by decide) aw_n2i ?_
              refine a_goto 81 eX10_go_149 (by decide) ?_
              exact ih (i + 1) σ2 _ (by omega) (by omega) (by rw [es, show mcome m2 i = marr m2 i (m2 (100 + i) 3) from (if_pos ⟨by omega, by omega⟩).trans (if_neg (by omega))]; exact hD2) (frM_tr fr1 fr2)
            · skip
              refine a_ald0 eX10_go_131 ?_
              refine a_ild3 eX10_go_132 ?_
              refine a_iconst eX10_go_133 ?_
              refine a_iconst eX10_go_134 ?_
              refine a_cV3 eX10_go_135 lk_X10_269 mV_X10_sets sh_171 ⟨_, rfl, rfl⟩ mt_X10_sets rfl rfl rfl rfl rfl rfl rfl (c_X10_sets hR (by omega) ?_)
              dsimp only [Option.toList, List.cons_append, List.nil_append]
              refine a_goto 146 eX10_go_138 (by decide) ?_
              refine a_iinc3 eX10_go_146 (by decide) aw_n2i ?_
              refine a_goto 81 eX10_go_149 (by decide) ?_
              refine ih (i + 1) _ _ (by omega) (by omega) ?_ (frM_tr fr1 ⟨fun a j h h9 => by simp only [rd_si, rd_sa]; (repeat rw [if_neg (by omega)]), rfl⟩)
              rw [es, show mcome m2 i = upr m2 (100 + i) (xem m2 i (m2 (100 + i) 2)) from (if_pos ⟨by omega, by omega⟩).trans (if_pos (by omega))]
              refine dayM_cab (by omega) (by omega) hD1 (fun a j q => by simp only [rd_si]; (repeat rw [if_neg (by omega)])) ?_
              unfold cabM
              simp only [rd_si, true_and, Int.add_zero, xem]
              refine ⟨?_, ?_, ?_, ?_, ?_, ?_, ?_, ?_, ?_, ?_, ?_⟩
              · (repeat (first | rw [if_pos (by omega)] | rw [if_neg (by omega)] | rw [if_pos True.intro])); (first | done | rfl)
              · (repeat (first | rw [if_pos (by omega)] | rw [if_neg (by omega)] | rw [if_pos True.intro])); (first | done | exact k9)
              · intro q; (repeat (first | rw [if_pos (by omega)] | rw [if_neg (by omega)] | rw [if_pos True.intro])); (first | done | exact k1 (Or.inr (by omega)))
              · intro q; simp at q
              · intro q; simp at q
              · (repeat (first | rw [if_pos (by omega)] | rw [if_neg (by omega)] | rw [if_pos True.intro])); (first | done | exact k4)
              · (repeat (first | rw [if_pos (by omega)] | rw [if_neg (by omega)] | rw [if_pos True.intro])); (first | done | exact k5)
              · (repeat (first | rw [if_pos (by omega)] | rw [if_neg (by omega)] | rw [if_pos True.intro])); (first | done | exact k6)
              · (repeat (first | rw [if_pos (by omega)] | rw [if_neg (by omega)] | rw [if_pos True.intro])); (first | done | exact k7)
              · (repeat (first | rw [if_pos (by omega)] | rw [if_neg (by omega)] | rw [if_pos True.intro])); (first | done | exact k8)
              · (repeat (first | rw [if_pos (by omega)] | rw [if_neg (by omega)] | rw [if_pos True.intro])); (first | done | exact k10)
          · skip
            refine a_goto 146 eX10_go_122 (by decide) ?_
            refine a_iinc3 eX10_go_146 (by decide) aw_n2i ?_
            refine a_goto 81 eX10_go_149 (by decide) ?_
            exact ih (i + 1) σ1 _ (by omega) (by omega) (by rw [es, come_no (fun q => by omega)]; exact hD1) fr1

set_option maxHeartbeats 4000000 in
set_option maxRecDepth 100000 in
theorem lp_goM1 {l : Launch} {σ : aw_S} {Post : Option Value → aw_S → Prop} {tw cs : Bool} (hR : σ.2.2 = RF tw cs) {N g : Int} {m : mS} (hC : cityM σ m) (wC : wfCity m) (hM : dayM σ m) (hG : wfG m N g) (hg : 0 ≤ g ∧ g < 300) (hN : 0 ≤ N ∧ N ≤ 999) {nn k : Int} (hk : ∀ (σ' : aw_S) (c : Int) (lx : Option Value), dayM σ' (mmin m) → frM σ σ' → AW l yX10_go cX10_go 5 (some .int) 3 73 0 0 SH Post SH 0 0 (σ') 152 [some (.ref 171), some (.int (jI nn)), some (.int (jI k)), some (.int (jI c)), lx] [])  : ∀ (n : Nat) (i : Int) (σ1 : aw_S) (lx : Option Value), ((m 0 4 - i).toNat ≤ n) → (0 ≤ i ∧ i ≤ m 0 4) → (dayM σ1 (mtk m i)) → (frM σ σ1) → AW l yX10_go cX10_go 5 (some .int) 3 73 0 0 SH Post SH 0 0 (σ1) 39 [some (.ref 171), some (.int (jI nn)), some (.int (jI k)), some (.int (jI i)), lx] [] := by
  intro n
  induction n with
  | zero =>
    intro i σ1 lx hm hi hD1 fr1
    have h16 := (wfDay_0 hG.1).2.1
    have ht := wfG_tk (n := i) wC hN.1 hg hi hG
    have es := mtk_s (m := m) (n := i) (by omega)
    have u04 : mtk m i 0 4 = m 0 4 := mtk_ne (by omega) (by omega)
    have uc : ∀ f : Int, mtk m i (100 + i) f = m (100 + i) f := fun f => mtk_ne (by omega) (by omega)
    have uc2 : mtk m i (100 + i) = m (100 + i) := funext uc
    have hR0 := hR
    have hR := frM_R fr1 hR
    obtain ⟨d1, d2, d3, d4, d5, d6, d7⟩ := id hD1
    obtain ⟨v1, v2, v3, v4, v5, v6, v7, v8⟩ := wfDay_0 ht.1
    simp only [Int.zero_add] at d4 d5 d6 d7
    rw [u04] at d2 d5
    have d5 := d5 i
    rw [uc2] at d5
    refine a_ild3 eX10_go_39 ?_
    refine a_ald0 eX10_go_40 ?_
    refine a_getI 22 eX10_go_41 fl_X10_246 rfl rfl sh_171 ?_
    refine a_eqtop (y0 := m 0 4) (by exact d2) ?_
    refine a_icmp_ge 79 eX10_go_44 (by decide) (by omega) (fun hT44 => ?_) (fun hF44 => ?_)
    · skip
      refine a_iconst eX10_go_79 ?_
      refine a_ist3 eX10_go_80 (by decide) aw_n2i ?_
      refine lp_goM2 hR0 hC wC hM hG hg hN hk _ 0 σ1 lx (Nat.le_refl _) (by omega) ?_ fr1
      show dayM σ1 (mtk m (m 0 4))
      rw [show m 0 4 = i by omega]
      exact hD1
    · skip
      exfalso; omega
  | succ n ih =>
    intro i σ1 lx hm hi hD1 fr1
    have h16 := (wfDay_0 hG.1).2.1
    have ht := wfG_tk (n := i) wC hN.1 hg hi hG
    have es := mtk_s (m := m) (n := i) (by omega)
    have u04 : mtk m i 0 4 = m 0 4 := mtk_ne (by omega) (by omega)
    have uc : ∀ f : Int, mtk m i (100 + i) f = m (100 + i) f := fun f => mtk_ne (by omega) (by omega)
    have uc2 : mtk m i (100 + i) = m (100 + i) := funext uc
    have hR0 := hR
    have hR := frM_R fr1 hR
    obtain ⟨d1, d2, d3, d4, d5, d6, d7⟩ := id hD1
    obtain ⟨v1, v2, v3, v4, v5, v6, v7, v8⟩ := wfDay_0 ht.1
    simp only [Int.zero_add] at d4 d5 d6 d7
    rw [u04] at d2 d5
    have d5 := d5 i
    rw [uc2] at d5
    refine a_ild3 eX10_go_39 ?_
    refine a_ald0 eX10_go_40 ?_
    refine a_getI 22 eX10_go_41 fl_X10_246 rfl rfl sh_171 ?_
    refine a_eqtop (y0 := m 0 4) (by exact d2) ?_
    refine a_icmp_ge 79 eX10_go_44 (by decide) (by omega) (fun hT44 => ?_) (fun hF44 => ?_)
    · skip
      refine a_iconst eX10_go_79 ?_
      refine a_ist3 eX10_go_80 (by decide) aw_n2i ?_
      refine lp_goM2 hR0 hC wC hM hG hg hN hk _ 0 σ1 lx (Nat.le_refl _) (by omega) ?_ fr1
      show dayM σ1 (mtk m (m 0 4))
      rw [show m 0 4 = i by omega]
      exact hD1
    · skip
      have w5 := v5 i (by omega) (by omega)
      unfold wfCab at w5
      rw [uc2] at w5
      have kc := d5 (by omega) (by omega)
      unfold cabM at kc
      obtain ⟨k0, k9, k1, k2, k3, k4, k5, k6, k7, k8, k10⟩ := kc
      refine a_ald0 eX10_go_47 ?_
      refine a_ild3 eX10_go_48 ?_
      refine a_iconst eX10_go_49 ?_
      refine a_cV2 eX10_go_50 lk_X10_276 mV_X10_of0 sh_171 ⟨_, rfl, rfl⟩ mt_X10_of0 rfl rfl rfl rfl rfl rfl (c_X10_of0 hR (by omega) ?_)
      dsimp only [Option.toList, List.cons_append, List.nil_append]
      refine a_eqtop (y0 := m (100 + i) 1) (by rw [Int.add_zero]; exact k0) ?_
      refine a_iconst eX10_go_53 ?_
      refine a_icmp_ne 73 eX10_go_54 (by decide) (by omega) (fun hT54 => ?_) (fun hF54 => ?_)
      · skip
        refine a_iinc3 eX10_go_73 (by decide) aw_n2i ?_
        refine a_goto 39 eX10_go_76 (by decide) ?_
        exact ih (i + 1) σ1 _ (by omega) (by omega) (by rw [es, if_neg (by omega)]; exact hD1) fr1
      · skip
        refine a_ald0 eX10_go_57 ?_
        refine a_ild3 eX10_go_58 ?_
        refine a_bipush eX10_go_59 (by decide) ?_
        refine a_ald0 eX10_go_61 ?_
        refine a_ild3 eX10_go_62 ?_
        refine a_bipush eX10_go_63 (by decide) ?_
        refine a_cV2 eX10_go_65 lk_X10_276 mV_X10_of0 sh_171 ⟨_, rfl, rfl⟩ mt_X10_of0 rfl rfl rfl rfl rfl rfl (c_X10_of0 hR (by omega) ?_)
        dsimp only [Option.toList, List.cons_append, List.nil_append]
        refine a_eqtop (y0 := m (100 + i) 8) (by exact k7) ?_
        refine a_iconst eX10_go_68 ?_
        refine a_iadd eX10_go_69 ?_
        refine a_cV3 eX10_go_70 lk_X10_269 mV_X10_sets sh_171 ⟨_, rfl, rfl⟩ mt_X10_sets rfl rfl rfl rfl rfl rfl rfl (c_X10_sets hR (by omega) ?_)
        dsimp only [Option.toList, List.cons_append, List.nil_append]
        refine a_iinc3 eX10_go_73 (by decide) aw_n2i ?_
        refine a_goto 39 eX10_go_76 (by decide) ?_
        refine ih (i + 1) _ _ (by omega) (by omega) ?_ (frM_tr fr1 ⟨fun a j h h9 => by simp only [rd_si, rd_sa]; (repeat rw [if_neg (by omega)]), rfl⟩)
        rw [es, if_pos (by omega)]
        refine dayM_cab (by omega) (by omega) hD1 (fun a j q => by simp only [rd_si]; (repeat rw [if_neg (by omega)])) ?_
        unfold cabM
        simp only [rd_si, true_and, Int.add_zero, xwt]
        refine ⟨?_, ?_, ?_, ?_, ?_, ?_, ?_, ?_, ?_, ?_, ?_⟩
        · (repeat (first | rw [if_pos (by omega)] | rw [if_neg (by omega)] | rw [if_pos True.intro])); (first | done | exact k0)
        · (repeat (first | rw [if_pos (by omega)] | rw [if_neg (by omega)] | rw [if_pos True.intro])); (first | done | exact k9)
        · intro q; (repeat (first | rw [if_pos (by omega)] | rw [if_neg (by omega)] | rw [if_pos True.intro])); (first | done | exact k1 q)
        · intro q; (repeat (first | rw [if_pos (by omega)] | rw [if_neg (by omega)] | rw [if_pos True.intro])); (first | done | exact k2 q)
        · intro q; (repeat (first | rw [if_pos (by omega)] | rw [if_neg (by omega)] | rw [if_pos True.intro])); (first | done | exact k3 q)
        · (repeat (first | rw [if_pos (by omega)] | rw [if_neg (by omega)] | rw [if_pos True.intro])); (first | done | exact k4)
        · (repeat (first | rw [if_pos (by omega)] | rw [if_neg (by omega)] | rw [if_pos True.intro])); (first | done | exact k5)
        · (repeat (first | rw [if_pos (by omega)] | rw [if_neg (by omega)] | rw [if_pos True.intro])); (first | done | exact k6)
        · (repeat (first | rw [if_pos (by omega)] | rw [if_neg (by omega)] | rw [if_pos True.intro])); (first | done | rfl)
        · (repeat (first | rw [if_pos (by omega)] | rw [if_neg (by omega)] | rw [if_pos True.intro])); (first | done | exact k8)
        · (repeat (first | rw [if_pos (by omega)] | rw [if_neg (by omega)] | rw [if_pos True.intro])); (first | done | exact k10)

set_option maxHeartbeats 4000000 in
set_option maxRecDepth 100000 in
theorem lp_goM {l : Launch} {σ : aw_S} {Post : Option Value → aw_S → Prop} {tw cs : Bool} (hR : σ.2.2 = RF tw cs) {m : mS} (hM : cityM σ m) (wC : wfCity m) {N : Int} (hM2 : dayM σ m) (wD : wfDay m 0 N) (hN : 0 ≤ N ∧ N ≤ 1000) (hN9 : N ≤ 999) {nn : Int} (hv : vgo m nn) (h1 : vgo m nn → ∀ σ', dayM σ' (mgo m nn.toNat) → frM σ σ' → Post (some (.int (jI (m 0 3 + nn)))) σ')  : ∀ (n : Nat) (i : Int) (σ1 : aw_S) (lx : Option Value) (ly : Option Value), ((nn - i).toNat ≤ n) → (0 ≤ i ∧ i ≤ nn) → (dayM σ1 (mgo m i.toNat)) → (frM σ σ1) → AW l yX10_go cX10_go 5 (some .int) 3 73 0 0 SH Post SH 0 0 (σ1) 22 [some (.ref 171), some (.int (jI nn)), some (.int (jI i)), lx, ly] [] := by
  intro n
  induction n with
  | zero =>
    intro i σ1 lx ly hm hi hD1 fr1
    have hv' := id hv
    unfold vgo at hv'
    obtain ⟨i1, i2, i3⟩ := go_wf wC hN.1 wD i.toNat (by omega)
    have wC2 := wfCity_fr i2 wC
    have es := mgo_s (m := m) (i := i) (by omega)
    rw [show ((i.toNat : Nat) : Int) = i by omega] at i1 i3
    have hR := frM_R fr1 hR
    have hC2 := cityM_m i2 (cityM_s fr1 hM)
    refine a_ild2 eX10_go_22 ?_
    refine a_ild1 eX10_go_23 ?_
    refine a_icmp_ge 158 eX10_go_24 (by decide) (by omega) (fun hT24 => ?_) (fun hF24 => ?_)
    · skip
      refine a_ald0 eX10_go_158 ?_
      refine a_getI 21 eX10_go_159 fl_X10_243 rfl rfl sh_171 ?_
      refine a_eqtop (y0 := m 0 3 + nn) (by rw [hD1.1, i3]; omega) ?_
      refine a_iret eX10_go_162 rfl rfl ⟨Nat.zero_le _, Nat.zero_le _⟩ ?_
      refine h1 hv σ1 ?_ fr1
      rw [show nn = i by omega]
      exact hD1
    · skip
      exfalso; omega
  | succ n ih =>
    intro i σ1 lx ly hm hi hD1 fr1
    have hv' := id hv
    unfold vgo at hv'
    obtain ⟨i1, i2, i3⟩ := go_wf wC hN.1 wD i.toNat (by omega)
    have wC2 := wfCity_fr i2 wC
    have es := mgo_s (m := m) (i := i) (by omega)
    rw [show ((i.toNat : Nat) : Int) = i by omega] at i1 i3
    have hR := frM_R fr1 hR
    have hC2 := cityM_m i2 (cityM_s fr1 hM)
    refine a_ild2 eX10_go_22 ?_
    refine a_ild1 eX10_go_23 ?_
    refine a_icmp_ge 158 eX10_go_24 (by decide) (by omega) (fun hT24 => ?_) (fun hF24 => ?_)
    · skip
      refine a_ald0 eX10_go_158 ?_
      refine a_getI 21 eX10_go_159 fl_X10_243 rfl rfl sh_171 ?_
      refine a_eqtop (y0 := m 0 3 + nn) (by rw [hD1.1, i3]; omega) ?_
      refine a_iret eX10_go_162 rfl rfl ⟨Nat.zero_le _, Nat.zero_le _⟩ ?_
      refine h1 hv σ1 ?_ fr1
      rw [show nn = i by omega]
      exact hD1
    · skip
      refine a_ald0 eX10_go_27 ?_
      refine a_dup eX10_go_28 rfl ?_
      refine a_getI 21 eX10_go_29 fl_X10_243 rfl rfl sh_171 ?_
      refine a_eqtop (y0 := mgo m i.toNat 0 3) (by exact hD1.1) ?_
      refine a_iconst eX10_go_32 ?_
      refine a_iadd eX10_go_33 ?_
      refine a_putI 21 eX10_go_34 fl_X10_243 rfl rfl sh_171 (fun q h => Or.inl (by cases h; rfl)) ?_
      refine a_iconst eX10_go_37 ?_
      refine a_ist3 eX10_go_38 (by decide) aw_n2i ?_
      refine lp_goM1 hR hC2 wC2 hD1 i1 (by omega) (by omega) (fun σ2 c l4 hD2 fr2 => ?_) _ 0 _ ly (Nat.le_refl _) (by have := (wfDay_0 i1.1).2.1; omega) (dayM_min hD1 (wfDay_0 i1.1).2.1.2 (fun a j q => by simp only [rd_si]; rw [if_neg q]) rd_si_eq) ⟨fun a j h h9 => by simp only [rd_si, rd_sa]; (repeat rw [if_neg (by omega)]), rfl⟩
      have hR := frM_R fr2 hR
      refine a_iinc2 eX10_go_152 (by decide) aw_n2i ?_
      refine a_goto 22 eX10_go_155 (by decide) ?_
      exact ih (i + 1) σ2 _ _ (by omega) (by omega) (by rw [es]; exact hD2) (frM_tr fr1 fr2)

set_option maxHeartbeats 4000000 in
set_option maxRecDepth 100000 in
theorem c_X10_go {l : Launch} {σ : aw_S} {Post : Option Value → aw_S → Prop} {tw cs : Bool} (hR : σ.2.2 = RF tw cs) {m : mS} (hM : cityM σ m) (wC : wfCity m) {N : Int} (hM2 : dayM σ m) (wD : wfDay m 0 N) (hN : 0 ≤ N ∧ N ≤ 1000) (hN9 : N ≤ 999) {nn : Int} (hr : (-2147483648 ≤ nn ∧ nn ≤ 2147483647)) (h1 : vgo m nn → ∀ σ', dayM σ' (mgo m nn.toNat) → frM σ σ' → Post (some (.int (jI (m 0 3 + nn)))) σ') (h0 : ¬ vgo m nn → Post (some (.int (jI (-1)))) σ) : AE l yX10_go cX10_go 5 (some .int) 3 73 0 0 SH SH σ [.ref 171, .int (jI nn)] Post := by
  show AW l yX10_go cX10_go 5 (some .int) 3 73 0 0 SH Post SH 0 0 σ 0 [some (.ref 171), some (.int (jI nn)), none, none, none] []
  obtain ⟨c1, c2, c3, c4, c5, c6, c7⟩ := id hM
  obtain ⟨w1, w2, w3, w4, w5, w6, w7, w8⟩ := id wC
  obtain ⟨d1, d2, d3, d4, d5, d6, d7⟩ := id hM2
  obtain ⟨v1, v2, v3, v4, v5, v6, v7, v8⟩ := id wD
  simp only [Int.zero_add] at d4 d5 d6 d7 v4 v5 v6 v7 v8
  refine a_ald0 eX10_go_0 ?_
  refine a_getI 14 eX10_go_1 fl_X10_235 rfl rfl sh_171 ?_
  refine a_if_eq 18 eX10_go_4 (by decide) (by omega) (fun hT4 => ?_) (fun hF4 => ?_)
  · skip
    refine a_iconst eX10_go_18 ?_
    refine a_iret eX10_go_19 rfl rfl ⟨Nat.zero_le _, Nat.zero_le _⟩ ?_
    exact h0 (fun q => by unfold vgo at q; omega)
  · skip
    refine a_ild1 eX10_go_7 ?_
    refine a_iconst eX10_go_8 ?_
    refine a_sipush eX10_go_9 (by decide) ?_
    refine a_cS3 eX10_go_12 lk_X10_128 mS_X10_in mt_X10_in rfl rfl rfl rfl rfl rfl rfl (c_X10_in (by omega) (fun hT12 => ?_) (fun hF12 => ?_))
    · skip
      dsimp only [Option.toList, List.cons_append, List.nil_append]
      refine a_if_ne 20 eX10_go_15 (by decide) (by omega) (fun _ => ?_) (fun h => absurd h (by decide))
      refine a_iconst eX10_go_20 ?_
      refine a_ist2 eX10_go_21 (by decide) aw_n2i ?_
      exact lp_goM hR hM wC hM2 wD hN hN9 ⟨by omega, by omega⟩ h1 _ 0 σ _ _ (Nat.le_refl _) (by omega) hM2 (frM_rf σ)
    · skip
      dsimp only [Option.toList, List.cons_append, List.nil_append]
      refine a_if_ne 20 eX10_go_15 (by decide) (by omega) (fun h => absurd h (by decide)) (fun _ => ?_)
      refine a_iconst eX10_go_18 ?_
      refine a_iret eX10_go_19 rfl rfl ⟨Nat.zero_le _, Nat.zero_le _⟩ ?_
      exact h0 (fun q => by unfold vgo at q; omega)
