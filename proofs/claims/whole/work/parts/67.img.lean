/-! ===== images: days copied ===== -/
/-- cells from d on, as many as a day has, may have changed -/
def frD (d : Nat) (σ σ' : aw_S) : Prop := (∀ (a : Nat) (j : Int), ¬ (d ≤ a ∧ a < d + 28) → σ'.1 a j = σ.1 a j) ∧ σ'.2 = σ.2
theorem frD_rf (d : Nat) (σ : aw_S) : frD d σ σ := ⟨fun _ _ _ => rfl, rfl⟩
theorem frD_tr {d : Nat} {σ σ1 σ2 : aw_S} (h1 : frD d σ σ1) (h2 : frD d σ1 σ2) : frD d σ σ2 := ⟨fun a j h => (h2.1 a j h).trans (h1.1 a j h), h2.2.trans h1.2⟩
theorem day_apart {d e : Nat} (h1 : isDay d) (h2 : isDay e) (h : d ≠ e) : d + 28 ≤ e ∨ e + 28 ≤ d := by
  rcases h1 with rfl | rfl | rfl | rfl <;> rcases h2 with rfl | rfl | rfl | rfl <;> omega
theorem dayC_cong {σ σ' : aw_S} {d : Nat} {b : Int} {m : mS} (h4 : m b 4 ≤ 16) (h : dayC σ d b m) (he : ∀ (a : Nat) (j : Int), d ≤ a → a < d + 28 → σ'.1 a j = σ.1 a j) : dayC σ' d b m := by
  obtain ⟨d1, d2, d3, d4, d5, d6, d7⟩ := h
  refine ⟨?_, ?_, ?_, fun q q1 q2 => ?_, fun e f e1 e2 f1 f2 => ?_, fun q k q1 q2 k1 k2 => ?_, fun i w i1 i2 w1 w2 => ?_⟩
  · rw [he _ _ (by omega) (by omega)]; exact d1
  · rw [he _ _ (by omega) (by omega)]; exact d2
  · rw [he _ _ (by omega) (by omega)]; exact d3
  · rw [he _ _ (by omega) (by omega), he _ _ (by omega) (by omega)]; exact d4 q q1 q2
  · rw [he _ _ (by omega) (by omega)]; exact d5 e f e1 e2 f1 f2
  · rw [he _ _ (by omega) (by omega)]; exact d6 q k q1 q2 k1 k2
  · rw [he _ _ (by omega) (by omega)]; exact d7 i w i1 i2 w1 w2
set_option maxHeartbeats 4000000 in
set_option maxRecDepth 100000 in
theorem c_X2_copyFrom {l : Launch} {σ : aw_S} {Post : Option Value → aw_S → Prop} {a1 a2 : Nat} (hs1 : SH[a1]? = some (.inl 2)) (hs2 : SH[a2]? = some (.inl 2)) (hne : a1 ≠ a2) (hb : σ.1 a2 10 = 0 ∨ σ.1 a2 10 = 1) (hk : ∀ σ', (∀ (a : Nat) (j : Int), a ≠ a1 → σ'.1 a j = σ.1 a j) → (∀ f : Int, 0 ≤ f → f < 11 → σ'.1 a1 f = σ.1 a2 f) → σ'.2 = σ.2 → Post none σ') : AE l yX2_copyFrom cX2_copyFrom 2 (none : Option Jvm.ClassFile.FieldType) 0 0 0 0 SH SH σ [.ref a1, .ref a2] Post := by
  show AW l yX2_copyFrom cX2_copyFrom 2 (none : Option Jvm.ClassFile.FieldType) 0 0 0 0 SH Post SH 0 0 σ 0 [some (.ref a1), some (.ref a2)] []
  refine a_ald0 eX2_copyFrom_0 ?_
  refine a_ald1 eX2_copyFrom_1 ?_
  refine a_getI 0 eX2_copyFrom_2 fl_X2_9 rfl rfl hs2 ?_
  refine a_putI 0 eX2_copyFrom_5 fl_X2_9 rfl rfl hs1 (fun q h => Or.inl (by cases h; rfl)) ?_
  refine a_ald0 eX2_copyFrom_8 ?_
  refine a_ald1 eX2_copyFrom_9 ?_
  refine a_getI 1 eX2_copyFrom_10 fl_X2_38 rfl rfl hs2 ?_
  refine a_eqtop (y0 := σ.1 a2 1) (by simp only [rd_si, rd_sa, and_self, true_and, and_true, ↓reduceIte]; (repeat (first | rw [if_pos (by omega)] | rw [if_neg (by omega)]))) ?_
  refine a_putI 1 eX2_copyFrom_13 fl_X2_38 rfl rfl hs1 (fun q h => Or.inl (by cases h; rfl)) ?_
  refine a_ald0 eX2_copyFrom_16 ?_
  refine a_ald1 eX2_copyFrom_17 ?_
  refine a_getI 2 eX2_copyFrom_18 fl_X2_41 rfl rfl hs2 ?_
  refine a_eqtop (y0 := σ.1 a2 2) (by simp only [rd_si, rd_sa, and_self, true_and, and_true, ↓reduceIte]; (repeat (first | rw [if_pos (by omega)] | rw [if_neg (by omega)]))) ?_
  refine a_putI 2 eX2_copyFrom_21 fl_X2_41 rfl rfl hs1 (fun q h => Or.inl (by cases h; rfl)) ?_
  refine a_ald0 eX2_copyFrom_24 ?_
  refine a_ald1 eX2_copyFrom_25 ?_
  refine a_getI 3 eX2_copyFrom_26 fl_X2_44 rfl rfl hs2 ?_
  refine a_eqtop (y0 := σ.1 a2 3) (by simp only [rd_si, rd_sa, and_self, true_and, and_true, ↓reduceIte]; (repeat (first | rw [if_pos (by omega)] | rw [if_neg (by omega)]))) ?_
  refine a_putI 3 eX2_copyFrom_29 fl_X2_44 rfl rfl hs1 (fun q h => Or.inl (by cases h; rfl)) ?_
  refine a_ald0 eX2_copyFrom_32 ?_
  refine a_ald1 eX2_copyFrom_33 ?_
  refine a_getI 4 eX2_copyFrom_34 fl_X2_47 rfl rfl hs2 ?_
  refine a_eqtop (y0 := σ.1 a2 4) (by simp only [rd_si, rd_sa, and_self, true_and, and_true, ↓reduceIte]; (repeat (first | rw [if_pos (by omega)] | rw [if_neg (by omega)]))) ?_
  refine a_putI 4 eX2_copyFrom_37 fl_X2_47 rfl rfl hs1 (fun q h => Or.inl (by cases h; rfl)) ?_
  refine a_ald0 eX2_copyFrom_40 ?_
  refine a_ald1 eX2_copyFrom_41 ?_
  refine a_getI 5 eX2_copyFrom_42 fl_X2_15 rfl rfl hs2 ?_
  refine a_eqtop (y0 := σ.1 a2 5) (by simp only [rd_si, rd_sa, and_self, true_and, and_true, ↓reduceIte]; (repeat (first | rw [if_pos (by omega)] | rw [if_neg (by omega)]))) ?_
  refine a_putI 5 eX2_copyFrom_45 fl_X2_15 rfl rfl hs1 (fun q h => Or.inl (by cases h; rfl)) ?_
  refine a_ald0 eX2_copyFrom_48 ?_
  refine a_ald1 eX2_copyFrom_49 ?_
  refine a_getI 6 eX2_copyFrom_50 fl_X2_18 rfl rfl hs2 ?_
  refine a_eqtop (y0 := σ.1 a2 6) (by simp only [rd_si, rd_sa, and_self, true_and, and_true, ↓reduceIte]; (repeat (first | rw [if_pos (by omega)] | rw [if_neg (by omega)]))) ?_
  refine a_putI 6 eX2_copyFrom_53 fl_X2_18 rfl rfl hs1 (fun q h => Or.inl (by cases h; rfl)) ?_
  refine a_ald0 eX2_copyFrom_56 ?_
  refine a_ald1 eX2_copyFrom_57 ?_
  refine a_getI 7 eX2_copyFrom_58 fl_X2_21 rfl rfl hs2 ?_
  refine a_eqtop (y0 := σ.1 a2 7) (by simp only [rd_si, rd_sa, and_self, true_and, and_true, ↓reduceIte]; (repeat (first | rw [if_pos (by omega)] | rw [if_neg (by omega)]))) ?_
  refine a_putI 7 eX2_copyFrom_61 fl_X2_21 rfl rfl hs1 (fun q h => Or.inl (by cases h; rfl)) ?_
  refine a_ald0 eX2_copyFrom_64 ?_
  refine a_ald1 eX2_copyFrom_65 ?_
  refine a_getI 8 eX2_copyFrom_66 fl_X2_24 rfl rfl hs2 ?_
  refine a_eqtop (y0 := σ.1 a2 8) (by simp only [rd_si, rd_sa, and_self, true_and, and_true, ↓reduceIte]; (repeat (first | rw [if_pos (by omega)] | rw [if_neg (by omega)]))) ?_
  refine a_putI 8 eX2_copyFrom_69 fl_X2_24 rfl rfl hs1 (fun q h => Or.inl (by cases h; rfl)) ?_
  refine a_ald0 eX2_copyFrom_72 ?_
  refine a_ald1 eX2_copyFrom_73 ?_
  refine a_getI 9 eX2_copyFrom_74 fl_X2_27 rfl rfl hs2 ?_
  refine a_eqtop (y0 := σ.1 a2 9) (by simp only [rd_si, rd_sa, and_self, true_and, and_true, ↓reduceIte]; (repeat (first | rw [if_pos (by omega)] | rw [if_neg (by omega)]))) ?_
  refine a_putI 9 eX2_copyFrom_77 fl_X2_27 rfl rfl hs1 (fun q h => Or.inl (by cases h; rfl)) ?_
  refine a_ald0 eX2_copyFrom_80 ?_
  refine a_ald1 eX2_copyFrom_81 ?_
  refine a_getI 10 eX2_copyFrom_82 fl_X2_30 rfl rfl hs2 ?_
  refine a_eqtop (y0 := σ.1 a2 10) (by simp only [rd_si, rd_sa, and_self, true_and, and_true, ↓reduceIte]; (repeat (first | rw [if_pos (by omega)] | rw [if_neg (by omega)]))) ?_
  refine a_putZ 10 eX2_copyFrom_85 fl_X2_30 rfl rfl hb hs1 (fun q h => Or.inl (by cases h; rfl)) ?_
  refine a_vret eX2_copyFrom_88 rfl rfl ⟨Nat.zero_le _, Nat.zero_le _⟩ ?_
  refine hk _ (fun a j h => by simp only [rd_si]; (repeat rw [if_neg (by omega)])) (fun f f1 f2 => ?_) rfl
  rcases (show f = 0 ∨ f = 1 ∨ f = 2 ∨ f = 3 ∨ f = 4 ∨ f = 5 ∨ f = 6 ∨ f = 7 ∨ f = 8 ∨ f = 9 ∨ f = 10 by omega) with rfl | rfl | rfl | rfl | rfl | rfl | rfl | rfl | rfl | rfl | rfl
  · (simp only [rd_si, true_and]; (repeat (first | rw [if_pos (by omega)] | rw [if_neg (by omega)] | rw [if_pos True.intro])); (try rfl))
  · (simp only [rd_si, true_and]; (repeat (first | rw [if_pos (by omega)] | rw [if_neg (by omega)] | rw [if_pos True.intro])); (try rfl))
  · (simp only [rd_si, true_and]; (repeat (first | rw [if_pos (by omega)] | rw [if_neg (by omega)] | rw [if_pos True.intro])); (try rfl))
  · (simp only [rd_si, true_and]; (repeat (first | rw [if_pos (by omega)] | rw [if_neg (by omega)] | rw [if_pos True.intro])); (try rfl))
  · (simp only [rd_si, true_and]; (repeat (first | rw [if_pos (by omega)] | rw [if_neg (by omega)] | rw [if_pos True.intro])); (try rfl))
  · (simp only [rd_si, true_and]; (repeat (first | rw [if_pos (by omega)] | rw [if_neg (by omega)] | rw [if_pos True.intro])); (try rfl))
  · (simp only [rd_si, true_and]; (repeat (first | rw [if_pos (by omega)] | rw [if_neg (by omega)] | rw [if_pos True.intro])); (try rfl))
  · (simp only [rd_si, true_and]; (repeat (first | rw [if_pos (by omega)] | rw [if_neg (by omega)] | rw [if_pos True.intro])); (try rfl))
  · (simp only [rd_si, true_and]; (repeat (first | rw [if_pos (by omega)] | rw [if_neg (by omega)] | rw [if_pos True.intro])); (try rfl))
  · (simp only [rd_si, true_and]; (repeat (first | rw [if_pos (by omega)] | rw [if_neg (by omega)] | rw [if_pos True.intro])); (try rfl))
  · (simp only [rd_si, true_and]; (repeat (first | rw [if_pos (by omega)] | rw [if_neg (by omega)] | rw [if_pos True.intro])); (try rfl))

set_option maxHeartbeats 4000000 in
set_option maxRecDepth 100000 in
theorem lp_cp2 {l : Launch} {σ : aw_S} {Post : Option Value → aw_S → Prop} {tw cs : Bool} (hR : σ.2.2 = RF tw cs) {d1 d2 : Nat} (hd1 : isDay d1) (hd2 : isDay d2) (hne : d1 ≠ d2) {b N : Int} {m : mS} (hD : dayC σ d2 b m) (wD : wfDay m b N) (hk : ∀ σ', dayC σ' d1 b m → frD d1 σ σ' → Post none σ')  : ∀ (n : Nat) (i : Int) (σ1 : aw_S), ((6 - i).toNat ≤ n) → (0 ≤ i ∧ i ≤ 6) → (frD d1 σ σ1) → (σ1.1 d1 0 = m b 3) → (σ1.1 d1 1 = m b 4) → (∀ c f : Int, 0 ≤ c → c < m b 4 → 0 ≤ f → f < 11 → σ1.1 (d1 + 12 + c.toNat) f = m (b + 100 + c) f) → (∀ r : Int, 0 ≤ r → r < i → σ1.1 (d1 + 9) r = m (b + 10) r ∧ σ1.1 (d1 + 10) r = m (b + 11) r ∧ ∀ k : Int, 0 ≤ k → k < m (b + 10) r → σ1.1 (d1 + 3 + r.toNat) k = m (b + 200 + r) k) → AW l yX5_copyFrom cX5_copyFrom 3 (none : Option Jvm.ClassFile.FieldType) 1 26 0 0 SH Post SH 0 0 (σ1) 49 [some (.ref d1), some (.ref d2), some (.int (jI i))] [] := by
  intro n
  induction n with
  | zero =>
    intro i σ1 hm hi fr1 p0 p1 p2 p3
    have hap := day_apart hd1 hd2 hne
    obtain ⟨v1, v2, v3, v4, v5, v6, v7, v8⟩ := id wD
    have hR0 := hR
    have hR : σ1.2.2 = RF tw cs := by rw [fr1.2]; exact hR
    have hD2 := dayC_cong (by omega) hD (fun a j q1 q2 => fr1.1 a j (by omega))
    obtain ⟨D1, D2, D3, D4, D5, D6, D7⟩ := id hD2
    refine a_ild2 eX5_copyFrom_49 ?_
    refine a_bipush eX5_copyFrom_50 (by decide) ?_
    refine a_icmp_ge 108 eX5_copyFrom_52 (by decide) (by omega) (fun hT52 => ?_) (fun hF52 => ?_)
    · skip
      refine a_ald0 eX5_copyFrom_108 ?_
      refine a_ald1 eX5_copyFrom_109 ?_
      refine a_getI 6 eX5_copyFrom_110 fl_X5_40 rfl rfl (sh_day hd2) ?_
      refine a_eqtop (y0 := m b 5) (by exact D3) ?_
      refine a_putI 6 eX5_copyFrom_113 fl_X5_40 rfl rfl (sh_day hd1) (fun q h => Or.inl (by cases h; rfl)) ?_
      refine a_ald1 eX5_copyFrom_116 ?_
      refine a_getR 7 (d2 + 11) eX5_copyFrom_117 fl_X5_29 rfl rfl (sh_day hd2) ((congrFun (congrFun hR _) _).trans (rf_day_7 hd2)) ?_
      refine a_iconst eX5_copyFrom_120 ?_
      refine a_ald0 eX5_copyFrom_121 ?_
      refine a_getR 7 (d1 + 11) eX5_copyFrom_122 fl_X5_29 rfl rfl (sh_day hd1) ((congrFun (congrFun hR _) _).trans (rf_day_7 hd1)) ?_
      refine a_iconst eX5_copyFrom_125 ?_
      refine a_ald0 eX5_copyFrom_126 ?_
      refine a_getI 6 eX5_copyFrom_127 fl_X5_40 rfl rfl (sh_day hd1) ?_
      refine a_eqtop (y0 := m b 5) (by simp only [rd_si, rd_sa, and_self, true_and, and_true, ↓reduceIte]; (repeat (first | rw [if_pos (by omega)] | rw [if_neg (by omega)] | rw [if_pos True.intro])); (try rfl)) ?_
      refine a_iconst eX5_copyFrom_130 ?_
      refine a_imul eX5_copyFrom_131 ?_
      refine a_copy eX5_copyFrom_132 lk_X5_53 (sh_day_11 hd2) (sh_day_11 hd1) rfl (by omega) rfl rfl ?_
      refine a_vret eX5_copyFrom_135 rfl rfl ⟨Nat.zero_le _, Nat.zero_le _⟩ ?_
      refine hk _ ⟨by simp only [rd_si, rd_sa, and_self, true_and, and_true, ↓reduceIte]; (repeat rw [if_neg (by omega)]); exact p0, by simp only [rd_si, rd_sa, and_self, true_and, and_true, ↓reduceIte]; (repeat rw [if_neg (by omega)]); exact p1, by simp only [rd_si, rd_sa, and_self, true_and, and_true, ↓reduceIte]; (repeat (first | rw [if_pos (by omega)] | rw [if_neg (by omega)] | rw [if_pos True.intro])); (try rfl), fun r r1 r2 => ?_, fun c f c1 c2 f1 f2 => by simp only [rd_si, rd_sa, and_self, true_and, and_true, ↓reduceIte]; (repeat rw [if_neg (by omega)]); exact p2 c f c1 c2 f1 f2, fun r k r1 r2 k1 k2 => ?_, fun q w q1 q2 w1 w2 => ?_⟩ (frD_tr fr1 ⟨fun a j h => by simp only [rd_si, rd_sa]; (repeat rw [if_neg (by omega)]), rfl⟩)
      · have h3 := p3 r r1 (by omega)
        exact ⟨by simp only [rd_si, rd_sa, and_self, true_and, and_true, ↓reduceIte]; (repeat rw [if_neg (by omega)]); exact h3.1, by simp only [rd_si, rd_sa, and_self, true_and, and_true, ↓reduceIte]; (repeat rw [if_neg (by omega)]); exact h3.2.1⟩
      · have h3 := p3 r r1 (by omega)
        simp only [rd_si, rd_sa, and_self, true_and, and_true, ↓reduceIte]
        (repeat rw [if_neg (by omega)])
        exact h3.2.2 k k1 k2
      · simp only [rd_si, rd_sa, and_self, true_and, and_true, ↓reduceIte]
        (repeat (first | rw [if_pos (by omega)] | rw [if_neg (by omega)] | rw [if_pos True.intro]))
        rw [show (0 + (5 * q + w - 0) : Int) = 5 * q + w by omega]
        exact D7 q w q1 q2 w1 w2
    · skip
      exfalso; omega
  | succ n ih =>
    intro i σ1 hm hi fr1 p0 p1 p2 p3
    have hap := day_apart hd1 hd2 hne
    obtain ⟨v1, v2, v3, v4, v5, v6, v7, v8⟩ := id wD
    have hR0 := hR
    have hR : σ1.2.2 = RF tw cs := by rw [fr1.2]; exact hR
    have hD2 := dayC_cong (by omega) hD (fun a j q1 q2 => fr1.1 a j (by omega))
    obtain ⟨D1, D2, D3, D4, D5, D6, D7⟩ := id hD2
    refine a_ild2 eX5_copyFrom_49 ?_
    refine a_bipush eX5_copyFrom_50 (by decide) ?_
    refine a_icmp_ge 108 eX5_copyFrom_52 (by decide) (by omega) (fun hT52 => ?_) (fun hF52 => ?_)
    · skip
      refine a_ald0 eX5_copyFrom_108 ?_
      refine a_ald1 eX5_copyFrom_109 ?_
      refine a_getI 6 eX5_copyFrom_110 fl_X5_40 rfl rfl (sh_day hd2) ?_
      refine a_eqtop (y0 := m b 5) (by exact D3) ?_
      refine a_putI 6 eX5_copyFrom_113 fl_X5_40 rfl rfl (sh_day hd1) (fun q h => Or.inl (by cases h; rfl)) ?_
      refine a_ald1 eX5_copyFrom_116 ?_
      refine a_getR 7 (d2 + 11) eX5_copyFrom_117 fl_X5_29 rfl rfl (sh_day hd2) ((congrFun (congrFun hR _) _).trans (rf_day_7 hd2)) ?_
      refine a_iconst eX5_copyFrom_120 ?_
      refine a_ald0 eX5_copyFrom_121 ?_
      refine a_getR 7 (d1 + 11) eX5_copyFrom_122 fl_X5_29 rfl rfl (sh_day hd1) ((congrFun (congrFun hR _) _).trans (rf_day_7 hd1)) ?_
      refine a_iconst eX5_copyFrom_125 ?_
      refine a_ald0 eX5_copyFrom_126 ?_
      refine a_getI 6 eX5_copyFrom_127 fl_X5_40 rfl rfl (sh_day hd1) ?_
      refine a_eqtop (y0 := m b 5) (by simp only [rd_si, rd_sa, and_self, true_and, and_true, ↓reduceIte]; (repeat (first | rw [if_pos (by omega)] | rw [if_neg (by omega)] | rw [if_pos True.intro])); (try rfl)) ?_
      refine a_iconst eX5_copyFrom_130 ?_
      refine a_imul eX5_copyFrom_131 ?_
      refine a_copy eX5_copyFrom_132 lk_X5_53 (sh_day_11 hd2) (sh_day_11 hd1) rfl (by omega) rfl rfl ?_
      refine a_vret eX5_copyFrom_135 rfl rfl ⟨Nat.zero_le _, Nat.zero_le _⟩ ?_
      refine hk _ ⟨by simp only [rd_si, rd_sa, and_self, true_and, and_true, ↓reduceIte]; (repeat rw [if_neg (by omega)]); exact p0, by simp only [rd_si, rd_sa, and_self, true_and, and_true, ↓reduceIte]; (repeat rw [if_neg (by omega)]); exact p1, by simp only [rd_si, rd_sa, and_self, true_and, and_true, ↓reduceIte]; (repeat (first | rw [if_pos (by omega)] | rw [if_neg (by omega)] | rw [if_pos True.intro])); (try rfl), fun r r1 r2 => ?_, fun c f c1 c2 f1 f2 => by simp only [rd_si, rd_sa, and_self, true_and, and_true, ↓reduceIte]; (repeat rw [if_neg (by omega)]); exact p2 c f c1 c2 f1 f2, fun r k r1 r2 k1 k2 => ?_, fun q w q1 q2 w1 w2 => ?_⟩ (frD_tr fr1 ⟨fun a j h => by simp only [rd_si, rd_sa]; (repeat rw [if_neg (by omega)]), rfl⟩)
      · have h3 := p3 r r1 (by omega)
        exact ⟨by simp only [rd_si, rd_sa, and_self, true_and, and_true, ↓reduceIte]; (repeat rw [if_neg (by omega)]); exact h3.1, by simp only [rd_si, rd_sa, and_self, true_and, and_true, ↓reduceIte]; (repeat rw [if_neg (by omega)]); exact h3.2.1⟩
      · have h3 := p3 r r1 (by omega)
        simp only [rd_si, rd_sa, and_self, true_and, and_true, ↓reduceIte]
        (repeat rw [if_neg (by omega)])
        exact h3.2.2 k k1 k2
      · simp only [rd_si, rd_sa, and_self, true_and, and_true, ↓reduceIte]
        (repeat (first | rw [if_pos (by omega)] | rw [if_neg (by omega)] | rw [if_pos True.intro]))
        rw [show (0 + (5 * q + w - 0) : Int) = 5 * q + w by omega]
        exact D7 q w q1 q2 w1 w2
    · skip
      have h4 := v4 i (by omega) (by omega)
      have e4 := D4 i (by omega) (by omega)
      refine a_ald0 eX5_copyFrom_55 ?_
      refine a_getR 4 (d1 + 9) eX5_copyFrom_56 fl_X5_22 rfl rfl (sh_day hd1) ((congrFun (congrFun hR _) _).trans (rf_day_4 hd1)) ?_
      refine a_ild2 eX5_copyFrom_59 ?_
      refine a_ald1 eX5_copyFrom_60 ?_
      refine a_getR 4 (d2 + 9) eX5_copyFrom_61 fl_X5_22 rfl rfl (sh_day hd2) ((congrFun (congrFun hR _) _).trans (rf_day_4 hd2)) ?_
      refine a_ild2 eX5_copyFrom_64 ?_
      refine a_iald eX5_copyFrom_65 (sh_day_9 hd2) rfl (by omega) ?_
      refine a_eqtop (y0 := m (b + 10) i) (by exact e4.1) ?_
      refine a_iast eX5_copyFrom_66 (sh_day_9 hd1) rfl (by omega) ?_
      refine a_ald0 eX5_copyFrom_67 ?_
      refine a_getR 5 (d1 + 10) eX5_copyFrom_68 fl_X5_26 rfl rfl (sh_day hd1) ((congrFun (congrFun hR _) _).trans (rf_day_5 hd1)) ?_
      refine a_ild2 eX5_copyFrom_71 ?_
      refine a_ald1 eX5_copyFrom_72 ?_
      refine a_getR 5 (d2 + 10) eX5_copyFrom_73 fl_X5_26 rfl rfl (sh_day hd2) ((congrFun (congrFun hR _) _).trans (rf_day_5 hd2)) ?_
      refine a_ild2 eX5_copyFrom_76 ?_
      refine a_iald eX5_copyFrom_77 (sh_day_10 hd2) rfl (by omega) ?_
      refine a_eqtop (y0 := m (b + 11) i) (by simp only [rd_si, rd_sa, and_self, true_and, and_true, ↓reduceIte]; (repeat (first | rw [if_pos (by omega)] | rw [if_neg (by omega)] | rw [if_pos True.intro])); exact e4.2) ?_
      refine a_iast eX5_copyFrom_78 (sh_day_10 hd1) rfl (by omega) ?_
      refine a_ald1 eX5_copyFrom_79 ?_
      refine a_getR 3 (d2 + 2) eX5_copyFrom_80 fl_X5_19 rfl rfl (sh_day hd2) ((congrFun (congrFun hR _) _).trans (rf_day_3 hd2)) ?_
      refine a_ild2 eX5_copyFrom_83 ?_
      refine a_aald _ eX5_copyFrom_84 (sh_day_2 hd2) rfl rfl rfl (by omega) ((congrFun (congrFun hR _) _).trans (rf_row hd2 (by omega))) ?_
      refine a_iconst eX5_copyFrom_85 ?_
      refine a_ald0 eX5_copyFrom_86 ?_
      refine a_getR 3 (d1 + 2) eX5_copyFrom_87 fl_X5_19 rfl rfl (sh_day hd1) ((congrFun (congrFun hR _) _).trans (rf_day_3 hd1)) ?_
      refine a_ild2 eX5_copyFrom_90 ?_
      refine a_aald _ eX5_copyFrom_91 (sh_day_2 hd1) rfl rfl rfl (by omega) ((congrFun (congrFun hR _) _).trans (rf_row hd1 (by omega))) ?_
      refine a_iconst eX5_copyFrom_92 ?_
      refine a_ald0 eX5_copyFrom_93 ?_
      refine a_getR 4 (d1 + 9) eX5_copyFrom_94 fl_X5_22 rfl rfl (sh_day hd1) ((congrFun (congrFun hR _) _).trans (rf_day_4 hd1)) ?_
      refine a_ild2 eX5_copyFrom_97 ?_
      refine a_iald eX5_copyFrom_98 (sh_day_9 hd1) rfl (by omega) ?_
      refine a_eqtop (y0 := m (b + 10) i) (by simp only [rd_si, rd_sa, and_self, true_and, and_true, ↓reduceIte]; (repeat (first | rw [if_pos (by omega)] | rw [if_neg (by omega)] | rw [if_pos True.intro])); (try rfl)) ?_
      refine a_copy eX5_copyFrom_99 lk_X5_53 (sh_row hd2 (by omega)) (sh_row hd1 (by omega)) rfl (by omega) rfl rfl ?_
      refine a_iinc2 eX5_copyFrom_102 (by decide) aw_n2r ?_
      refine a_goto 49 eX5_copyFrom_105 (by decide) ?_
      refine ih (i + 1) _ (by omega) (by omega) (frD_tr fr1 ⟨fun a j h => by simp only [rd_si, rd_sa]; (repeat rw [if_neg (by omega)]), rfl⟩) (by simp only [rd_si, rd_sa, and_self, true_and, and_true, ↓reduceIte]; (repeat rw [if_neg (by omega)]); exact p0) (by simp only [rd_si, rd_sa, and_self, true_and, and_true, ↓reduceIte]; (repeat rw [if_neg (by omega)]); exact p1) (fun c f c1 c2 f1 f2 => by simp only [rd_si, rd_sa, and_self, true_and, and_true, ↓reduceIte]; (repeat rw [if_neg (by omega)]); exact p2 c f c1 c2 f1 f2) (fun r r1 r2 => ?_)
      by_cases z : r = i
      · subst z
        refine ⟨by simp only [rd_si, rd_sa, and_self, true_and, and_true, ↓reduceIte]; (repeat (first | rw [if_pos (by omega)] | rw [if_neg (by omega)] | rw [if_pos True.intro])); (try rfl), by simp only [rd_si, rd_sa, and_self, true_and, and_true, ↓reduceIte]; (repeat (first | rw [if_pos (by omega)] | rw [if_neg (by omega)] | rw [if_pos True.intro])); (try rfl), fun k k1 k2 => ?_⟩
        simp only [rd_si, rd_sa, and_self, true_and, and_true, ↓reduceIte]
        (repeat (first | rw [if_pos (by omega)] | rw [if_neg (by omega)] | rw [if_pos True.intro]))
        rw [show (0 + (k - 0) : Int) = k by omega]
        exact D6 r k (by omega) (by omega) k1 k2
      · have h3 := p3 r r1 (by omega)
        refine ⟨by simp only [rd_si, rd_sa, and_self, true_and, and_true, ↓reduceIte]; (repeat rw [if_neg (by omega)]); exact h3.1, by simp only [rd_si, rd_sa, and_self, true_and, and_true, ↓reduceIte]; (repeat rw [if_neg (by omega)]); exact h3.2.1, fun k k1 k2 => ?_⟩
        simp only [rd_si, rd_sa, and_self, true_and, and_true, ↓reduceIte]
        (repeat rw [if_neg (by omega)])
        exact h3.2.2 k k1 k2

set_option maxHeartbeats 4000000 in
set_option maxRecDepth 100000 in
theorem lp_cp1 {l : Launch} {σ : aw_S} {Post : Option Value → aw_S → Prop} {tw cs : Bool} (hR : σ.2.2 = RF tw cs) {d1 d2 : Nat} (hd1 : isDay d1) (hd2 : isDay d2) (hne : d1 ≠ d2) {b N : Int} {m : mS} (hD : dayC σ d2 b m) (wD : wfDay m b N) (hk : ∀ σ', dayC σ' d1 b m → frD d1 σ σ' → Post none σ')  : ∀ (n : Nat) (i : Int) (σ1 : aw_S), ((m b 4 - i).toNat ≤ n) → (0 ≤ i ∧ i ≤ m b 4) → (frD d1 σ σ1) → (σ1.1 d1 0 = m b 3) → (σ1.1 d1 1 = m b 4) → (∀ c f : Int, 0 ≤ c → c < i → 0 ≤ f → f < 11 → σ1.1 (d1 + 12 + c.toNat) f = m (b + 100 + c) f) → AW l yX5_copyFrom cX5_copyFrom 3 (none : Option Jvm.ClassFile.FieldType) 1 26 0 0 SH Post SH 0 0 (σ1) 18 [some (.ref d1), some (.ref d2), some (.int (jI i))] [] := by
  intro n
  induction n with
  | zero =>
    intro i σ1 hm hi fr1 p0 p1 p2
    have hap := day_apart hd1 hd2 hne
    obtain ⟨v1, v2, v3, v4, v5, v6, v7, v8⟩ := id wD
    have hR0 := hR
    have hR : σ1.2.2 = RF tw cs := by rw [fr1.2]; exact hR
    have hD2 := dayC_cong (by omega) hD (fun a j q1 q2 => fr1.1 a j (by omega))
    obtain ⟨D1, D2, D3, D4, D5, D6, D7⟩ := id hD2
    refine a_ild2 eX5_copyFrom_18 ?_
    refine a_ald0 eX5_copyFrom_19 ?_
    refine a_getI 1 eX5_copyFrom_20 fl_X5_37 rfl rfl (sh_day hd1) ?_
    refine a_eqtop (y0 := m b 4) (by exact p1) ?_
    refine a_icmp_ge 47 eX5_copyFrom_23 (by decide) (by omega) (fun hT23 => ?_) (fun hF23 => ?_)
    · skip
      refine a_iconst eX5_copyFrom_47 ?_
      refine a_ist2 eX5_copyFrom_48 (by decide) aw_n2r ?_
      exact lp_cp2 hR0 hd1 hd2 hne hD wD hk _ 0 σ1 (Nat.le_refl _) (by omega) fr1 p0 p1 (fun c f c1 c2 f1 f2 => p2 c f c1 (by omega) f1 f2) (fun r r1 r2 => by omega)
    · skip
      exfalso; omega
  | succ n ih =>
    intro i σ1 hm hi fr1 p0 p1 p2
    have hap := day_apart hd1 hd2 hne
    obtain ⟨v1, v2, v3, v4, v5, v6, v7, v8⟩ := id wD
    have hR0 := hR
    have hR : σ1.2.2 = RF tw cs := by rw [fr1.2]; exact hR
    have hD2 := dayC_cong (by omega) hD (fun a j q1 q2 => fr1.1 a j (by omega))
    obtain ⟨D1, D2, D3, D4, D5, D6, D7⟩ := id hD2
    refine a_ild2 eX5_copyFrom_18 ?_
    refine a_ald0 eX5_copyFrom_19 ?_
    refine a_getI 1 eX5_copyFrom_20 fl_X5_37 rfl rfl (sh_day hd1) ?_
    refine a_eqtop (y0 := m b 4) (by exact p1) ?_
    refine a_icmp_ge 47 eX5_copyFrom_23 (by decide) (by omega) (fun hT23 => ?_) (fun hF23 => ?_)
    · skip
      refine a_iconst eX5_copyFrom_47 ?_
      refine a_ist2 eX5_copyFrom_48 (by decide) aw_n2r ?_
      exact lp_cp2 hR0 hd1 hd2 hne hD wD hk _ 0 σ1 (Nat.le_refl _) (by omega) fr1 p0 p1 (fun c f c1 c2 f1 f2 => p2 c f c1 (by omega) f1 f2) (fun r r1 r2 => by omega)
    · skip
      refine a_ald0 eX5_copyFrom_26 ?_
      refine a_getR 2 (d1 + 1) eX5_copyFrom_27 fl_X5_11 rfl rfl (sh_day hd1) ((congrFun (congrFun hR _) _).trans (rf_day_2 hd1)) ?_
      refine a_ild2 eX5_copyFrom_30 ?_
      refine a_aald _ eX5_copyFrom_31 (sh_day_1 hd1) rfl rfl rfl (by omega) ((congrFun (congrFun hR _) _).trans (rf_cab hd1 (by omega))) ?_
      refine a_ald1 eX5_copyFrom_32 ?_
      refine a_getR 2 (d2 + 1) eX5_copyFrom_33 fl_X5_11 rfl rfl (sh_day hd2) ((congrFun (congrFun hR _) _).trans (rf_day_2 hd2)) ?_
      refine a_ild2 eX5_copyFrom_36 ?_
      refine a_aald _ eX5_copyFrom_37 (sh_day_1 hd2) rfl rfl rfl (by omega) ((congrFun (congrFun hR _) _).trans (rf_cab hd2 (by omega))) ?_
      refine a_cV1 eX5_copyFrom_38 lk_X5_49 mV_X2_copyFrom (sh_cab hd1 (by omega)) ⟨_, rfl, rfl⟩ mt_X2_copyFrom rfl rfl rfl rfl rfl (c_X2_copyFrom (sh_cab hd1 (by omega)) (sh_cab hd2 (by omega)) (by omega) (by have h5 := v5 i (by omega) (by omega); unfold wfCab at h5; rw [D5 i 10 (by omega) (by omega) (by omega) (by omega)]; omega) (fun σ2 h2o h2f h2s => ?_))
      dsimp only [Option.toList, List.cons_append, List.nil_append]
      refine a_iinc2 eX5_copyFrom_41 (by decide) aw_n2r ?_
      refine a_goto 18 eX5_copyFrom_44 (by decide) ?_
      refine ih (i + 1) σ2 (by omega) (by omega) (frD_tr fr1 ⟨fun a j h => h2o a j (by omega), h2s⟩) (by rw [h2o _ _ (by omega)]; exact p0) (by rw [h2o _ _ (by omega)]; exact p1) (fun c f c1 c2 f1 f2 => ?_)
      by_cases z : c = i
      · subst z; rw [h2f f f1 f2]; exact D5 c f (by omega) (by omega) f1 f2
      · rw [h2o _ _ (by omega)]; exact p2 c f c1 (by omega) f1 f2

set_option maxHeartbeats 4000000 in
set_option maxRecDepth 100000 in
theorem c_X5_copyFrom {l : Launch} {σ : aw_S} {Post : Option Value → aw_S → Prop} {tw cs : Bool} (hR : σ.2.2 = RF tw cs) {d1 d2 : Nat} (hd1 : isDay d1) (hd2 : isDay d2) (hne : d1 ≠ d2) {b N : Int} {m : mS} (hD : dayC σ d2 b m) (wD : wfDay m b N) (hk : ∀ σ', dayC σ' d1 b m → frD d1 σ σ' → Post none σ')  : AE l yX5_copyFrom cX5_copyFrom 3 (none : Option Jvm.ClassFile.FieldType) 1 26 0 0 SH SH σ [.ref d1, .ref d2] Post := by
  show AW l yX5_copyFrom cX5_copyFrom 3 (none : Option Jvm.ClassFile.FieldType) 1 26 0 0 SH Post SH 0 0 σ 0 [some (.ref d1), some (.ref d2), none] []
  have hap := day_apart hd1 hd2 hne
  obtain ⟨v1, v2, v3, v4, v5, v6, v7, v8⟩ := id wD
  obtain ⟨D1, D2, D3, D4, D5, D6, D7⟩ := id hD
  refine a_ald0 eX5_copyFrom_0 ?_
  refine a_ald1 eX5_copyFrom_1 ?_
  refine a_getI 0 eX5_copyFrom_2 fl_X5_33 rfl rfl (sh_day hd2) ?_
  refine a_eqtop (y0 := m b 3) (by exact D1) ?_
  refine a_putI 0 eX5_copyFrom_5 fl_X5_33 rfl rfl (sh_day hd1) (fun q h => Or.inl (by cases h; rfl)) ?_
  refine a_ald0 eX5_copyFrom_8 ?_
  refine a_ald1 eX5_copyFrom_9 ?_
  refine a_getI 1 eX5_copyFrom_10 fl_X5_37 rfl rfl (sh_day hd2) ?_
  refine a_eqtop (y0 := m b 4) (by simp only [rd_si, rd_sa, and_self, true_and, and_true, ↓reduceIte]; (repeat (first | rw [if_pos (by omega)] | rw [if_neg (by omega)] | rw [if_pos True.intro])); exact D2) ?_
  refine a_putI 1 eX5_copyFrom_13 fl_X5_37 rfl rfl (sh_day hd1) (fun q h => Or.inl (by cases h; rfl)) ?_
  refine a_iconst eX5_copyFrom_16 ?_
  refine a_ist2 eX5_copyFrom_17 (by decide) aw_n2r ?_
  exact lp_cp1 hR hd1 hd2 hne hD wD hk _ 0 _ (Nat.le_refl _) (by omega) ⟨fun a j h => by simp only [rd_si, rd_sa]; (repeat rw [if_neg (by omega)]), rfl⟩ (by simp only [rd_si, rd_sa, and_self, true_and, and_true, ↓reduceIte]; (repeat (first | rw [if_pos (by omega)] | rw [if_neg (by omega)] | rw [if_pos True.intro])); (try rfl)) (by simp only [rd_si, rd_sa, and_self, true_and, and_true, ↓reduceIte]; (repeat (first | rw [if_pos (by omega)] | rw [if_neg (by omega)] | rw [if_pos True.intro])); (try rfl)) (fun c f c1 c2 f1 f2 => by omega)

/-- the name of an image's day -/
def imd (k : Int) : Nat := 87 + 28 * k.toNat
theorem imd_day {k : Int} (h : 0 ≤ k ∧ k < 3) : isDay (imd k) := by
  rcases (show k = 0 ∨ k = 1 ∨ k = 2 by omega) with rfl | rfl | rfl
  · exact Or.inr (Or.inl rfl)
  · exact Or.inr (Or.inr (Or.inl rfl))
  · exact Or.inr (Or.inr (Or.inr rfl))
def vimage (m : mS) (k : Int) : Prop := 0 < m 0 0 ∧ (0 ≤ k ∧ k ≤ 2)
def vback (m : mS) (k : Int) : Prop := (0 ≤ k ∧ k ≤ 2) ∧ m 16 k = 1
theorem isDay_im {k : Int} (h : 0 ≤ k ∧ k < ((3 : Nat) : Int)) : isDay (imd k) := imd_day (by omega)
theorem rf_im {k : Int} (h : 0 ≤ k ∧ k < ((3 : Nat) : Int)) {tw cs : Bool} : RF tw cs 49 k = some (imd k) := by
  rcases (show k = 0 ∨ k = 1 ∨ k = 2 by omega) with rfl | rfl | rfl <;> rfl