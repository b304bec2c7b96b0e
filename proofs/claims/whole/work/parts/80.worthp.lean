/-- the class: the worths' own cells alone have changed -/
def frW (σ σ' : aw_S) : Prop := (∀ (a : Nat) (j : Int), ¬ (a = 51 ∧ j = 5) → a ≠ 55 → a ≠ 56 → σ'.1 a j = σ.1 a j) ∧ σ'.2 = σ.2
def mmo (σ : aw_S) (m : mS) : Prop := aw_bx (∃ F : Nat, F ≤ 121 ∧ σ.1 51 5 = (F : Int) ∧ tbl σ m (σ.1 55) F) ∧ ahOK σ (σ.1 55)
/-- ready for so many minutes -/
def rdy (σ : aw_S) (m : mS) (l : Nat) : Prop := aw_bx (∃ F : Nat, l < F ∧ F ≤ 121 ∧ σ.1 51 5 = (F : Int) ∧ tbl σ m (ahd m) F) ∧ ahOK σ (ahd m)
theorem rdy_mmo {σ : aw_S} {m : mS} {l : Nat} (h6 : m 0 0 ≤ 6) (h : rdy σ m l) : mmo σ m := by
  obtain ⟨h1, h2⟩ := h
  obtain ⟨F, a1, a2, a3, a4⟩ := aw_ub h1
  have e : wW m (ahd m) = wW m (σ.1 55) := W_ah h6 (fun r r1 r2 => (h2 r r1 r2).1.symm)
  refine ⟨aw_mb ⟨F, a2, a3, fun k r n k1 r1 r2 n1 n2 => by rw [← e]; exact a4 k r n k1 r1 r2 n1 n2⟩, fun r r1 r2 => ⟨rfl, by rw [(h2 r r1 r2).1]; exact (h2 r r1 r2).2⟩⟩
theorem rdy_tbl {σ : aw_S} {m : mS} {l : Nat} (h : rdy σ m l) : tbl σ m (ahd m) (l + 1) := by
  obtain ⟨F, a1, a2, a3, a4⟩ := aw_ub h.1
  exact fun k r n k1 => a4 k r n (by omega)
theorem chC_fr {σ σ' : aw_S} {m : mS} (h : ∀ (a : Nat) (j : Int), 52 ≤ a → a ≤ 54 → σ'.1 a j = σ.1 a j) (hH : chC σ m) : chC σ' m := fun r r1 r2 => by
  rw [h 52 r (by omega) (by omega), h 53 r (by omega) (by omega), h 54 r (by omega) (by omega)]
  exact hH r r1 r2
set_option maxHeartbeats 4000000 in
set_option maxRecDepth 100000 in
theorem lp_ppI {l : Launch} {σ : aw_S} {Post : Option Value → aw_S → Prop} {a : Nat} (ha : isCity a) {tw cs : Bool} (hR : σ.2.2 = RF tw cs) {m : mS} (hC : cityC σ a m) (wC : wfCity m) (h0 : 0 < m 0 0) (wH : wfCh m) {N : Int} (hD : dayC σ 21 0 m) (wD : wfDay m 0 N) (hH : chC σ m) {l1 : Nat} (hl : l1 ≤ 120) {F : Nat} (hF : F ≤ 120) {lx : Option Value} (hk : ∀ σ2 ly, frW σ σ2 → ahOK σ2 (ahd m) → σ2.1 51 5 = (F : Int) → tbl σ2 m (ahd m) (F + 1) → AW l yX8_prepare cX8_prepare 6 (none : Option Jvm.ClassFile.FieldType) 5 125 0 0 SH Post SH 0 0 (σ2) 93 [some (.ref 51), some (.ref a), some (.ref 21), some (.int (jI (l1 : Int))), ly, lx] [])  : ∀ (n : Nat) (i : Int) (σ1 : aw_S), ((m 0 0 - i).toNat ≤ n) → (0 ≤ i ∧ i ≤ m 0 0) → (frW σ σ1) → (ahOK σ1 (ahd m)) → (σ1.1 51 5 = (F : Int)) → (∀ (k : Nat) (r n : Int), ((k : Int) < (F : Int) ∨ ((k : Int) = (F : Int) ∧ r < i)) → 0 ≤ r → r < m 0 0 → 0 ≤ n → n < 10 → σ1.1 56 ((k : Int) * 60 + r * 10 + n) = wW m (ahd m) k r n) → AW l yX8_prepare cX8_prepare 6 (none : Option Jvm.ClassFile.FieldType) 5 125 0 0 SH Post SH 0 0 (σ1) 67 [some (.ref 51), some (.ref a), some (.ref 21), some (.int (jI (l1 : Int))), some (.int (jI i)), lx] [] := by
  intro n
  induction n with
  | zero =>
    intro i σ1 hm hi f1 hah hF1 ht
    obtain ⟨c1, c2, c3, c4, c5, c6, c7, c8⟩ := id hC
    obtain ⟨y1, y2, y3, y4, y5, y6, y7, y8⟩ := id wC
    have ha2 : a ≤ 13 := by rcases ha with rfl | rfl <;> omega
    have hR : σ1.2.2 = RF tw cs := by rw [f1.2]; exact hR
    have hC1 : cityC σ1 a m := cityC_lo ha (fun b j q => f1.1 b j (by omega) (by omega) (by omega)) hC
    have hH1 : chC σ1 m := chC_fr (fun b j q1 q2 => f1.1 b j (by omega) (by omega) (by omega)) hH
    have e0 : σ1.1 a 0 = m 0 0 := hC1.1
    refine a_ild4 eX8_prepare_67 ?_
    refine a_ald1 eX8_prepare_69 ?_
    refine a_getI 0 eX8_prepare_70 fl_X8_48 rfl rfl (sh_city ha) ?_
    refine a_eqtop (y0 := m 0 0) (by exact e0) ?_
    refine a_icmp_ge 93 eX8_prepare_73 (by decide) (by omega) (fun hT73 => ?_) (fun hF73 => ?_)
    · skip
      exact hk σ1 _ f1 hah hF1 (fun k r n k1 r1 r2 n1 n2 => ht k r n (by omega) r1 r2 n1 n2)
    · skip
      exfalso; omega
  | succ n ih =>
    intro i σ1 hm hi f1 hah hF1 ht
    obtain ⟨c1, c2, c3, c4, c5, c6, c7, c8⟩ := id hC
    obtain ⟨y1, y2, y3, y4, y5, y6, y7, y8⟩ := id wC
    have ha2 : a ≤ 13 := by rcases ha with rfl | rfl <;> omega
    have hR : σ1.2.2 = RF tw cs := by rw [f1.2]; exact hR
    have hC1 : cityC σ1 a m := cityC_lo ha (fun b j q => f1.1 b j (by omega) (by omega) (by omega)) hC
    have hH1 : chC σ1 m := chC_fr (fun b j q1 q2 => f1.1 b j (by omega) (by omega) (by omega)) hH
    have e0 : σ1.1 a 0 = m 0 0 := hC1.1
    refine a_ild4 eX8_prepare_67 ?_
    refine a_ald1 eX8_prepare_69 ?_
    refine a_getI 0 eX8_prepare_70 fl_X8_48 rfl rfl (sh_city ha) ?_
    refine a_eqtop (y0 := m 0 0) (by exact e0) ?_
    refine a_icmp_ge 93 eX8_prepare_73 (by decide) (by omega) (fun hT73 => ?_) (fun hF73 => ?_)
    · skip
      exact hk σ1 _ f1 hah hF1 (fun k r n k1 r1 r2 n1 n2 => ht k r n (by omega) r1 r2 n1 n2)
    · skip
      refine a_ald0 eX8_prepare_76 ?_
      refine a_ald1 eX8_prepare_77 ?_
      refine a_ild4 eX8_prepare_78 ?_
      refine a_ald0 eX8_prepare_80 ?_
      refine a_getI 5 eX8_prepare_81 fl_X8_33 rfl rfl sh_51 ?_
      refine a_eqtop (y0 := ((F : Nat) : Int)) (by exact hF1) ?_
      refine a_cV3 eX8_prepare_84 lk_X8_53 mV_X8_fillRank sh_51 ⟨_, rfl, rfl⟩ mt_X8_fillRank rfl rfl rfl rfl rfl rfl rfl (c_X8_fillRank ha hR hC1 wC h0 wH hah hH1 (by omega) hF (fun k r n k1 r1 r2 n1 n2 => ht k r n (by omega) r1 r2 n1 n2) (fun σ2 f2 hold hnew => ?_))
      dsimp only [Option.toList, List.cons_append, List.nil_append]
      refine a_iinc4 eX8_prepare_87 (by decide) aw_n2i ?_
      refine a_goto 67 eX8_prepare_90 (by decide) ?_
      refine ih (i + 1) σ2 (by omega) (by omega) ⟨fun b j q1 q2 q3 => (f2.1 b j q3).trans (f1.1 b j q1 q2 q3), f2.2.trans f1.2⟩ (fun r r1 r2 => by rw [f2.1 _ _ (by omega)]; exact hah r r1 r2) (by rw [f2.1 _ _ (by omega)]; exact hF1) (fun k r n k1 r1 r2 n1 n2 => ?_)
      by_cases q : (k : Int) = (F : Int) ∧ r = i
      · obtain ⟨q1, q2⟩ := q
        rw [q1, q2, hnew n n1 n2, show k = F by omega]
      · rw [hold _ (by omega)]
        exact ht k r n (by omega) r1 r2 n1 n2

set_option maxHeartbeats 4000000 in
set_option maxRecDepth 100000 in
theorem lp_ppO {l : Launch} {σ : aw_S} {Post : Option Value → aw_S → Prop} {a : Nat} (ha : isCity a) {tw cs : Bool} (hR : σ.2.2 = RF tw cs) {m : mS} (hC : cityC σ a m) (wC : wfCity m) (h0 : 0 < m 0 0) (wH : wfCh m) {N : Int} (hD : dayC σ 21 0 m) (wD : wfDay m 0 N) (hH : chC σ m) {l1 : Nat} (hl : l1 ≤ 120) (hk : ∀ σ', frW σ σ' → rdy σ' m l1 → Post none σ')  : ∀ (n : Nat) (F : Nat) (σ1 : aw_S) (lx : Option Value) (ly : Option Value), ((121 - F) ≤ n) → (F ≤ 121) → (frW σ σ1) → (ahOK σ1 (ahd m)) → (σ1.1 51 5 = (F : Int)) → (tbl σ1 m (ahd m) F) → AW l yX8_prepare cX8_prepare 6 (none : Option Jvm.ClassFile.FieldType) 5 125 0 0 SH Post SH 0 0 (σ1) 56 [some (.ref 51), some (.ref a), some (.ref 21), some (.int (jI (l1 : Int))), ly, lx] [] := by
  intro n
  induction n with
  | zero =>
    intro F σ1 lx ly hm hF f1 hah hF1 ht
    obtain ⟨c1, c2, c3, c4, c5, c6, c7, c8⟩ := id hC
    obtain ⟨y1, y2, y3, y4, y5, y6, y7, y8⟩ := id wC
    have ha2 : a ≤ 13 := by rcases ha with rfl | rfl <;> omega
    have hR : σ1.2.2 = RF tw cs := by rw [f1.2]; exact hR
    have hC1 : cityC σ1 a m := cityC_lo ha (fun b j q => f1.1 b j (by omega) (by omega) (by omega)) hC
    have hH1 : chC σ1 m := chC_fr (fun b j q1 q2 => f1.1 b j (by omega) (by omega) (by omega)) hH
    have hD1 : dayC σ1 21 0 m := dayC_cong (by have := (wfDay_0 wD).2.1; omega) hD (fun b j q1 q2 => f1.1 b j (by omega) (by omega) (by omega))
    refine a_ald0 eX8_prepare_56 ?_
    refine a_getI 5 eX8_prepare_57 fl_X8_33 rfl rfl sh_51 ?_
    refine a_eqtop (y0 := ((F : Nat) : Int)) (by exact hF1) ?_
    refine a_ild3 eX8_prepare_60 ?_
    refine a_icmp_gt 106 eX8_prepare_61 (by decide) (by omega) (fun hT61 => ?_) (fun hF61 => ?_)
    · skip
      refine a_vret eX8_prepare_106 rfl rfl ⟨Nat.zero_le _, Nat.zero_le _⟩ ?_
      exact hk σ1 f1 ⟨aw_mb ⟨F, by omega, hF, hF1, ht⟩, hah⟩
    · skip
      exfalso; omega
  | succ n ih =>
    intro F σ1 lx ly hm hF f1 hah hF1 ht
    obtain ⟨c1, c2, c3, c4, c5, c6, c7, c8⟩ := id hC
    obtain ⟨y1, y2, y3, y4, y5, y6, y7, y8⟩ := id wC
    have ha2 : a ≤ 13 := by rcases ha with rfl | rfl <;> omega
    have hR : σ1.2.2 = RF tw cs := by rw [f1.2]; exact hR
    have hC1 : cityC σ1 a m := cityC_lo ha (fun b j q => f1.1 b j (by omega) (by omega) (by omega)) hC
    have hH1 : chC σ1 m := chC_fr (fun b j q1 q2 => f1.1 b j (by omega) (by omega) (by omega)) hH
    have hD1 : dayC σ1 21 0 m := dayC_cong (by have := (wfDay_0 wD).2.1; omega) hD (fun b j q1 q2 => f1.1 b j (by omega) (by omega) (by omega))
    refine a_ald0 eX8_prepare_56 ?_
    refine a_getI 5 eX8_prepare_57 fl_X8_33 rfl rfl sh_51 ?_
    refine a_eqtop (y0 := ((F : Nat) : Int)) (by exact hF1) ?_
    refine a_ild3 eX8_prepare_60 ?_
    refine a_icmp_gt 106 eX8_prepare_61 (by decide) (by omega) (fun hT61 => ?_) (fun hF61 => ?_)
    · skip
      refine a_vret eX8_prepare_106 rfl rfl ⟨Nat.zero_le _, Nat.zero_le _⟩ ?_
      exact hk σ1 f1 ⟨aw_mb ⟨F, by omega, hF, hF1, ht⟩, hah⟩
    · skip
      refine a_iconst eX8_prepare_64 ?_
      refine a_ist4 eX8_prepare_65 (by decide) aw_n2i ?_
      refine lp_ppI (σ := σ1) ha hR hC1 wC h0 wH hD1 wD hH1 hl (F := F) (by omega) (fun σ2 ly f2 hah2 hF2 ht2 => ?_) _ 0 σ1 (Nat.le_refl _) (by omega) ⟨fun _ _ _ _ _ => rfl, rfl⟩ hah hF1 (fun k r n k1 r1 r2 n1 n2 => ht k r n (by omega) r1 r2 n1 n2)
      have hR : σ2.2.2 = RF tw cs := by rw [f2.2]; exact hR
      refine a_ald0 eX8_prepare_93 ?_
      refine a_dup eX8_prepare_94 rfl ?_
      refine a_getI 5 eX8_prepare_95 fl_X8_33 rfl rfl sh_51 ?_
      refine a_eqtop (y0 := ((F : Nat) : Int)) (by exact hF2) ?_
      refine a_iconst eX8_prepare_98 ?_
      refine a_iadd eX8_prepare_99 ?_
      refine a_putI 5 eX8_prepare_100 fl_X8_33 rfl rfl sh_51 (fun q h => Or.inl (by cases h; rfl)) ?_
      refine a_goto 56 eX8_prepare_103 (by decide) ?_
      refine ih (F + 1) _ _ _ (by omega) (by omega) ⟨fun b j q1 q2 q3 => by rw [rd_si, if_neg (by omega)]; exact (f2.1 b j q1 q2 q3).trans (f1.1 b j q1 q2 q3), f2.2.trans f1.2⟩ (fun r r1 r2 => by rw [rd_si_ne (by omega)]; exact hah2 r r1 r2) (by rw [rd_si_eq]; omega) (fun k r n k1 r1 r2 n1 n2 => by rw [rd_si_ne (by omega)]; exact ht2 k r n k1 r1 r2 n1 n2)

set_option maxHeartbeats 4000000 in
set_option maxRecDepth 100000 in
theorem lp_ppA {l : Launch} {σ : aw_S} {Post : Option Value → aw_S → Prop} {a : Nat} (ha : isCity a) {tw cs : Bool} (hR : σ.2.2 = RF tw cs) {m : mS} (hC : cityC σ a m) (wC : wfCity m) (h0 : 0 < m 0 0) (wH : wfCh m) {N : Int} (hD : dayC σ 21 0 m) (wD : wfDay m 0 N) (hH : chC σ m) {l1 : Nat} (hl : l1 ≤ 120) (hk : ∀ σ', frW σ σ' → rdy σ' m l1 → Post none σ') (hM : mmo σ m)  : ∀ (n : Nat) (i : Int) (σ1 : aw_S) (lx : Option Value), ((6 - i).toNat ≤ n) → (0 ≤ i ∧ i ≤ 6) → (frW σ σ1) → (∀ j, σ1.1 56 j = σ.1 56 j) → (∀ r : Int, 0 ≤ r → r < i → σ1.1 55 r = ahd m r) → (∀ r : Int, i ≤ r → r < 6 → σ1.1 55 r = σ.1 55 r) → (σ1.1 51 5 = 0 ∨ (σ1.1 51 5 = σ.1 51 5 ∧ ∀ r : Int, 0 ≤ r → r < i → σ.1 55 r = ahd m r)) → AW l yX8_prepare cX8_prepare 6 (none : Option Jvm.ClassFile.FieldType) 5 125 0 0 SH Post SH 0 0 (σ1) 3 [some (.ref 51), some (.ref a), some (.ref 21), some (.int (jI (l1 : Int))), some (.int (jI i)), lx] [] := by
  intro n
  induction n with
  | zero =>
    intro i σ1 lx hm hi f1 h56 hdo hto hor
    obtain ⟨c1, c2, c3, c4, c5, c6, c7, c8⟩ := id hC
    obtain ⟨y1, y2, y3, y4, y5, y6, y7, y8⟩ := id wC
    have ha2 : a ≤ 13 := by rcases ha with rfl | rfl <;> omega
    have hR0 := hR
    have hR : σ1.2.2 = RF tw cs := by rw [f1.2]; exact hR
    have hC1 : cityC σ1 a m := cityC_lo ha (fun b j q => f1.1 b j (by omega) (by omega) (by omega)) hC
    have hH1 : chC σ1 m := chC_fr (fun b j q1 q2 => f1.1 b j (by omega) (by omega) (by omega)) hH
    have hD1 : dayC σ1 21 0 m := dayC_cong (by have := (wfDay_0 wD).2.1; omega) hD (fun b j q1 q2 => f1.1 b j (by omega) (by omega) (by omega))
    obtain ⟨d1, d2, d3, d4, d5, d6, d7⟩ := id hD1
    obtain ⟨v1, v2, v3, v4, v5, v6, v7, v8⟩ := wfDay_0 wD
    simp only [Int.zero_add] at d4
    refine a_ild4 eX8_prepare_3 ?_
    refine a_bipush eX8_prepare_5 (by decide) ?_
    refine a_icmp_ge 56 eX8_prepare_7 (by decide) (by omega) (fun hT7 => ?_) (fun hF7 => ?_)
    · skip
      have hahd : ∀ r : Int, 0 ≤ r → r < 6 → 0 ≤ ahd m r ∧ ahd m r ≤ 9 := fun r r1 r2 => by have := v4 r r1 r2; unfold ahd; split <;> omega
      have hah1 : ahOK σ1 (ahd m) := fun r r1 r2 => ⟨hdo r r1 (by omega), hahd r r1 r2⟩
      rcases hor with z | ⟨z1, z2⟩
      · exact lp_ppO ha hR0 hC wC h0 wH hD wD hH hl hk _ 0 σ1 _ _ (Nat.le_refl _) (by omega) f1 hah1 z (fun k r n k1 => by omega)
      · obtain ⟨F, g1, g2, g3⟩ := aw_ub hM.1
        have e : wW m (σ.1 55) = wW m (ahd m) := W_ah (by omega) (fun r r1 r2 => z2 r r1 (by omega))
        exact lp_ppO ha hR0 hC wC h0 wH hD wD hH hl hk _ F σ1 _ _ (Nat.le_refl _) g1 f1 hah1 (by rw [z1]; exact g2) (fun k r n k1 r1 r2 n1 n2 => by rw [h56, ← e]; exact g3 k r n k1 r1 r2 n1 n2)
    · skip
      exfalso; omega
  | succ n ih =>
    intro i σ1 lx hm hi f1 h56 hdo hto hor
    obtain ⟨c1, c2, c3, c4, c5, c6, c7, c8⟩ := id hC
    obtain ⟨y1, y2, y3, y4, y5, y6, y7, y8⟩ := id wC
    have ha2 : a ≤ 13 := by rcases ha with rfl | rfl <;> omega
    have hR0 := hR
    have hR : σ1.2.2 = RF tw cs := by rw [f1.2]; exact hR
    have hC1 : cityC σ1 a m := cityC_lo ha (fun b j q => f1.1 b j (by omega) (by omega) (by omega)) hC
    have hH1 : chC σ1 m := chC_fr (fun b j q1 q2 => f1.1 b j (by omega) (by omega) (by omega)) hH
    have hD1 : dayC σ1 21 0 m := dayC_cong (by have := (wfDay_0 wD).2.1; omega) hD (fun b j q1 q2 => f1.1 b j (by omega) (by omega) (by omega))
    obtain ⟨d1, d2, d3, d4, d5, d6, d7⟩ := id hD1
    obtain ⟨v1, v2, v3, v4, v5, v6, v7, v8⟩ := wfDay_0 wD
    simp only [Int.zero_add] at d4
    refine a_ild4 eX8_prepare_3 ?_
    refine a_bipush eX8_prepare_5 (by decide) ?_
    refine a_icmp_ge 56 eX8_prepare_7 (by decide) (by omega) (fun hT7 => ?_) (fun hF7 => ?_)
    · skip
      have hahd : ∀ r : Int, 0 ≤ r → r < 6 → 0 ≤ ahd m r ∧ ahd m r ≤ 9 := fun r r1 r2 => by have := v4 r r1 r2; unfold ahd; split <;> omega
      have hah1 : ahOK σ1 (ahd m) := fun r r1 r2 => ⟨hdo r r1 (by omega), hahd r r1 r2⟩
      rcases hor with z | ⟨z1, z2⟩
      · exact lp_ppO ha hR0 hC wC h0 wH hD wD hH hl hk _ 0 σ1 _ _ (Nat.le_refl _) (by omega) f1 hah1 z (fun k r n k1 => by omega)
      · obtain ⟨F, g1, g2, g3⟩ := aw_ub hM.1
        have e : wW m (σ.1 55) = wW m (ahd m) := W_ah (by omega) (fun r r1 r2 => z2 r r1 (by omega))
        exact lp_ppO ha hR0 hC wC h0 wH hD wD hH hl hk _ F σ1 _ _ (Nat.le_refl _) g1 f1 hah1 (by rw [z1]; exact g2) (fun k r n k1 r1 r2 n1 n2 => by rw [h56, ← e]; exact g3 k r n k1 r1 r2 n1 n2)
    · skip
      have e4 := d4 i (by omega) (by omega)
      have w4 := v4 i (by omega) (by omega)
      have ha5 := (hM.2 i (by omega) (by omega)).2
      have hti := hto i (by omega) (by omega)
      refine a_ald2 eX8_prepare_10 ?_
      refine a_getR 4 (21 + 9) eX8_prepare_11 fl_X8_37 rfl rfl (sh_day (Or.inl rfl)) ((congrFun (congrFun hR _) _).trans (rf_day_4 (Or.inl rfl))) ?_
      refine a_ild4 eX8_prepare_14 ?_
      refine a_iald eX8_prepare_16 (sh_day_9 (Or.inl rfl)) rfl (by omega) ?_
      refine a_eqtop (y0 := m 10 i) (by exact e4.1) ?_
      refine a_bipush eX8_prepare_17 (by decide) ?_
      refine a_mmin eX8_prepare_19 lk_X8_42 (by omega) rfl rfl ?_
      refine a_eqtop (y0 := ahd m i) (by unfold ahd; split <;> split <;> omega) ?_
      have hab : 0 ≤ ahd m i ∧ ahd m i ≤ 9 := by unfold ahd; split <;> omega
      refine a_ist5 eX8_prepare_22 (by decide) aw_n2i ?_
      refine a_ald0 eX8_prepare_24 ?_
      refine a_getR 3 55 eX8_prepare_25 fl_X8_21 rfl rfl sh_51 ((congrFun (congrFun hR _) _).trans rf_51_3) ?_
      refine a_ild4 eX8_prepare_28 ?_
      refine a_iald eX8_prepare_30 sh_55 rfl (by omega) ?_
      refine a_ild5 eX8_prepare_31 ?_
      refine a_icmp_eq 50 eX8_prepare_33 (by decide) (by omega) (fun hT33 => ?_) (fun hF33 => ?_)
      · skip
        refine a_iinc4 eX8_prepare_50 (by decide) aw_n2i ?_
        refine a_goto 3 eX8_prepare_53 (by decide) ?_
        refine ih (i + 1) σ1 _ (by omega) (by omega) f1 h56 (fun r r1 r2 => ?_) (fun r r1 r2 => hto r (by omega) r2) (hor.imp id (fun z => ⟨z.1, fun r r1 r2 => ?_⟩))
        · by_cases q : r = i
          · rw [q]; omega
          · exact hdo r r1 (by omega)
        · by_cases q : r = i
          · rw [q, ← hto i (by omega) (by omega)]; omega
          · exact z.2 r r1 (by omega)
      · skip
        refine a_ald0 eX8_prepare_36 ?_
        refine a_getR 3 55 eX8_prepare_37 fl_X8_21 rfl rfl sh_51 ((congrFun (congrFun hR _) _).trans rf_51_3) ?_
        refine a_ild4 eX8_prepare_40 ?_
        refine a_ild5 eX8_prepare_42 ?_
        refine a_iast eX8_prepare_44 sh_55 rfl (by omega) ?_
        refine a_ald0 eX8_prepare_45 ?_
        refine a_iconst eX8_prepare_46 ?_
        refine a_putI 5 eX8_prepare_47 fl_X8_33 rfl rfl sh_51 (fun q h => Or.inl (by cases h; rfl)) ?_
        refine a_iinc4 eX8_prepare_50 (by decide) aw_n2i ?_
        refine a_goto 3 eX8_prepare_53 (by decide) ?_
        refine ih (i + 1) _ _ (by omega) (by omega) ⟨fun b j q1 q2 q3 => by simp only [rd_si]; rw [if_neg (by omega), if_neg (by omega)]; exact f1.1 b j q1 q2 q3, f1.2⟩ (fun j => by rw [rd_si_ne (by omega), rd_si_ne (by omega)]; exact h56 j) (fun r r1 r2 => ?_) (fun r r1 r2 => by rw [rd_si_ne (by omega), rd_si_ni (by omega)]; exact hto r (by omega) r2) (Or.inl rd_si_eq)
        by_cases q : r = i
        · rw [q, rd_si_ne (by omega), rd_si_eq]
        · rw [rd_si_ne (by omega), rd_si_ni q]; exact hdo r r1 (by omega)

set_option maxHeartbeats 4000000 in
set_option maxRecDepth 100000 in
theorem c_X8_prepare {l : Launch} {σ : aw_S} {Post : Option Value → aw_S → Prop} {a : Nat} (ha : isCity a) {tw cs : Bool} (hR : σ.2.2 = RF tw cs) {m : mS} (hC : cityC σ a m) (wC : wfCity m) (h0 : 0 < m 0 0) (wH : wfCh m) {N : Int} (hD : dayC σ 21 0 m) (wD : wfDay m 0 N) (hH : chC σ m) {l1 : Nat} (hl : l1 ≤ 120) (hk : ∀ σ', frW σ σ' → rdy σ' m l1 → Post none σ') (hM : mmo σ m)  : AE l yX8_prepare cX8_prepare 6 (none : Option Jvm.ClassFile.FieldType) 5 125 0 0 SH SH σ [.ref 51, .ref a, .ref 21, .int (jI (l1 : Int))] Post := by
  show AW l yX8_prepare cX8_prepare 6 (none : Option Jvm.ClassFile.FieldType) 5 125 0 0 SH Post SH 0 0 σ 0 [some (.ref 51), some (.ref a), some (.ref 21), some (.int (jI (l1 : Int))), none, none] []
  refine a_iconst eX8_prepare_0 ?_
  refine a_ist4 eX8_prepare_1 (by decide) aw_n2i ?_
  exact lp_ppA ha hR hC wC h0 wH hD wD hH hl hk hM _ 0 σ none (Nat.le_refl _) (by omega) ⟨fun _ _ _ _ _ => rfl, rfl⟩ (fun _ => rfl) (fun r r1 r2 => by omega) (fun _ _ _ => rfl) (Or.inr ⟨rfl, fun r r1 r2 => by omega⟩)

def vworth (m : mS) (r n l : Int) : Prop := (0 ≤ r ∧ r < m 0 0) ∧ (0 ≤ n ∧ n ≤ 9) ∧ (0 ≤ l ∧ l ≤ 120)
def vgoing (m : mS) (p l : Int) : Prop := 0 < m 0 0 ∧ (0 ≤ p ∧ p ≤ 99) ∧ (0 ≤ l ∧ l ≤ 120)
def gwhoM (m : mS) (p : Int) (l : Nat) : Int := gwho m (ahd m) (wW m (ahd m)) p l (m 0 0).toNat
def gvalM (m : mS) (p : Int) (l : Nat) : Int := gval m (ahd m) (wW m (ahd m)) p l
/-- a rule of thumb: the less the better -/
def bad (m : mS) (th p r : Int) : Int := if th = 0 then aw_ap (m 1 r) p else if th = 1 then m 10 r else -(m 13 r)
def thb (m : mS) (th p : Int) : Nat → Int
  | 0 => 0
  | k + 1 => if bad m th p (k + 1 : Int) < bad m th p (thb m th p k) then (k + 1 : Int) else thb m th p k
def thbM (m : mS) (th p : Int) : Int := thb m th p ((m 0 0).toNat - 1)
def tlo (m : mS) (th p : Int) (l : Nat) : Int := gvalM m p l - ocm m (ahd m) p l (thbM m th p)
theorem thb_b (m : mS) (th p : Int) : ∀ k : Nat, 0 ≤ thb m th p k ∧ thb m th p k ≤ (k : Int)
  | 0 => by show (0 : Int) ≤ 0 ∧ (0 : Int) ≤ _; omega
  | k + 1 => by
    have ih := thb_b m th p k
    unfold thb
    split <;> omega
set_option maxHeartbeats 4000000 in
set_option maxRecDepth 100000 in
theorem c_X9_worth {l : Launch} {σ : aw_S} {Post : Option Value → aw_S → Prop} {tw cs : Bool} (hR : σ.2.2 = RF tw cs) {t : Nat} (hct : isCity t) (hrt : RF tw cs 0 1 = some t) {m : mS} (hC : cityC σ t m) (wC : wfCity m) {N : Int} (hD : dayC σ 21 0 m) (wD : wfDay m 0 N) (hN : 0 ≤ N ∧ N ≤ 1000) (hH : chC σ m) (wH : wfCh m) (hMm : mmo σ m) {r n1 k : Int} (hr : (-2147483648 ≤ r ∧ r ≤ 2147483647) ∧ (-2147483648 ≤ n1 ∧ n1 ≤ 2147483647) ∧ (-2147483648 ≤ k ∧ k ≤ 2147483647)) (h1 : vworth m r n1 k → ∀ σ', frW σ σ' → mmo σ' m → Post (some (.int (jI (wW m (ahd m) k.toNat r n1)))) σ') (h0 : ¬ vworth m r n1 k → Post (some (.int (jI (-1)))) σ) : AE l yX9_worth cX9_worth 4 (some .int) 6 150 0 0 SH SH σ [.ref 0, .int (jI r), .int (jI n1), .int (jI k)] Post := by
  show AW l yX9_worth cX9_worth 4 (some .int) 6 150 0 0 SH Post SH 0 0 σ 0 [some (.ref 0), some (.int (jI r)), some (.int (jI n1)), some (.int (jI k))] []
  obtain ⟨c1, c2, c3, c4, c5, c6, c7, c8⟩ := id hC
  obtain ⟨w1, w2, w3, w4, w5, w6, w7, w8⟩ := id wC
  obtain ⟨d1, d2, d3, d4, d5, d6, d7⟩ := id hD
  obtain ⟨v1, v2, v3, v4, v5, v6, v7, v8⟩ := id wD
  simp only [Int.zero_add] at d4 d5 d6 d7 v4 v5 v6 v7 v8
  refine a_ald0 eX9_worth_0 ?_
  refine a_ild1 eX9_worth_1 ?_
  refine a_cV1 eX9_worth_2 lk_X9_102 mV_X9_hasRank sh_0 ⟨_, rfl, rfl⟩ mt_X9_hasRank rfl rfl rfl rfl rfl (c_X9_hasRank hR hct hrt hC wC (by omega) (fun hT2 => ?_) (fun hF2 => ?_))
  · skip
    dsimp only [Option.toList, List.cons_append, List.nil_append]
    refine a_if_eq 28 eX9_worth_5 (by decide) (by omega) (fun h => absurd h (by decide)) (fun _ => ?_)
    refine a_ild2 eX9_worth_8 ?_
    refine a_iconst eX9_worth_9 ?_
    refine a_bipush eX9_worth_10 (by decide) ?_
    refine a_cS3 eX9_worth_12 lk_X9_81 mS_X9_within mt_X9_within rfl rfl rfl rfl rfl rfl rfl (c_X9_within (by omega) (fun hT12 => ?_) (fun hF12 => ?_))
    · skip
      dsimp only [Option.toList, List.cons_append, List.nil_append]
      refine a_if_eq 28 eX9_worth_15 (by decide) (by omega) (fun h => absurd h (by decide)) (fun _ => ?_)
      refine a_ild3 eX9_worth_18 ?_
      refine a_iconst eX9_worth_19 ?_
      refine a_bipush eX9_worth_20 (by decide) ?_
      refine a_cS3 eX9_worth_22 lk_X9_81 mS_X9_within mt_X9_within rfl rfl rfl rfl rfl rfl rfl (c_X9_within (by omega) (fun hT22 => ?_) (fun hF22 => ?_))
      · skip
        dsimp only [Option.toList, List.cons_append, List.nil_append]
        refine a_if_ne 30 eX9_worth_25 (by decide) (by omega) (fun _ => ?_) (fun h => absurd h (by decide))
        refine a_ald0 eX9_worth_30 ?_
        refine a_getR 5 51 eX9_worth_31 fl_X9_41 rfl rfl sh_0 ((congrFun (congrFun hR _) _).trans rf_0_5) ?_
        refine a_ald0 eX9_worth_34 ?_
        refine a_getR 1 t eX9_worth_35 fl_X9_19 rfl rfl sh_0 ((congrFun (congrFun hR _) _).trans hrt) ?_
        refine a_ald0 eX9_worth_38 ?_
        refine a_getR 2 21 eX9_worth_39 fl_X9_26 rfl rfl sh_0 ((congrFun (congrFun hR _) _).trans rf_0_2) ?_
        refine a_ild3 eX9_worth_42 ?_
        refine a_eqtop (y0 := ((k.toNat : Nat) : Int)) (by omega) ?_
        refine a_cV3 eX9_worth_43 lk_X9_236 mV_X8_prepare sh_51 ⟨_, rfl, rfl⟩ mt_X8_prepare rfl rfl rfl rfl rfl rfl rfl (c_X8_prepare hct hR hC wC (by omega) wH hD wD hH (l1 := k.toNat) (by omega) (fun σ1 f1 hrd => ?_) hMm)
        dsimp only [Option.toList, List.cons_append, List.nil_append]
        have hR : σ1.2.2 = RF tw cs := by rw [f1.2]; exact hR
        have hC1 : cityC σ1 t m := cityC_lo hct (fun b j q => f1.1 b j (by omega) (by omega) (by omega)) hC
        have hTb := rdy_tbl hrd
        have hah1 := hrd.2
        refine a_ald0 eX9_worth_46 ?_
        refine a_getR 5 51 eX9_worth_47 fl_X9_41 rfl rfl sh_0 ((congrFun (congrFun hR _) _).trans rf_0_5) ?_
        refine a_ild1 eX9_worth_50 ?_
        refine a_ild2 eX9_worth_51 ?_
        refine a_ild3 eX9_worth_52 ?_
        refine a_cV3 eX9_worth_53 lk_X9_240 mV_X8_at sh_51 ⟨_, rfl, rfl⟩ mt_X8_at rfl rfl rfl rfl rfl rfl rfl (c_X8_at hR (by omega) ?_)
        dsimp only [Option.toList, List.cons_append, List.nil_append]
        refine a_eqtop (y0 := wW m (ahd m) k.toNat r n1) (by have h9 := hTb k.toNat r n1 (by omega) (by omega) (by omega) (by omega) (by omega); rw [Int.toNat_of_nonneg (by omega)] at h9; exact h9) ?_
        refine a_iret eX9_worth_56 rfl rfl ⟨Nat.zero_le _, Nat.zero_le _⟩ ?_
        exact h1 ⟨by omega, by omega, by omega⟩ σ1 f1 (rdy_mmo (by omega) hrd)
      · skip
        dsimp only [Option.toList, List.cons_append, List.nil_append]
        refine a_if_ne 30 eX9_worth_25 (by decide) (by omega) (fun h => absurd h (by decide)) (fun _ => ?_)
        refine a_iconst eX9_worth_28 ?_
        refine a_iret eX9_worth_29 rfl rfl ⟨Nat.zero_le _, Nat.zero_le _⟩ ?_
        exact h0 (fun q => by unfold vworth at q; omega)
    · skip
      dsimp only [Option.toList, List.cons_append, List.nil_append]
      refine a_if_eq 28 eX9_worth_15 (by decide) (by omega) (fun _ => ?_) (fun h => absurd h (by decide))
      refine a_iconst eX9_worth_28 ?_
      refine a_iret eX9_worth_29 rfl rfl ⟨Nat.zero_le _, Nat.zero_le _⟩ ?_
      exact h0 (fun q => by unfold vworth at q; omega)
  · skip
    dsimp only [Option.toList, List.cons_append, List.nil_append]
    refine a_if_eq 28 eX9_worth_5 (by decide) (by omega) (fun _ => ?_) (fun h => absurd h (by decide))
    refine a_iconst eX9_worth_28 ?_
    refine a_iret eX9_worth_29 rfl rfl ⟨Nat.zero_le _, Nat.zero_le _⟩ ?_
    exact h0 (fun q => by unfold vworth at q; omega)

set_option maxHeartbeats 4000000 in
set_option maxRecDepth 100000 in
theorem c_X9_isStart {l : Launch} {σ : aw_S} {Post : Option Value → aw_S → Prop} {tw cs : Bool} (hR : σ.2.2 = RF tw cs) {t : Nat} (hct : isCity t) (hrt : RF tw cs 0 1 = some t) {m : mS} (hC : cityC σ t m) (wC : wfCity m) {p k : Int} (hr : (-2147483648 ≤ p ∧ p ≤ 2147483647) ∧ (-2147483648 ≤ k ∧ k ≤ 2147483647)) (h1 : vgoing m p k → Post (some (.int (jI 1))) σ) (h0 : ¬ vgoing m p k → Post (some (.int (jI 0))) σ) : AE l yX9_isStart cX9_isStart 3 (some .boolean) 1 22 0 0 SH SH σ [.ref 0, .int (jI p), .int (jI k)] Post := by
  show AW l yX9_isStart cX9_isStart 3 (some .boolean) 1 22 0 0 SH Post SH 0 0 σ 0 [some (.ref 0), some (.int (jI p)), some (.int (jI k))] []
  obtain ⟨c1, c2, c3, c4, c5, c6, c7, c8⟩ := id hC
  obtain ⟨w1, w2, w3, w4, w5, w6, w7, w8⟩ := id wC
  refine a_ald0 eX9_isStart_0 ?_
  refine a_cV0 eX9_isStart_1 lk_X9_129 mV_X9_hasCity sh_0 ⟨_, rfl, rfl⟩ mt_X9_hasCity rfl rfl rfl rfl (c_X9_hasCity hR hct hrt hC wC (fun hT1 => ?_) (fun hF1 => ?_))
  · skip
    dsimp only [Option.toList, List.cons_append, List.nil_append]
    refine a_if_eq 31 eX9_isStart_4 (by decide) (by omega) (fun h => absurd h (by decide)) (fun _ => ?_)
    refine a_ild1 eX9_isStart_7 ?_
    refine a_iconst eX9_isStart_8 ?_
    refine a_bipush eX9_isStart_9 (by decide) ?_
    refine a_cS3 eX9_isStart_11 lk_X9_81 mS_X9_within mt_X9_within rfl rfl rfl rfl rfl rfl rfl (c_X9_within (by omega) (fun hT11 => ?_) (fun hF11 => ?_))
    · skip
      dsimp only [Option.toList, List.cons_append, List.nil_append]
      refine a_if_eq 31 eX9_isStart_14 (by decide) (by omega) (fun h => absurd h (by decide)) (fun _ => ?_)
      refine a_ild2 eX9_isStart_17 ?_
      refine a_iconst eX9_isStart_18 ?_
      refine a_bipush eX9_isStart_19 (by decide) ?_
      refine a_cS3 eX9_isStart_21 lk_X9_81 mS_X9_within mt_X9_within rfl rfl rfl rfl rfl rfl rfl (c_X9_within (by omega) (fun hT21 => ?_) (fun hF21 => ?_))
      · skip
        dsimp only [Option.toList, List.cons_append, List.nil_append]
        refine a_if_eq 31 eX9_isStart_24 (by decide) (by omega) (fun h => absurd h (by decide)) (fun _ => ?_)
        refine a_iconst eX9_isStart_27 ?_
        refine a_goto 32 eX9_isStart_28 (by decide) ?_
        refine a_zret eX9_isStart_32 rfl (by first | exact Or.inl rfl | exact Or.inr rfl | omega) rfl ⟨Nat.zero_le _, Nat.zero_le _⟩ ?_
        exact h1 ⟨by omega, by omega, by omega⟩
      · skip
        dsimp only [Option.toList, List.cons_append, List.nil_append]
        refine a_if_eq 31 eX9_isStart_24 (by decide) (by omega) (fun _ => ?_) (fun h => absurd h (by decide))
        refine a_iconst eX9_isStart_31 ?_
        refine a_zret eX9_isStart_32 rfl (by first | exact Or.inl rfl | exact Or.inr rfl | omega) rfl ⟨Nat.zero_le _, Nat.zero_le _⟩ ?_
        exact h0 (fun q => by unfold vgoing at q; omega)
    · skip
      dsimp only [Option.toList, List.cons_append, List.nil_append]
      refine a_if_eq 31 eX9_isStart_14 (by decide) (by omega) (fun _ => ?_) (fun h => absurd h (by decide))
      refine a_iconst eX9_isStart_31 ?_
      refine a_zret eX9_isStart_32 rfl (by first | exact Or.inl rfl | exact Or.inr rfl | omega) rfl ⟨Nat.zero_le _, Nat.zero_le _⟩ ?_
      exact h0 (fun q => by unfold vgoing at q; omega)
  · skip
    dsimp only [Option.toList, List.cons_append, List.nil_append]
    refine a_if_eq 31 eX9_isStart_4 (by decide) (by omega) (fun _ => ?_) (fun h => absurd h (by decide))
    refine a_iconst eX9_isStart_31 ?_
    refine a_zret eX9_isStart_32 rfl (by first | exact Or.inl rfl | exact Or.inr rfl | omega) rfl ⟨Nat.zero_le _, Nat.zero_le _⟩ ?_
    exact h0 (fun q => by unfold vgoing at q; omega)

set_option maxHeartbeats 4000000 in
set_option maxRecDepth 100000 in
theorem c_X9_going {l : Launch} {σ : aw_S} {Post : Option Value → aw_S → Prop} {tw cs : Bool} (hR : σ.2.2 = RF tw cs) {t : Nat} (hct : isCity t) (hrt : RF tw cs 0 1 = some t) {m : mS} (hC : cityC σ t m) (wC : wfCity m) {N : Int} (hD : dayC σ 21 0 m) (wD : wfDay m 0 N) (hN : 0 ≤ N ∧ N ≤ 1000) (hH : chC σ m) (wH : wfCh m) (hMm : mmo σ m) {p k w : Int} (hr : (-2147483648 ≤ p ∧ p ≤ 2147483647) ∧ (-2147483648 ≤ k ∧ k ≤ 2147483647) ∧ (-2147483648 ≤ w ∧ w ≤ 2147483647)) (h1 : vgoing m p k → (0 ≤ w ∧ w ≤ 1) → ∀ σ', frW σ σ' → mmo σ' m → Post (some (.int (jI (if w = 0 then gvalM m p k.toNat else gwhoM m p k.toNat)))) σ') (h0 : ¬ (vgoing m p k ∧ (0 ≤ w ∧ w ≤ 1)) → Post (some (.int (jI (-1)))) σ) : AE l yX9_going cX9_going 5 (some .int) 6 150 0 0 SH SH σ [.ref 0, .int (jI p), .int (jI k), .int (jI w)] Post := by
  show AW l yX9_going cX9_going 5 (some .int) 6 150 0 0 SH Post SH 0 0 σ 0 [some (.ref 0), some (.int (jI p)), some (.int (jI k)), some (.int (jI w)), none] []
  obtain ⟨c1, c2, c3, c4, c5, c6, c7, c8⟩ := id hC
  obtain ⟨w1, w2, w3, w4, w5, w6, w7, w8⟩ := id wC
  obtain ⟨d1, d2, d3, d4, d5, d6, d7⟩ := id hD
  obtain ⟨v1, v2, v3, v4, v5, v6, v7, v8⟩ := id wD
  simp only [Int.zero_add] at d4 d5 d6 d7 v4 v5 v6 v7 v8
  refine a_ald0 eX9_going_0 ?_
  refine a_ild1 eX9_going_1 ?_
  refine a_ild2 eX9_going_2 ?_
  refine a_cV2 eX9_going_3 lk_X9_244 mV_X9_isStart sh_0 ⟨_, rfl, rfl⟩ mt_X9_isStart rfl rfl rfl rfl rfl rfl (c_X9_isStart hR hct hrt hC wC (by omega) (fun hT3 => ?_) (fun hF3 => ?_))
  · skip
    dsimp only [Option.toList, List.cons_append, List.nil_append]
    refine a_if_eq 18 eX9_going_6 (by decide) (by omega) (fun h => absurd h (by decide)) (fun _ => ?_)
    refine a_ild3 eX9_going_9 ?_
    refine a_iconst eX9_going_10 ?_
    refine a_iconst eX9_going_11 ?_
    refine a_cS3 eX9_going_12 lk_X9_81 mS_X9_within mt_X9_within rfl rfl rfl rfl rfl rfl rfl (c_X9_within (by omega) (fun hT12 => ?_) (fun hF12 => ?_))
    · skip
      dsimp only [Option.toList, List.cons_append, List.nil_append]
      refine a_if_ne 20 eX9_going_15 (by decide) (by omega) (fun _ => ?_) (fun h => absurd h (by decide))
      have hgg := hT3
      unfold vgoing at hgg
      refine a_ald0 eX9_going_20 ?_
      refine a_getR 5 51 eX9_going_21 fl_X9_41 rfl rfl sh_0 ((congrFun (congrFun hR _) _).trans rf_0_5) ?_
      refine a_ald0 eX9_going_24 ?_
      refine a_getR 1 t eX9_going_25 fl_X9_19 rfl rfl sh_0 ((congrFun (congrFun hR _) _).trans hrt) ?_
      refine a_ald0 eX9_going_28 ?_
      refine a_getR 2 21 eX9_going_29 fl_X9_26 rfl rfl sh_0 ((congrFun (congrFun hR _) _).trans rf_0_2) ?_
      refine a_ild2 eX9_going_32 ?_
      refine a_eqtop (y0 := ((k.toNat : Nat) : Int)) (by omega) ?_
      refine a_cV3 eX9_going_33 lk_X9_236 mV_X8_prepare sh_51 ⟨_, rfl, rfl⟩ mt_X8_prepare rfl rfl rfl rfl rfl rfl rfl (c_X8_prepare hct hR hC wC (by omega) wH hD wD hH (l1 := k.toNat) (by omega) (fun σ1 f1 hrd => ?_) hMm)
      dsimp only [Option.toList, List.cons_append, List.nil_append]
      have hR : σ1.2.2 = RF tw cs := by rw [f1.2]; exact hR
      have hC1 : cityC σ1 t m := cityC_lo hct (fun b j q => f1.1 b j (by omega) (by omega) (by omega)) hC
      have hTb := rdy_tbl hrd
      have hah1 := hrd.2
      have hoc := ocm_who (m := m) (ah := ahd m) (p := p) (l := k.toNat) wC hgg.1 wH
      have hgw := (gbest_b wC hgg.1 wH (ah := ahd m) (p := p) (l := k.toNat) (m 0 0).toNat (by omega)).2
      refine a_ald0 eX9_going_36 ?_
      refine a_getR 5 51 eX9_going_37 fl_X9_41 rfl rfl sh_0 ((congrFun (congrFun hR _) _).trans rf_0_5) ?_
      refine a_ald0 eX9_going_40 ?_
      refine a_getR 1 t eX9_going_41 fl_X9_19 rfl rfl sh_0 ((congrFun (congrFun hR _) _).trans hrt) ?_
      refine a_ild1 eX9_going_44 ?_
      refine a_ild2 eX9_going_45 ?_
      refine a_eqtop (y0 := ((k.toNat : Nat) : Int)) (by omega) ?_
      refine a_cV3 eX9_going_46 lk_X9_247 mV_X8_bestRank sh_51 ⟨_, rfl, rfl⟩ mt_X8_bestRank rfl rfl rfl rfl rfl rfl rfl (c_X8_bestRank hct hR hC1 wC (by omega) wH hah1 (by omega) (by omega) hTb ?_)
      dsimp only [Option.toList, List.cons_append, List.nil_append]
      refine a_ist4 eX9_going_49 (by decide) aw_n2i ?_
      refine a_ild3 eX9_going_51 ?_
      refine a_iconst eX9_going_52 ?_
      refine a_icmp_ne 61 eX9_going_53 (by decide) (by omega) (fun hT53 => ?_) (fun hF53 => ?_)
      · skip
        refine a_ald0 eX9_going_61 ?_
        refine a_getR 5 51 eX9_going_62 fl_X9_41 rfl rfl sh_0 ((congrFun (congrFun hR _) _).trans rf_0_5) ?_
        refine a_ald0 eX9_going_65 ?_
        refine a_getR 1 t eX9_going_66 fl_X9_19 rfl rfl sh_0 ((congrFun (congrFun hR _) _).trans hrt) ?_
        refine a_ild4 eX9_going_69 ?_
        refine a_ild1 eX9_going_71 ?_
        refine a_ild2 eX9_going_72 ?_
        refine a_eqtop (y0 := ((k.toNat : Nat) : Int)) (by omega) ?_
        refine a_cV4 eX9_going_73 lk_X9_251 mV_X8_onComing sh_51 ⟨_, rfl, rfl⟩ mt_X8_onComing rfl rfl rfl rfl rfl rfl rfl rfl (c_X8_onComing hct hR hC1 wC (by omega) wH hah1 (by omega) (by omega) (by omega) hTb ?_)
        dsimp only [Option.toList, List.cons_append, List.nil_append]
        refine a_iret eX9_going_76 rfl rfl ⟨Nat.zero_le _, Nat.zero_le _⟩ ?_
        have h9 := h1 hT3 (by omega) σ1 f1 (rdy_mmo (by omega) hrd)
        unfold gvalM gwhoM at h9
        rw [← hoc] at h9
        first
          | (rw [if_pos (by omega)] at h9; exact h9)
          | (rw [if_neg (by omega)] at h9; exact h9)
      · skip
        refine a_ild4 eX9_going_56 ?_
        refine a_goto 76 eX9_going_58 (by decide) ?_
        refine a_iret eX9_going_76 rfl rfl ⟨Nat.zero_le _, Nat.zero_le _⟩ ?_
        have h9 := h1 hT3 (by omega) σ1 f1 (rdy_mmo (by omega) hrd)
        unfold gvalM gwhoM at h9
        rw [← hoc] at h9
        first
          | (rw [if_pos (by omega)] at h9; exact h9)
          | (rw [if_neg (by omega)] at h9; exact h9)
    · skip
      dsimp only [Option.toList, List.cons_append, List.nil_append]
      refine a_if_ne 20 eX9_going_15 (by decide) (by omega) (fun h => absurd h (by decide)) (fun _ => ?_)
      refine a_iconst eX9_going_18 ?_
      refine a_iret eX9_going_19 rfl rfl ⟨Nat.zero_le _, Nat.zero_le _⟩ ?_
      first
        | exact h0 (fun q => hF3 q.1)
        | exact h0 (fun q => by omega)
  · skip
    dsimp only [Option.toList, List.cons_append, List.nil_append]
    refine a_if_eq 18 eX9_going_6 (by decide) (by omega) (fun _ => ?_) (fun h => absurd h (by decide))
    refine a_iconst eX9_going_18 ?_
    refine a_iret eX9_going_19 rfl rfl ⟨Nat.zero_le _, Nat.zero_le _⟩ ?_
    first
      | exact h0 (fun q => hF3 q.1)
      | exact h0 (fun q => by omega)

set_option maxHeartbeats 4000000 in
set_option maxRecDepth 100000 in
theorem c_X9_thumbBadness {l : Launch} {σ : aw_S} {Post : Option Value → aw_S → Prop} {tw cs : Bool} (hR : σ.2.2 = RF tw cs) {t : Nat} (hct : isCity t) (hrt : RF tw cs 0 1 = some t) {m : mS} (hC : cityC σ t m) (wC : wfCity m) {N : Int} (hD : dayC σ 21 0 m) (wD : wfDay m 0 N) (hN : 0 ≤ N ∧ N ≤ 1000) (hH : chC σ m) (wH : wfCh m) (hMm : mmo σ m) {th r p : Int} (hr : (0 ≤ th ∧ th ≤ 2) ∧ (0 ≤ r ∧ r < m 0 0) ∧ (0 ≤ p ∧ p ≤ 99)) (hk : Post (some (.int (jI (bad m th p r)))) σ) : AE l yX9_thumbBadness cX9_thumbBadness 4 (some .int) 2 43 0 0 SH SH σ [.ref 0, .int (jI th), .int (jI r), .int (jI p)] Post := by
  show AW l yX9_thumbBadness cX9_thumbBadness 4 (some .int) 2 43 0 0 SH Post SH 0 0 σ 0 [some (.ref 0), some (.int (jI th)), some (.int (jI r)), some (.int (jI p))] []
  obtain ⟨c1, c2, c3, c4, c5, c6, c7, c8⟩ := id hC
  obtain ⟨w1, w2, w3, w4, w5, w6, w7, w8⟩ := id wC
  obtain ⟨d1, d2, d3, d4, d5, d6, d7⟩ := id hD
  obtain ⟨v1, v2, v3, v4, v5, v6, v7, v8⟩ := id wD
  simp only [Int.zero_add] at d4 d5 d6 d7 v4 v5 v6 v7 v8
  have c2k := c2 r (by omega) (by omega)
  have w2k := w2 r (by omega) (by omega)
  have d4k := d4 r (by omega) (by omega)
  have hck := hH r (by omega) (by omega)
  refine a_ild1 eX9_thumbBadness_0 ?_
  by_cases hsw : th = 0 ∨ th = 1
  · rcases hsw with rfl | rfl
    · refine a_lookup 27 28 eX9_thumbBadness_1 (by omega) (by decide) (by decide) (by decide) ?_
      refine a_ald0 eX9_thumbBadness_28 ?_
      refine a_getR 1 t eX9_thumbBadness_29 fl_X9_19 rfl rfl sh_0 ((congrFun (congrFun hR _) _).trans hrt) ?_
      refine a_ild2 eX9_thumbBadness_32 ?_
      refine a_ild3 eX9_thumbBadness_33 ?_
      refine a_cV2 eX9_thumbBadness_34 lk_X9_337 mV_X3_minutesTo (sh_city hct) ⟨_, rfl, rfl⟩ mt_X3_minutesTo rfl rfl rfl rfl rfl rfl (c_X3_minutesTo hct hR (by omega) (by omega) (by omega) ?_)
      dsimp only [Option.toList, List.cons_append, List.nil_append]
      refine a_iret eX9_thumbBadness_37 rfl rfl ⟨Nat.zero_le _, Nat.zero_le _⟩ ?_
      first
        | (have e : bad m 0 p r = aw_ap (m 1 r) p := rfl
           rw [e, ← c2k.1] at hk; exact hk)
        | (have e : bad m 1 p r = m 10 r := rfl
           rw [e, ← d4k.1] at hk; exact hk)
        | (have e : bad m th p r = -(m 13 r) := by unfold bad; rw [if_neg (by omega), if_neg (by omega)]
           rw [e, ← hck.1] at hk; exact hk)
    · refine a_lookup 37 38 eX9_thumbBadness_1 (by omega) (by decide) (by decide) (by decide) ?_
      refine a_ald0 eX9_thumbBadness_38 ?_
      refine a_getR 2 21 eX9_thumbBadness_39 fl_X9_26 rfl rfl sh_0 ((congrFun (congrFun hR _) _).trans rf_0_2) ?_
      refine a_getR 4 (21 + 9) eX9_thumbBadness_42 fl_X9_116 rfl rfl (sh_day (Or.inl rfl)) ((congrFun (congrFun hR _) _).trans (rf_day_4 (Or.inl rfl))) ?_
      refine a_ild2 eX9_thumbBadness_45 ?_
      refine a_iald eX9_thumbBadness_46 (sh_day_9 (Or.inl rfl)) rfl (by omega) ?_
      refine a_iret eX9_thumbBadness_47 rfl rfl ⟨Nat.zero_le _, Nat.zero_le _⟩ ?_
      first
        | (have e : bad m 0 p r = aw_ap (m 1 r) p := rfl
           rw [e, ← c2k.1] at hk; exact hk)
        | (have e : bad m 1 p r = m 10 r := rfl
           rw [e, ← d4k.1] at hk; exact hk)
        | (have e : bad m th p r = -(m 13 r) := by unfold bad; rw [if_neg (by omega), if_neg (by omega)]
           rw [e, ← hck.1] at hk; exact hk)
  · refine a_lookup 47 48 eX9_thumbBadness_1 (by omega) (by decide) (by simp [Op.lookupswitch.offset]; omega) (by decide) ?_
    refine a_ald0 eX9_thumbBadness_48 ?_
    refine a_getR 5 51 eX9_thumbBadness_49 fl_X9_41 rfl rfl sh_0 ((congrFun (congrFun hR _) _).trans rf_0_5) ?_
    refine a_getR 0 52 eX9_thumbBadness_52 fl_X9_340 rfl rfl sh_51 ((congrFun (congrFun hR _) _).trans rf_51_0) ?_
    refine a_ild2 eX9_thumbBadness_55 ?_
    refine a_iald eX9_thumbBadness_56 sh_52 rfl (by omega) ?_
    refine a_ineg eX9_thumbBadness_57 ?_
    refine a_iret eX9_thumbBadness_58 rfl rfl ⟨Nat.zero_le _, Nat.zero_le _⟩ ?_
    first
      | (have e : bad m 0 p r = aw_ap (m 1 r) p := rfl
         rw [e, ← c2k.1] at hk; exact hk)
      | (have e : bad m 1 p r = m 10 r := rfl
         rw [e, ← d4k.1] at hk; exact hk)
      | (have e : bad m th p r = -(m 13 r) := by unfold bad; rw [if_neg (by omega), if_neg (by omega)]
         rw [e, ← hck.1] at hk; exact hk)

set_option maxHeartbeats 4000000 in
set_option maxRecDepth 100000 in
theorem lp_thb {l : Launch} {σ : aw_S} {Post : Option Value → aw_S → Prop} {tw cs : Bool} (hR : σ.2.2 = RF tw cs) {t : Nat} (hct : isCity t) (hrt : RF tw cs 0 1 = some t) {m : mS} (hC : cityC σ t m) (wC : wfCity m) {N : Int} (hD : dayC σ 21 0 m) (wD : wfDay m 0 N) (hN : 0 ≤ N ∧ N ≤ 1000) (hH : chC σ m) (wH : wfCh m) (hMm : mmo σ m) {th p : Int} (hr : (0 ≤ th ∧ th ≤ 2) ∧ (0 ≤ p ∧ p ≤ 99)) (h00 : 0 < m 0 0) (hk : Post (some (.int (jI (thbM m th p)))) σ) : ∀ (n : Nat) (k : Nat), ((m 0 0 - (k : Int) - 1).toNat ≤ n) → ((k : Int) + 1 ≤ m 0 0) → AW l yX9_thumbRank cX9_thumbRank 5 (some .int) 3 66 0 0 SH Post SH 0 0 (σ) 5 [some (.ref 0), some (.int (jI th)), some (.int (jI p)), some (.int (jI (thb m th p k))), some (.int (jI ((k : Int) + 1)))] [] := by
  intro n
  induction n with
  | zero =>
    intro k hm hkn
    obtain ⟨c1, c2, c3, c4, c5, c6, c7, c8⟩ := id hC
    obtain ⟨w1, w2, w3, w4, w5, w6, w7, w8⟩ := id wC
    obtain ⟨d1, d2, d3, d4, d5, d6, d7⟩ := id hD
    obtain ⟨v1, v2, v3, v4, v5, v6, v7, v8⟩ := id wD
    simp only [Int.zero_add] at d4 d5 d6 d7 v4 v5 v6 v7 v8
    have hb := thb_b m th p k
    have hbb : ∀ r : Int, 0 ≤ r → r < m 0 0 → -16 ≤ bad m th p r ∧ bad m th p r ≤ 200 := fun r r1 r2 => by
      have := w2 r r1 r2
      have hab := aw_ap_b (a := m 1 r) (b := p) (by omega) (by omega)
      have := v4 r r1 (by omega)
      have := wH r r1 (by omega)
      unfold bad
      split
      · omega
      · split <;> omega
    have hb1 := hbb (thb m th p k) (by omega) (by omega)
    refine a_ild4 eX9_thumbRank_5 ?_
    refine a_ald0 eX9_thumbRank_7 ?_
    refine a_getR 1 t eX9_thumbRank_8 fl_X9_19 rfl rfl sh_0 ((congrFun (congrFun hR _) _).trans hrt) ?_
    refine a_getI 0 eX9_thumbRank_11 fl_X9_99 rfl rfl (sh_city hct) ?_
    refine a_eqtop (y0 := m 0 0) (by exact c1) ?_
    refine a_icmp_ge 44 eX9_thumbRank_14 (by decide) (by omega) (fun hT14 => ?_) (fun hF14 => ?_)
    · skip
      refine a_ild3 eX9_thumbRank_44 ?_
      refine a_iret eX9_thumbRank_45 rfl rfl ⟨Nat.zero_le _, Nat.zero_le _⟩ ?_
      unfold thbM at hk
      rw [show (m 0 0).toNat - 1 = k by omega] at hk
      exact hk
    · skip
      exfalso; omega
  | succ n ih =>
    intro k hm hkn
    obtain ⟨c1, c2, c3, c4, c5, c6, c7, c8⟩ := id hC
    obtain ⟨w1, w2, w3, w4, w5, w6, w7, w8⟩ := id wC
    obtain ⟨d1, d2, d3, d4, d5, d6, d7⟩ := id hD
    obtain ⟨v1, v2, v3, v4, v5, v6, v7, v8⟩ := id wD
    simp only [Int.zero_add] at d4 d5 d6 d7 v4 v5 v6 v7 v8
    have hb := thb_b m th p k
    have hbb : ∀ r : Int, 0 ≤ r → r < m 0 0 → -16 ≤ bad m th p r ∧ bad m th p r ≤ 200 := fun r r1 r2 => by
      have := w2 r r1 r2
      have hab := aw_ap_b (a := m 1 r) (b := p) (by omega) (by omega)
      have := v4 r r1 (by omega)
      have := wH r r1 (by omega)
      unfold bad
      split
      · omega
      · split <;> omega
    have hb1 := hbb (thb m th p k) (by omega) (by omega)
    refine a_ild4 eX9_thumbRank_5 ?_
    refine a_ald0 eX9_thumbRank_7 ?_
    refine a_getR 1 t eX9_thumbRank_8 fl_X9_19 rfl rfl sh_0 ((congrFun (congrFun hR _) _).trans hrt) ?_
    refine a_getI 0 eX9_thumbRank_11 fl_X9_99 rfl rfl (sh_city hct) ?_
    refine a_eqtop (y0 := m 0 0) (by exact c1) ?_
    refine a_icmp_ge 44 eX9_thumbRank_14 (by decide) (by omega) (fun hT14 => ?_) (fun hF14 => ?_)
    · skip
      refine a_ild3 eX9_thumbRank_44 ?_
      refine a_iret eX9_thumbRank_45 rfl rfl ⟨Nat.zero_le _, Nat.zero_le _⟩ ?_
      unfold thbM at hk
      rw [show (m 0 0).toNat - 1 = k by omega] at hk
      exact hk
    · skip
      have hb2 := hbb ((k : Int) + 1) (by omega) (by omega)
      refine a_ald0 eX9_thumbRank_17 ?_
      refine a_ild1 eX9_thumbRank_18 ?_
      refine a_ild4 eX9_thumbRank_19 ?_
      refine a_ild2 eX9_thumbRank_21 ?_
      refine a_cV3 eX9_thumbRank_22 lk_X9_334 mV_X9_thumbBadness sh_0 ⟨_, rfl, rfl⟩ mt_X9_thumbBadness rfl rfl rfl rfl rfl rfl rfl (c_X9_thumbBadness hR hct hrt hC wC hD wD hN hH wH hMm (by omega) ?_)
      dsimp only [Option.toList, List.cons_append, List.nil_append]
      refine a_ald0 eX9_thumbRank_25 ?_
      refine a_ild1 eX9_thumbRank_26 ?_
      refine a_ild3 eX9_thumbRank_27 ?_
      refine a_ild2 eX9_thumbRank_28 ?_
      refine a_cV3 eX9_thumbRank_29 lk_X9_334 mV_X9_thumbBadness sh_0 ⟨_, rfl, rfl⟩ mt_X9_thumbBadness rfl rfl rfl rfl rfl rfl rfl (c_X9_thumbBadness hR hct hrt hC wC hD wD hN hH wH hMm (by omega) ?_)
      dsimp only [Option.toList, List.cons_append, List.nil_append]
      refine a_icmp_ge 38 eX9_thumbRank_32 (by decide) (by omega) (fun hT32 => ?_) (fun hF32 => ?_)
      · skip
        refine a_iinc4 eX9_thumbRank_38 (by decide) aw_n2i ?_
        refine a_goto 5 eX9_thumbRank_41 (by decide) ?_
        have e1 : thb m th p (k + 1) = thb m th p k := if_neg (by omega)
        have ih1 := ih (k + 1) (by omega) (by omega)
        rw [e1, show (((k + 1 : Nat) : Nat) : Int) = (k : Int) + 1 by omega] at ih1
        exact ih1
      · skip
        refine a_ild4 eX9_thumbRank_35 ?_
        refine a_ist3 eX9_thumbRank_37 (by decide) aw_n2i ?_
        refine a_iinc4 eX9_thumbRank_38 (by decide) aw_n2i ?_
        refine a_goto 5 eX9_thumbRank_41 (by decide) ?_
        have e1 : thb m th p (k + 1) = (k : Int) + 1 := if_pos (by omega)
        have ih1 := ih (k + 1) (by omega) (by omega)
        rw [e1, show (((k + 1 : Nat) : Nat) : Int) = (k : Int) + 1 by omega] at ih1
        exact ih1

set_option maxHeartbeats 4000000 in
set_option maxRecDepth 100000 in
theorem c_X9_thumbRank {l : Launch} {σ : aw_S} {Post : Option Value → aw_S → Prop} {tw cs : Bool} (hR : σ.2.2 = RF tw cs) {t : Nat} (hct : isCity t) (hrt : RF tw cs 0 1 = some t) {m : mS} (hC : cityC σ t m) (wC : wfCity m) {N : Int} (hD : dayC σ 21 0 m) (wD : wfDay m 0 N) (hN : 0 ≤ N ∧ N ≤ 1000) (hH : chC σ m) (wH : wfCh m) (hMm : mmo σ m) {th p : Int} (hr : (0 ≤ th ∧ th ≤ 2) ∧ (0 ≤ p ∧ p ≤ 99)) (h00 : 0 < m 0 0) (hk : Post (some (.int (jI (thbM m th p)))) σ) : AE l yX9_thumbRank cX9_thumbRank 5 (some .int) 3 66 0 0 SH SH σ [.ref 0, .int (jI th), .int (jI p)] Post := by
  show AW l yX9_thumbRank cX9_thumbRank 5 (some .int) 3 66 0 0 SH Post SH 0 0 σ 0 [some (.ref 0), some (.int (jI th)), some (.int (jI p)), none, none] []
  refine a_iconst eX9_thumbRank_0 ?_
  refine a_ist3 eX9_thumbRank_1 (by decide) aw_n2i ?_
  refine a_iconst eX9_thumbRank_2 ?_
  refine a_ist4 eX9_thumbRank_3 (by decide) aw_n2i ?_
  exact lp_thb hR hct hrt hC wC hD wD hN hH wH hMm hr h00 hk _ 0 (Nat.le_refl _) (by omega)

set_option maxHeartbeats 4000000 in
set_option maxRecDepth 100000 in
theorem c_X9_thumb {l : Launch} {σ : aw_S} {Post : Option Value → aw_S → Prop} {tw cs : Bool} (hR : σ.2.2 = RF tw cs) {t : Nat} (hct : isCity t) (hrt : RF tw cs 0 1 = some t) {m : mS} (hC : cityC σ t m) (wC : wfCity m) {N : Int} (hD : dayC σ 21 0 m) (wD : wfDay m 0 N) (hN : 0 ≤ N ∧ N ≤ 1000) (hH : chC σ m) (wH : wfCh m) (hMm : mmo σ m) {th p k w : Int} (hr : (-2147483648 ≤ th ∧ th ≤ 2147483647) ∧ (-2147483648 ≤ p ∧ p ≤ 2147483647) ∧ (-2147483648 ≤ k ∧ k ≤ 2147483647) ∧ (-2147483648 ≤ w ∧ w ≤ 2147483647)) (h1 : vgoing m p k → (0 ≤ th ∧ th ≤ 2) → (0 ≤ w ∧ w ≤ 1) → ∀ σ', frW σ σ' → mmo σ' m → Post (some (.int (jI (if w = 0 then tlo m th p k.toNat else thbM m th p)))) σ') (h0 : ¬ (vgoing m p k ∧ (0 ≤ th ∧ th ≤ 2) ∧ (0 ≤ w ∧ w ≤ 1)) → Post (some (.int (jI (-1)))) σ) : AE l yX9_thumb cX9_thumb 7 (some .int) 6 150 0 0 SH SH σ [.ref 0, .int (jI th), .int (jI p), .int (jI k), .int (jI w)] Post := by
  show AW l yX9_thumb cX9_thumb 7 (some .int) 6 150 0 0 SH Post SH 0 0 σ 0 [some (.ref 0), some (.int (jI th)), some (.int (jI p)), some (.int (jI k)), some (.int (jI w)), none, none] []
  obtain ⟨c1, c2, c3, c4, c5, c6, c7, c8⟩ := id hC
  obtain ⟨w1, w2, w3, w4, w5, w6, w7, w8⟩ := id wC
  obtain ⟨d1, d2, d3, d4, d5, d6, d7⟩ := id hD
  obtain ⟨v1, v2, v3, v4, v5, v6, v7, v8⟩ := id wD
  simp only [Int.zero_add] at d4 d5 d6 d7 v4 v5 v6 v7 v8
  refine a_ild1 eX9_thumb_0 ?_
  refine a_iconst eX9_thumb_1 ?_
  refine a_iconst eX9_thumb_2 ?_
  refine a_cS3 eX9_thumb_3 lk_X9_81 mS_X9_within mt_X9_within rfl rfl rfl rfl rfl rfl rfl (c_X9_within (by omega) (fun hT3 => ?_) (fun hF3 => ?_))
  · skip
    dsimp only [Option.toList, List.cons_append, List.nil_append]
    refine a_if_eq 28 eX9_thumb_6 (by decide) (by omega) (fun h => absurd h (by decide)) (fun _ => ?_)
    refine a_ald0 eX9_thumb_9 ?_
    refine a_ild2 eX9_thumb_10 ?_
    refine a_ild3 eX9_thumb_11 ?_
    refine a_cV2 eX9_thumb_12 lk_X9_244 mV_X9_isStart sh_0 ⟨_, rfl, rfl⟩ mt_X9_isStart rfl rfl rfl rfl rfl rfl (c_X9_isStart hR hct hrt hC wC (by omega) (fun hT12 => ?_) (fun hF12 => ?_))
    · skip
      dsimp only [Option.toList, List.cons_append, List.nil_append]
      refine a_if_eq 28 eX9_thumb_15 (by decide) (by omega) (fun h => absurd h (by decide)) (fun _ => ?_)
      refine a_ild4 eX9_thumb_18 ?_
      refine a_iconst eX9_thumb_20 ?_
      refine a_iconst eX9_thumb_21 ?_
      refine a_cS3 eX9_thumb_22 lk_X9_81 mS_X9_within mt_X9_within rfl rfl rfl rfl rfl rfl rfl (c_X9_within (by omega) (fun hT22 => ?_) (fun hF22 => ?_))
      · skip
        dsimp only [Option.toList, List.cons_append, List.nil_append]
        refine a_if_ne 30 eX9_thumb_25 (by decide) (by omega) (fun _ => ?_) (fun h => absurd h (by decide))
        have hgg := hT12
        unfold vgoing at hgg
        have htb := thb_b m th p ((m 0 0).toNat - 1)
        rw [show thb m th p ((m 0 0).toNat - 1) = thbM m th p from rfl] at htb
        refine a_ald0 eX9_thumb_30 ?_
        refine a_ild1 eX9_thumb_31 ?_
        refine a_ild2 eX9_thumb_32 ?_
        refine a_cV2 eX9_thumb_33 lk_X9_255 mV_X9_thumbRank sh_0 ⟨_, rfl, rfl⟩ mt_X9_thumbRank rfl rfl rfl rfl rfl rfl (c_X9_thumbRank hR hct hrt hC wC hD wD hN hH wH hMm (by omega) (by omega) ?_)
        dsimp only [Option.toList, List.cons_append, List.nil_append]
        refine a_ist5 eX9_thumb_36 (by decide) aw_n2i ?_
        refine a_ild4 eX9_thumb_38 ?_
        refine a_iconst eX9_thumb_40 ?_
        refine a_icmp_ne 47 eX9_thumb_41 (by decide) (by omega) (fun hT41 => ?_) (fun hF41 => ?_)
        · skip
          refine a_ald0 eX9_thumb_47 ?_
          refine a_getR 5 51 eX9_thumb_48 fl_X9_41 rfl rfl sh_0 ((congrFun (congrFun hR _) _).trans rf_0_5) ?_
          refine a_ald0 eX9_thumb_51 ?_
          refine a_getR 1 t eX9_thumb_52 fl_X9_19 rfl rfl sh_0 ((congrFun (congrFun hR _) _).trans hrt) ?_
          refine a_ald0 eX9_thumb_55 ?_
          refine a_getR 2 21 eX9_thumb_56 fl_X9_26 rfl rfl sh_0 ((congrFun (congrFun hR _) _).trans rf_0_2) ?_
          refine a_ild3 eX9_thumb_59 ?_
          refine a_eqtop (y0 := ((k.toNat : Nat) : Int)) (by omega) ?_
          refine a_cV3 eX9_thumb_60 lk_X9_236 mV_X8_prepare sh_51 ⟨_, rfl, rfl⟩ mt_X8_prepare rfl rfl rfl rfl rfl rfl rfl (c_X8_prepare hct hR hC wC (by omega) wH hD wD hH (l1 := k.toNat) (by omega) (fun σ1 f1 hrd => ?_) hMm)
          dsimp only [Option.toList, List.cons_append, List.nil_append]
          have hR : σ1.2.2 = RF tw cs := by rw [f1.2]; exact hR
          have hC1 : cityC σ1 t m := cityC_lo hct (fun b j q => f1.1 b j (by omega) (by omega) (by omega)) hC
          have hTb := rdy_tbl hrd
          have hah1 := hrd.2
          have hoc := ocm_who (m := m) (ah := ahd m) (p := p) (l := k.toNat) wC hgg.1 wH
          have hgw := (gbest_b wC hgg.1 wH (ah := ahd m) (p := p) (l := k.toNat) (m 0 0).toNat (by omega)).2
          refine a_ald0 eX9_thumb_63 ?_
          refine a_getR 5 51 eX9_thumb_64 fl_X9_41 rfl rfl sh_0 ((congrFun (congrFun hR _) _).trans rf_0_5) ?_
          refine a_ald0 eX9_thumb_67 ?_
          refine a_getR 1 t eX9_thumb_68 fl_X9_19 rfl rfl sh_0 ((congrFun (congrFun hR _) _).trans hrt) ?_
          refine a_ild2 eX9_thumb_71 ?_
          refine a_ild3 eX9_thumb_72 ?_
          refine a_eqtop (y0 := ((k.toNat : Nat) : Int)) (by omega) ?_
          refine a_cV3 eX9_thumb_73 lk_X9_247 mV_X8_bestRank sh_51 ⟨_, rfl, rfl⟩ mt_X8_bestRank rfl rfl rfl rfl rfl rfl rfl (c_X8_bestRank hct hR hC1 wC (by omega) wH hah1 (by omega) (by omega) hTb ?_)
          dsimp only [Option.toList, List.cons_append, List.nil_append]
          refine a_ist6 eX9_thumb_76 (by decide) aw_n2i ?_
          refine a_ald0 eX9_thumb_78 ?_
          refine a_getR 5 51 eX9_thumb_79 fl_X9_41 rfl rfl sh_0 ((congrFun (congrFun hR _) _).trans rf_0_5) ?_
          refine a_ald0 eX9_thumb_82 ?_
          refine a_getR 1 t eX9_thumb_83 fl_X9_19 rfl rfl sh_0 ((congrFun (congrFun hR _) _).trans hrt) ?_
          refine a_ild6 eX9_thumb_86 ?_
          refine a_ild2 eX9_thumb_88 ?_
          refine a_ild3 eX9_thumb_89 ?_
          refine a_eqtop (y0 := ((k.toNat : Nat) : Int)) (by omega) ?_
          refine a_cV4 eX9_thumb_90 lk_X9_251 mV_X8_onComing sh_51 ⟨_, rfl, rfl⟩ mt_X8_onComing rfl rfl rfl rfl rfl rfl rfl rfl (c_X8_onComing hct hR hC1 wC (by omega) wH hah1 (by omega) (by omega) (by omega) hTb ?_)
          dsimp only [Option.toList, List.cons_append, List.nil_append]
          refine a_ald0 eX9_thumb_93 ?_
          refine a_getR 5 51 eX9_thumb_94 fl_X9_41 rfl rfl sh_0 ((congrFun (congrFun hR _) _).trans rf_0_5) ?_
          refine a_ald0 eX9_thumb_97 ?_
          refine a_getR 1 t eX9_thumb_98 fl_X9_19 rfl rfl sh_0 ((congrFun (congrFun hR _) _).trans hrt) ?_
          refine a_ild5 eX9_thumb_101 ?_
          refine a_ild2 eX9_thumb_103 ?_
          refine a_ild3 eX9_thumb_104 ?_
          refine a_eqtop (y0 := ((k.toNat : Nat) : Int)) (by omega) ?_
          refine a_cV4 eX9_thumb_105 lk_X9_251 mV_X8_onComing sh_51 ⟨_, rfl, rfl⟩ mt_X8_onComing rfl rfl rfl rfl rfl rfl rfl rfl (c_X8_onComing hct hR hC1 wC (by omega) wH hah1 (by omega) (by omega) (by omega) hTb ?_)
          dsimp only [Option.toList, List.cons_append, List.nil_append]
          refine a_isub eX9_thumb_108 ?_
          refine a_iret eX9_thumb_109 rfl rfl ⟨Nat.zero_le _, Nat.zero_le _⟩ ?_
          have h9 := h1 hT12 (by omega) (by omega) σ1 f1 (rdy_mmo (by omega) hrd)
          rw [if_pos (by omega)] at h9
          unfold tlo gvalM at h9
          rw [← hoc] at h9
          exact h9
        · skip
          refine a_ild5 eX9_thumb_44 ?_
          refine a_iret eX9_thumb_46 rfl rfl ⟨Nat.zero_le _, Nat.zero_le _⟩ ?_
          have h9 := h1 hT12 (by omega) (by omega) σ ⟨fun _ _ _ _ _ => rfl, rfl⟩ hMm
          rw [if_neg (by omega)] at h9
          exact h9
      · skip
        dsimp only [Option.toList, List.cons_append, List.nil_append]
        refine a_if_ne 30 eX9_thumb_25 (by decide) (by omega) (fun h => absurd h (by decide)) (fun _ => ?_)
        refine a_iconst eX9_thumb_28 ?_
        refine a_iret eX9_thumb_29 rfl rfl ⟨Nat.zero_le _, Nat.zero_le _⟩ ?_
        first
          | exact h0 (fun q => hF12 q.1)
          | exact h0 (fun q => by omega)
    · skip
      dsimp only [Option.toList, List.cons_append, List.nil_append]
      refine a_if_eq 28 eX9_thumb_15 (by decide) (by omega) (fun _ => ?_) (fun h => absurd h (by decide))
      refine a_iconst eX9_thumb_28 ?_
      refine a_iret eX9_thumb_29 rfl rfl ⟨Nat.zero_le _, Nat.zero_le _⟩ ?_
      first
        | exact h0 (fun q => hF12 q.1)
        | exact h0 (fun q => by omega)
  · skip
    dsimp only [Option.toList, List.cons_append, List.nil_append]
    refine a_if_eq 28 eX9_thumb_6 (by decide) (by omega) (fun _ => ?_) (fun h => absurd h (by decide))
    refine a_iconst eX9_thumb_28 ?_
    refine a_iret eX9_thumb_29 rfl rfl ⟨Nat.zero_le _, Nat.zero_le _⟩ ?_
    first
      | exact h0 (fun q => hF12 q.1)
      | exact h0 (fun q => by omega)
