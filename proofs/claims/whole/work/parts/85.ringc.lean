def rkm (m : mS) : Nat → Int := fun c => m (100 + (c : Int)) 3
def wsm (m : mS) : Nat → Int := fun c => m (100 + (c : Int)) 9
theorem rk_ok {m : mS} {N : Int} (wC : wfCity m) (wD : wfDay m 0 N) {n : Nat} (hn : (n : Int) ≤ m 0 4) : rkOK (rkm m) (wsm m) n := fun c hc hw => by
  have h6 := wC.1
  have w5 := (wfDay_0 wD).2.2.2.2.1 (c : Int) (by omega) (by omega)
  unfold wfCab at w5
  have e1 : rkm m c = m (100 + (c : Int)) 3 := rfl
  have e2 : wsm m c = m (100 + (c : Int)) 9 := rfl
  rw [e2] at hw
  rw [e1, e2]
  omega
theorem uf_si {σ : aw_S} {a : Nat} {k v : Int} : (aw_si σ a k v).1 a = uf (σ.1 a) k v := by
  funext j
  unfold uf aw_si
  simp
theorem uf_sn {σ : aw_S} {a b : Nat} {k v : Int} (h : b ≠ a) : (aw_si σ a k v).1 b = σ.1 b := funext (fun j => rd_si_ne h)
def frR (σ σ' : aw_S) : Prop := (∀ (a : Nat) (j : Int), a ≠ 85 → a ≠ 86 → σ'.1 a j = σ.1 a j) ∧ σ'.2 = σ.2
theorem frR_tr {σ σ1 σ2 : aw_S} (h1 : frR σ σ1) (h2 : frR σ1 σ2) : frR σ σ2 := ⟨fun a j p q => (h2.1 a j p q).trans (h1.1 a j p q), h2.2.trans h1.2⟩
def frS (σ σ' : aw_S) : Prop := (∀ (a : Nat) (j : Int), a ≠ 85 → a ≠ 86 → ¬ (a = 84 ∧ j = 2) → σ'.1 a j = σ.1 a j) ∧ σ'.2 = σ.2
theorem frS_tr {σ σ1 σ2 : aw_S} (h1 : frS σ σ1) (h2 : frS σ1 σ2) : frS σ σ2 := ⟨fun a j p q r => (h2.1 a j p q r).trans (h1.1 a j p q r), h2.2.trans h1.2⟩
theorem dayC_R {σ σ' : aw_S} {m : mS} {N : Int} (wD : wfDay m 0 N) (h : ∀ (a : Nat) (j : Int), a < 49 → σ'.1 a j = σ.1 a j) (hD : dayC σ 21 0 m) : dayC σ' 21 0 m := dayC_cong (by have := (wfDay_0 wD).2.1; omega) hD (fun a j q1 q2 => h a j (by omega))
set_option maxHeartbeats 4000000 in
set_option maxRecDepth 100000 in
theorem c_X7_wishes {l : Launch} {σ : aw_S} {Post : Option Value → aw_S → Prop} {tw cs : Bool} (hR : σ.2.2 = RF tw cs) {m : mS} {N : Int} (hD : dayC σ 21 0 m) (wC : wfCity m) (wD : wfDay m 0 N) {c : Nat} (hc : (c : Int) < m 0 4) (h1 : wsm m c ≠ -1 → Post (some (.int (jI 1))) σ) (h0 : ¬ wsm m c ≠ -1 → Post (some (.int (jI 0))) σ)  : AE l yX7_wishes cX7_wishes 2 (some .boolean) 0 0 0 0 SH SH σ [.ref 21, .int (jI (c : Int))] Post := by
  show AW l yX7_wishes cX7_wishes 2 (some .boolean) 0 0 0 0 SH Post SH 0 0 σ 0 [some (.ref 21), some (.int (jI (c : Int)))] []
  obtain ⟨d1, d2, d3, d4, d5, d6, d7⟩ := id hD
  obtain ⟨v1, v2, v3, v4, v5, v6, v7, v8⟩ := wfDay_0 wD
  simp only [Int.zero_add] at d4 d5 d6 d7
  have w5 := v5 (c : Int) (by omega) (by omega)
  unfold wfCab at w5
  have y1 := wC.1
  have e1 := d5 (c : Int) 1 (by omega) (by omega) (by omega) (by omega)
  have e3 := d5 (c : Int) 3 (by omega) (by omega) (by omega) (by omega)
  have e9 := d5 (c : Int) 9 (by omega) (by omega) (by omega) (by omega)
  have r3 : rkm m c = m (100 + (c : Int)) 3 := rfl
  have r9 : wsm m c = m (100 + (c : Int)) 9 := rfl
  refine a_ald0 eX7_wishes_0 ?_
  refine a_getR 2 (21 + 1) eX7_wishes_1 fl_X7_35 rfl rfl (sh_day (Or.inl rfl)) ((congrFun (congrFun hR _) _).trans (rf_day_2 (Or.inl rfl))) ?_
  refine a_ild1 eX7_wishes_4 ?_
  refine a_aald _ eX7_wishes_5 (sh_day_1 (Or.inl rfl)) rfl rfl rfl (by omega) ((congrFun (congrFun hR _) _).trans (rf_cab (Or.inl rfl) (by omega))) ?_
  refine a_getI 1 eX7_wishes_6 fl_X7_39 rfl rfl (sh_cab (Or.inl rfl) (by omega)) ?_
  refine a_eqtop (y0 := m (100 + (c : Int)) 1) (by exact e1) ?_
  refine a_iconst eX7_wishes_9 ?_
  refine a_icmp_ne 30 eX7_wishes_10 (by decide) (by omega) (fun hT10 => ?_) (fun hF10 => ?_)
  · skip
    refine a_iconst eX7_wishes_30 ?_
    refine a_zret eX7_wishes_31 rfl (by first | exact Or.inl rfl | exact Or.inr rfl | omega) rfl ⟨Nat.zero_le _, Nat.zero_le _⟩ ?_
    exact h0 (by omega)
  · skip
    refine a_ald0 eX7_wishes_13 ?_
    refine a_getR 2 (21 + 1) eX7_wishes_14 fl_X7_35 rfl rfl (sh_day (Or.inl rfl)) ((congrFun (congrFun hR _) _).trans (rf_day_2 (Or.inl rfl))) ?_
    refine a_ild1 eX7_wishes_17 ?_
    refine a_aald _ eX7_wishes_18 (sh_day_1 (Or.inl rfl)) rfl rfl rfl (by omega) ((congrFun (congrFun hR _) _).trans (rf_cab (Or.inl rfl) (by omega))) ?_
    refine a_getI 9 eX7_wishes_19 fl_X7_44 rfl rfl (sh_cab (Or.inl rfl) (by omega)) ?_
    refine a_eqtop (y0 := m (100 + (c : Int)) 9) (by exact e9) ?_
    refine a_iconst eX7_wishes_22 ?_
    refine a_icmp_eq 30 eX7_wishes_23 (by decide) (by omega) (fun hT23 => ?_) (fun hF23 => ?_)
    · skip
      refine a_iconst eX7_wishes_30 ?_
      refine a_zret eX7_wishes_31 rfl (by first | exact Or.inl rfl | exact Or.inr rfl | omega) rfl ⟨Nat.zero_le _, Nat.zero_le _⟩ ?_
      exact h0 (by omega)
    · skip
      refine a_iconst eX7_wishes_26 ?_
      refine a_goto 31 eX7_wishes_27 (by decide) ?_
      refine a_zret eX7_wishes_31 rfl (by first | exact Or.inl rfl | exact Or.inr rfl | omega) rfl ⟨Nat.zero_le _, Nat.zero_le _⟩ ?_
      exact h1 (by omega)

set_option maxHeartbeats 4000000 in
set_option maxRecDepth 100000 in
theorem c_X7_isChosen {l : Launch} {σ : aw_S} {Post : Option Value → aw_S → Prop} {S : Nat} (hS : σ.1 84 2 = (S : Int)) (hS6 : S < 65536) {c : Nat} (hc : c < 16) (h1 : S.testBit c = true → Post (some (.int (jI 1))) σ) (h0 : ¬ S.testBit c = true → Post (some (.int (jI 0))) σ)  : AE l yX7_isChosen cX7_isChosen 2 (some .boolean) 0 0 0 0 SH SH σ [.ref 84, .int (jI (c : Int))] Post := by
  show AW l yX7_isChosen cX7_isChosen 2 (some .boolean) 0 0 0 0 SH Post SH 0 0 σ 0 [some (.ref 84), some (.int (jI (c : Int)))] []
  have htb := tb_b S c
  refine a_ald0 eX7_isChosen_0 ?_
  refine a_getI 2 eX7_isChosen_1 fl_X7_18 rfl rfl sh_84 ?_
  refine a_eqtop (y0 := ((S : Nat) : Int)) (by exact hS) ?_
  refine a_ild1 eX7_isChosen_4 ?_
  refine a_ishr ((S / 2 ^ c : Nat) : Int) eX7_isChosen_5 (jtb1 (by omega) (by omega)) ?_
  refine a_iconst eX7_isChosen_6 ?_
  refine a_iand ((tb S c : Nat) : Int) eX7_isChosen_7 (jtb2 S c) ?_
  refine a_iconst eX7_isChosen_8 ?_
  refine a_icmp_ne 16 eX7_isChosen_9 (by decide) (by omega) (fun hT9 => ?_) (fun hF9 => ?_)
  · skip
    refine a_iconst eX7_isChosen_16 ?_
    refine a_zret eX7_isChosen_17 rfl (by first | exact Or.inl rfl | exact Or.inr rfl | omega) rfl ⟨Nat.zero_le _, Nat.zero_le _⟩ ?_
    exact h0 (fun z => by have := (tb_i S c).mp z; omega)
  · skip
    refine a_iconst eX7_isChosen_12 ?_
    refine a_goto 17 eX7_isChosen_13 (by decide) ?_
    refine a_zret eX7_isChosen_17 rfl (by first | exact Or.inl rfl | exact Or.inr rfl | omega) rfl ⟨Nat.zero_le _, Nat.zero_le _⟩ ?_
    exact h1 ((tb_i S c).mpr (by omega))

set_option maxHeartbeats 4000000 in
set_option maxRecDepth 100000 in
theorem c_X7_tail {l : Launch} {σ : aw_S} {Post : Option Value → aw_S → Prop} {tw cs : Bool} (hR : σ.2.2 = RF tw cs) {m : mS} {N : Int} (hD : dayC σ 21 0 m) (wC : wfCity m) (wD : wfDay m 0 N) {c : Nat} (hc : (c : Int) < m 0 4) {S : Nat} (hS : σ.1 84 2 = (S : Int)) (hS6 : S < 65536) (hk : Post (some (.int (jI (tlA (rkm m) (wsm m) S c)))) σ)  : AE l yX7_tail cX7_tail 3 (some .int) 1 21 0 0 SH SH σ [.ref 84, .ref 21, .int (jI (c : Int))] Post := by
  show AW l yX7_tail cX7_tail 3 (some .int) 1 21 0 0 SH Post SH 0 0 σ 0 [some (.ref 84), some (.ref 21), some (.int (jI (c : Int)))] []
  obtain ⟨d1, d2, d3, d4, d5, d6, d7⟩ := id hD
  obtain ⟨v1, v2, v3, v4, v5, v6, v7, v8⟩ := wfDay_0 wD
  simp only [Int.zero_add] at d4 d5 d6 d7
  have w5 := v5 (c : Int) (by omega) (by omega)
  unfold wfCab at w5
  have y1 := wC.1
  have e1 := d5 (c : Int) 1 (by omega) (by omega) (by omega) (by omega)
  have e3 := d5 (c : Int) 3 (by omega) (by omega) (by omega) (by omega)
  have e9 := d5 (c : Int) 9 (by omega) (by omega) (by omega) (by omega)
  have r3 : rkm m c = m (100 + (c : Int)) 3 := rfl
  have r9 : wsm m c = m (100 + (c : Int)) 9 := rfl
  refine a_ald0 eX7_tail_0 ?_
  refine a_ild2 eX7_tail_1 ?_
  refine a_cV1 eX7_tail_2 lk_X7_48 mV_X7_isChosen sh_84 ⟨_, rfl, rfl⟩ mt_X7_isChosen rfl rfl rfl rfl rfl (c_X7_isChosen hS hS6 (by omega) (fun hT2 => ?_) (fun hF2 => ?_))
  · skip
    dsimp only [Option.toList, List.cons_append, List.nil_append]
    refine a_if_eq 20 eX7_tail_5 (by decide) (by omega) (fun h => absurd h (by decide)) (fun _ => ?_)
    refine a_ald1 eX7_tail_8 ?_
    refine a_getR 2 (21 + 1) eX7_tail_9 fl_X7_35 rfl rfl (sh_day (Or.inl rfl)) ((congrFun (congrFun hR _) _).trans (rf_day_2 (Or.inl rfl))) ?_
    refine a_ild2 eX7_tail_12 ?_
    refine a_aald _ eX7_tail_13 (sh_day_1 (Or.inl rfl)) rfl rfl rfl (by omega) ((congrFun (congrFun hR _) _).trans (rf_cab (Or.inl rfl) (by omega))) ?_
    refine a_getI 9 eX7_tail_14 fl_X7_44 rfl rfl (sh_cab (Or.inl rfl) (by omega)) ?_
    refine a_goto 29 eX7_tail_17 (by decide) ?_
    refine a_iret eX7_tail_29 rfl rfl ⟨Nat.zero_le _, Nat.zero_le _⟩ ?_
    unfold tlA at hk
    first
      | (rw [if_pos hT2] at hk; rw [e9]; exact hk)
      | (rw [if_neg hF2] at hk; rw [e3]; exact hk)
  · skip
    dsimp only [Option.toList, List.cons_append, List.nil_append]
    refine a_if_eq 20 eX7_tail_5 (by decide) (by omega) (fun _ => ?_) (fun h => absurd h (by decide))
    refine a_ald1 eX7_tail_20 ?_
    refine a_getR 2 (21 + 1) eX7_tail_21 fl_X7_35 rfl rfl (sh_day (Or.inl rfl)) ((congrFun (congrFun hR _) _).trans (rf_day_2 (Or.inl rfl))) ?_
    refine a_ild2 eX7_tail_24 ?_
    refine a_aald _ eX7_tail_25 (sh_day_1 (Or.inl rfl)) rfl rfl rfl (by omega) ((congrFun (congrFun hR _) _).trans (rf_cab (Or.inl rfl) (by omega))) ?_
    refine a_getI 3 eX7_tail_26 fl_X7_52 rfl rfl (sh_cab (Or.inl rfl) (by omega)) ?_
    refine a_iret eX7_tail_29 rfl rfl ⟨Nat.zero_le _, Nat.zero_le _⟩ ?_
    unfold tlA at hk
    first
      | (rw [if_pos hT2] at hk; rw [e9]; exact hk)
      | (rw [if_neg hF2] at hk; rw [e3]; exact hk)

set_option maxHeartbeats 4000000 in
set_option maxRecDepth 100000 in
theorem c_X7_head {l : Launch} {σ : aw_S} {Post : Option Value → aw_S → Prop} {tw cs : Bool} (hR : σ.2.2 = RF tw cs) {m : mS} {N : Int} (hD : dayC σ 21 0 m) (wC : wfCity m) (wD : wfDay m 0 N) {c : Nat} (hc : (c : Int) < m 0 4) {S : Nat} (hS : σ.1 84 2 = (S : Int)) (hS6 : S < 65536) (hk : Post (some (.int (jI (hdA (rkm m) (wsm m) S c)))) σ)  : AE l yX7_head cX7_head 3 (some .int) 1 21 0 0 SH SH σ [.ref 84, .ref 21, .int (jI (c : Int))] Post := by
  show AW l yX7_head cX7_head 3 (some .int) 1 21 0 0 SH Post SH 0 0 σ 0 [some (.ref 84), some (.ref 21), some (.int (jI (c : Int)))] []
  obtain ⟨d1, d2, d3, d4, d5, d6, d7⟩ := id hD
  obtain ⟨v1, v2, v3, v4, v5, v6, v7, v8⟩ := wfDay_0 wD
  simp only [Int.zero_add] at d4 d5 d6 d7
  have w5 := v5 (c : Int) (by omega) (by omega)
  unfold wfCab at w5
  have y1 := wC.1
  have e1 := d5 (c : Int) 1 (by omega) (by omega) (by omega) (by omega)
  have e3 := d5 (c : Int) 3 (by omega) (by omega) (by omega) (by omega)
  have e9 := d5 (c : Int) 9 (by omega) (by omega) (by omega) (by omega)
  have r3 : rkm m c = m (100 + (c : Int)) 3 := rfl
  have r9 : wsm m c = m (100 + (c : Int)) 9 := rfl
  refine a_ald0 eX7_head_0 ?_
  refine a_ild2 eX7_head_1 ?_
  refine a_cV1 eX7_head_2 lk_X7_48 mV_X7_isChosen sh_84 ⟨_, rfl, rfl⟩ mt_X7_isChosen rfl rfl rfl rfl rfl (c_X7_isChosen hS hS6 (by omega) (fun hT2 => ?_) (fun hF2 => ?_))
  · skip
    dsimp only [Option.toList, List.cons_append, List.nil_append]
    refine a_if_eq 20 eX7_head_5 (by decide) (by omega) (fun h => absurd h (by decide)) (fun _ => ?_)
    refine a_ald1 eX7_head_8 ?_
    refine a_getR 2 (21 + 1) eX7_head_9 fl_X7_35 rfl rfl (sh_day (Or.inl rfl)) ((congrFun (congrFun hR _) _).trans (rf_day_2 (Or.inl rfl))) ?_
    refine a_ild2 eX7_head_12 ?_
    refine a_aald _ eX7_head_13 (sh_day_1 (Or.inl rfl)) rfl rfl rfl (by omega) ((congrFun (congrFun hR _) _).trans (rf_cab (Or.inl rfl) (by omega))) ?_
    refine a_getI 3 eX7_head_14 fl_X7_52 rfl rfl (sh_cab (Or.inl rfl) (by omega)) ?_
    refine a_goto 29 eX7_head_17 (by decide) ?_
    refine a_iret eX7_head_29 rfl rfl ⟨Nat.zero_le _, Nat.zero_le _⟩ ?_
    unfold hdA at hk
    first
      | (rw [if_pos hT2] at hk; rw [e3]; exact hk)
      | (rw [if_neg hF2] at hk; rw [e9]; exact hk)
  · skip
    dsimp only [Option.toList, List.cons_append, List.nil_append]
    refine a_if_eq 20 eX7_head_5 (by decide) (by omega) (fun _ => ?_) (fun h => absurd h (by decide))
    refine a_ald1 eX7_head_20 ?_
    refine a_getR 2 (21 + 1) eX7_head_21 fl_X7_35 rfl rfl (sh_day (Or.inl rfl)) ((congrFun (congrFun hR _) _).trans (rf_day_2 (Or.inl rfl))) ?_
    refine a_ild2 eX7_head_24 ?_
    refine a_aald _ eX7_head_25 (sh_day_1 (Or.inl rfl)) rfl rfl rfl (by omega) ((congrFun (congrFun hR _) _).trans (rf_cab (Or.inl rfl) (by omega))) ?_
    refine a_getI 9 eX7_head_26 fl_X7_44 rfl rfl (sh_cab (Or.inl rfl) (by omega)) ?_
    refine a_iret eX7_head_29 rfl rfl ⟨Nat.zero_le _, Nat.zero_le _⟩ ?_
    unfold hdA at hk
    first
      | (rw [if_pos hT2] at hk; rw [e3]; exact hk)
      | (rw [if_neg hF2] at hk; rw [e9]; exact hk)

set_option maxHeartbeats 4000000 in
set_option maxRecDepth 100000 in
theorem c_X7_worthOf {l : Launch} {σ : aw_S} {Post : Option Value → aw_S → Prop} {c : Nat} (hc : c < 16) (hk : Post (some (.int (jI (wt c)))) σ)  : AE l yX7_worthOf cX7_worthOf 1 (some .int) 0 0 0 0 SH SH σ [.int (jI (c : Int))] Post := by
  show AW l yX7_worthOf cX7_worthOf 1 (some .int) 0 0 0 0 SH Post SH 0 0 σ 0 [some (.int (jI (c : Int)))] []
  refine a_ldc (1048576) (by decide) eX7_worthOf_0 kc_X7_47 ?_
  refine a_iconst eX7_worthOf_2 ?_
  refine a_ild0 eX7_worthOf_3 ?_
  refine a_ishl (2 ^ c) eX7_worthOf_4 (by rw [pw_shl (by omega), Int.toNat_natCast]) ?_
  refine a_isub eX7_worthOf_5 ?_
  refine a_iret eX7_worthOf_6 rfl rfl ⟨Nat.zero_le _, Nat.zero_le _⟩ ?_
  exact hk

set_option maxHeartbeats 4000000 in
set_option maxRecDepth 100000 in
theorem c_X7_follow {l : Launch} {σ : aw_S} {Post : Option Value → aw_S → Prop} {tw cs : Bool} (hR : σ.2.2 = RF tw cs) {m : mS} {N : Int} (hD : dayC σ 21 0 m) (wC : wfCity m) (wD : wfDay m 0 N) {c : Nat} (hc : (c : Int) < m 0 4) {S : Nat} (hS : σ.1 84 2 = (S : Int)) (hS6 : S < 65536) (hws : wsm m c ≠ -1) (hb : ∀ v : Int, 0 ≤ v → v < 6 → -268435456 ≤ σ.1 85 v ∧ σ.1 85 v ≤ 134217728) (h1 : (σ.1 85 (tlA (rkm m) (wsm m) S c) ≠ (-268435456) ∧ σ.1 85 (hdA (rkm m) (wsm m) S c) < σ.1 85 (tlA (rkm m) (wsm m) S c) + gnA S c) → Post (some (.int (jI 1))) (aw_si (aw_si σ 85 (hdA (rkm m) (wsm m) S c) (σ.1 85 (tlA (rkm m) (wsm m) S c) + gnA S c)) 86 (hdA (rkm m) (wsm m) S c) (c : Int))) (h0 : ¬ (σ.1 85 (tlA (rkm m) (wsm m) S c) ≠ (-268435456) ∧ σ.1 85 (hdA (rkm m) (wsm m) S c) < σ.1 85 (tlA (rkm m) (wsm m) S c) + gnA S c) → Post (some (.int (jI 0))) σ)  : AE l yX7_follow cX7_follow 6 (some .boolean) 2 43 0 0 SH SH σ [.ref 84, .ref 21, .int (jI (c : Int))] Post := by
  show AW l yX7_follow cX7_follow 6 (some .boolean) 2 43 0 0 SH Post SH 0 0 σ 0 [some (.ref 84), some (.ref 21), some (.int (jI (c : Int))), none, none, none] []
  obtain ⟨d1, d2, d3, d4, d5, d6, d7⟩ := id hD
  obtain ⟨v1, v2, v3, v4, v5, v6, v7, v8⟩ := wfDay_0 wD
  simp only [Int.zero_add] at d4 d5 d6 d7
  have w5 := v5 (c : Int) (by omega) (by omega)
  unfold wfCab at w5
  have y1 := wC.1
  have e1 := d5 (c : Int) 1 (by omega) (by omega) (by omega) (by omega)
  have e3 := d5 (c : Int) 3 (by omega) (by omega) (by omega) (by omega)
  have e9 := d5 (c : Int) 9 (by omega) (by omega) (by omega) (by omega)
  have r3 : rkm m c = m (100 + (c : Int)) 3 := rfl
  have r9 : wsm m c = m (100 + (c : Int)) 9 := rfl
  have hD1 := hD
  have ok := tlA_b (S := S) (rk_ok wC wD (n := c + 1) (by omega)) (by omega) hws
  have hgb := gnA_b (S := S) (c := c) (by omega)
  have hbt := hb _ ok.1.1 ok.1.2
  have hbh := hb _ ok.2.1.1 ok.2.1.2
  refine a_ald0 eX7_follow_0 ?_
  refine a_ald1 eX7_follow_1 ?_
  refine a_ild2 eX7_follow_2 ?_
  refine a_cV2 eX7_follow_3 lk_X7_64 mV_X7_tail sh_84 ⟨_, rfl, rfl⟩ mt_X7_tail rfl rfl rfl rfl rfl rfl (c_X7_tail hR hD1 wC wD (by omega) hS hS6 ?_)
  dsimp only [Option.toList, List.cons_append, List.nil_append]
  refine a_ist3 eX7_follow_6 (by decide) aw_n2i ?_
  refine a_ald0 eX7_follow_7 ?_
  refine a_ald1 eX7_follow_8 ?_
  refine a_ild2 eX7_follow_9 ?_
  refine a_cV2 eX7_follow_10 lk_X7_77 mV_X7_head sh_84 ⟨_, rfl, rfl⟩ mt_X7_head rfl rfl rfl rfl rfl rfl (c_X7_head hR hD1 wC wD (by omega) hS hS6 ?_)
  dsimp only [Option.toList, List.cons_append, List.nil_append]
  refine a_ist4 eX7_follow_13 (by decide) aw_n2i ?_
  refine a_ald0 eX7_follow_15 ?_
  refine a_ild2 eX7_follow_16 ?_
  refine a_cV1 eX7_follow_17 lk_X7_48 mV_X7_isChosen sh_84 ⟨_, rfl, rfl⟩ mt_X7_isChosen rfl rfl rfl rfl rfl (c_X7_isChosen hS hS6 (by omega) (fun hT17 => ?_) (fun hF17 => ?_))
  · skip
    dsimp only [Option.toList, List.cons_append, List.nil_append]
    refine a_if_eq 31 eX7_follow_20 (by decide) (by omega) (fun h => absurd h (by decide)) (fun _ => ?_)
    refine a_ild2 eX7_follow_23 ?_
    refine a_cS1 eX7_follow_24 lk_X7_60 mS_X7_worthOf mt_X7_worthOf rfl rfl rfl rfl rfl (c_X7_worthOf (by omega) ?_)
    dsimp only [Option.toList, List.cons_append, List.nil_append]
    refine a_ineg eX7_follow_27 ?_
    refine a_goto 35 eX7_follow_28 (by decide) ?_
    refine a_eqtop (y0 := gnA S c) (by unfold gnA; first | (rw [if_pos hT17]; done) | (rw [if_neg hF17]; done)) ?_
    refine a_ist5 eX7_follow_35 (by decide) aw_n2i ?_
    refine a_ald0 eX7_follow_37 ?_
    refine a_getR 0 85 eX7_follow_38 fl_X7_9 rfl rfl sh_84 ((congrFun (congrFun hR _) _).trans rf_84_0) ?_
    refine a_ild3 eX7_follow_41 ?_
    refine a_iald eX7_follow_42 sh_85 rfl (by omega) ?_
    refine a_ldc (-268435456) (by decide) eX7_follow_43 kc_X7_59 ?_
    refine a_icmp_eq 67 eX7_follow_45 (by decide) (by omega) (fun hT45 => ?_) (fun hF45 => ?_)
    · skip
      refine a_iconst eX7_follow_67 ?_
      refine a_zret eX7_follow_68 rfl (by first | exact Or.inl rfl | exact Or.inr rfl | omega) rfl ⟨Nat.zero_le _, Nat.zero_le _⟩ ?_
      exact h0 (fun q => by omega)
    · skip
      refine a_ald0 eX7_follow_48 ?_
      refine a_getR 0 85 eX7_follow_49 fl_X7_9 rfl rfl sh_84 ((congrFun (congrFun hR _) _).trans rf_84_0) ?_
      refine a_ild3 eX7_follow_52 ?_
      refine a_iald eX7_follow_53 sh_85 rfl (by omega) ?_
      refine a_ild5 eX7_follow_54 ?_
      refine a_iadd eX7_follow_56 ?_
      refine a_ald0 eX7_follow_57 ?_
      refine a_getR 0 85 eX7_follow_58 fl_X7_9 rfl rfl sh_84 ((congrFun (congrFun hR _) _).trans rf_84_0) ?_
      refine a_ild4 eX7_follow_61 ?_
      refine a_iald eX7_follow_63 sh_85 rfl (by omega) ?_
      refine a_icmp_gt 69 eX7_follow_64 (by decide) (by omega) (fun hT64 => ?_) (fun hF64 => ?_)
      · skip
        refine a_ald0 eX7_follow_69 ?_
        refine a_getR 0 85 eX7_follow_70 fl_X7_9 rfl rfl sh_84 ((congrFun (congrFun hR _) _).trans rf_84_0) ?_
        refine a_ild4 eX7_follow_73 ?_
        refine a_ald0 eX7_follow_75 ?_
        refine a_getR 0 85 eX7_follow_76 fl_X7_9 rfl rfl sh_84 ((congrFun (congrFun hR _) _).trans rf_84_0) ?_
        refine a_ild3 eX7_follow_79 ?_
        refine a_iald eX7_follow_80 sh_85 rfl (by omega) ?_
        refine a_ild5 eX7_follow_81 ?_
        refine a_iadd eX7_follow_83 ?_
        refine a_iast eX7_follow_84 sh_85 rfl (by omega) ?_
        refine a_ald0 eX7_follow_85 ?_
        refine a_getR 1 86 eX7_follow_86 fl_X7_15 rfl rfl sh_84 ((congrFun (congrFun hR _) _).trans rf_84_1) ?_
        refine a_ild4 eX7_follow_89 ?_
        refine a_ild2 eX7_follow_91 ?_
        refine a_iast eX7_follow_92 sh_86 rfl (by omega) ?_
        refine a_iconst eX7_follow_93 ?_
        refine a_zret eX7_follow_94 rfl (by first | exact Or.inl rfl | exact Or.inr rfl | omega) rfl ⟨Nat.zero_le _, Nat.zero_le _⟩ ?_
        exact h1 ⟨by omega, by omega⟩
      · skip
        refine a_iconst eX7_follow_67 ?_
        refine a_zret eX7_follow_68 rfl (by first | exact Or.inl rfl | exact Or.inr rfl | omega) rfl ⟨Nat.zero_le _, Nat.zero_le _⟩ ?_
        exact h0 (fun q => by omega)
  · skip
    dsimp only [Option.toList, List.cons_append, List.nil_append]
    refine a_if_eq 31 eX7_follow_20 (by decide) (by omega) (fun _ => ?_) (fun h => absurd h (by decide))
    refine a_ild2 eX7_follow_31 ?_
    refine a_cS1 eX7_follow_32 lk_X7_60 mS_X7_worthOf mt_X7_worthOf rfl rfl rfl rfl rfl (c_X7_worthOf (by omega) ?_)
    dsimp only [Option.toList, List.cons_append, List.nil_append]
    refine a_eqtop (y0 := gnA S c) (by unfold gnA; first | (rw [if_pos hT17]; done) | (rw [if_neg hF17]; done)) ?_
    refine a_ist5 eX7_follow_35 (by decide) aw_n2i ?_
    refine a_ald0 eX7_follow_37 ?_
    refine a_getR 0 85 eX7_follow_38 fl_X7_9 rfl rfl sh_84 ((congrFun (congrFun hR _) _).trans rf_84_0) ?_
    refine a_ild3 eX7_follow_41 ?_
    refine a_iald eX7_follow_42 sh_85 rfl (by omega) ?_
    refine a_ldc (-268435456) (by decide) eX7_follow_43 kc_X7_59 ?_
    refine a_icmp_eq 67 eX7_follow_45 (by decide) (by omega) (fun hT45 => ?_) (fun hF45 => ?_)
    · skip
      refine a_iconst eX7_follow_67 ?_
      refine a_zret eX7_follow_68 rfl (by first | exact Or.inl rfl | exact Or.inr rfl | omega) rfl ⟨Nat.zero_le _, Nat.zero_le _⟩ ?_
      exact h0 (fun q => by omega)
    · skip
      refine a_ald0 eX7_follow_48 ?_
      refine a_getR 0 85 eX7_follow_49 fl_X7_9 rfl rfl sh_84 ((congrFun (congrFun hR _) _).trans rf_84_0) ?_
      refine a_ild3 eX7_follow_52 ?_
      refine a_iald eX7_follow_53 sh_85 rfl (by omega) ?_
      refine a_ild5 eX7_follow_54 ?_
      refine a_iadd eX7_follow_56 ?_
      refine a_ald0 eX7_follow_57 ?_
      refine a_getR 0 85 eX7_follow_58 fl_X7_9 rfl rfl sh_84 ((congrFun (congrFun hR _) _).trans rf_84_0) ?_
      refine a_ild4 eX7_follow_61 ?_
      refine a_iald eX7_follow_63 sh_85 rfl (by omega) ?_
      refine a_icmp_gt 69 eX7_follow_64 (by decide) (by omega) (fun hT64 => ?_) (fun hF64 => ?_)
      · skip
        refine a_ald0 eX7_follow_69 ?_
        refine a_getR 0 85 eX7_follow_70 fl_X7_9 rfl rfl sh_84 ((congrFun (congrFun hR _) _).trans rf_84_0) ?_
        refine a_ild4 eX7_follow_73 ?_
        refine a_ald0 eX7_follow_75 ?_
        refine a_getR 0 85 eX7_follow_76 fl_X7_9 rfl rfl sh_84 ((congrFun (congrFun hR _) _).trans rf_84_0) ?_
        refine a_ild3 eX7_follow_79 ?_
        refine a_iald eX7_follow_80 sh_85 rfl (by omega) ?_
        refine a_ild5 eX7_follow_81 ?_
        refine a_iadd eX7_follow_83 ?_
        refine a_iast eX7_follow_84 sh_85 rfl (by omega) ?_
        refine a_ald0 eX7_follow_85 ?_
        refine a_getR 1 86 eX7_follow_86 fl_X7_15 rfl rfl sh_84 ((congrFun (congrFun hR _) _).trans rf_84_1) ?_
        refine a_ild4 eX7_follow_89 ?_
        refine a_ild2 eX7_follow_91 ?_
        refine a_iast eX7_follow_92 sh_86 rfl (by omega) ?_
        refine a_iconst eX7_follow_93 ?_
        refine a_zret eX7_follow_94 rfl (by first | exact Or.inl rfl | exact Or.inr rfl | omega) rfl ⟨Nat.zero_le _, Nat.zero_le _⟩ ?_
        exact h1 ⟨by omega, by omega⟩
      · skip
        refine a_iconst eX7_follow_67 ?_
        refine a_zret eX7_follow_68 rfl (by first | exact Or.inl rfl | exact Or.inr rfl | omega) rfl ⟨Nat.zero_le _, Nat.zero_le _⟩ ?_
        exact h0 (fun q => by omega)

set_option maxHeartbeats 4000000 in
set_option maxRecDepth 100000 in
theorem lp_fwI {l : Launch} {σ : aw_S} {Post : Option Value → aw_S → Prop} {tw cs : Bool} (hR : σ.2.2 = RF tw cs) {m : mS} {N : Int} (hD : dayC σ 21 0 m) (wC : wfCity m) (wD : wfDay m 0 N) {S : Nat} (hS : σ.1 84 2 = (S : Int)) (hS6 : S < 65536) {n1 : Nat} (hn1 : (n1 : Int) ≤ m 0 4) {f : Int → Int} (hf : feas f (rkm m) (wsm m) S n1) {s : Int} (hs : 0 ≤ s ∧ s < 6) {k1 : Nat} (hk4 : k1 ≤ 4) {st : Int} (hk : ∀ σ2 ch t, frR σ σ2 → fwI f (rkm m) (wsm m) S n1 s (σ2.1 85) (σ2.1 86) t → fwLo (rkm m) (wsm m) S n1 s (σ2.1 85) (k1 + 1) → (ch = 0 ∨ ch = 1) → (ch = 0 → fwF (rkm m) (wsm m) S n1 (σ2.1 85) n1) → t ≤ 16 * (k1 + 1) → ∀ lx : Option Value, AW l yX7_findWays cX7_findWays 7 (none : Option Jvm.ClassFile.FieldType) 3 68 0 0 SH Post SH 0 0 (σ2) 81 [some (.ref 84), some (.ref 21), some (.int (jI s)), some (.int (jI (n1 : Int))), some (.int (jI ch)), some (.int (jI st)), lx] [])  : ∀ (n : Nat) (i : Nat) (σ1 : aw_S) (ch : Int) (t : Nat), ((n1 - i) ≤ n) → (i ≤ n1) → (frR σ σ1) → (fwI f (rkm m) (wsm m) S n1 s (σ1.1 85) (σ1.1 86) t) → (fwLo (rkm m) (wsm m) S n1 s (σ1.1 85) k1) → (fwR (rkm m) (wsm m) S n1 s (σ1.1 85) k1 i) → (ch = 0 ∨ ch = 1) → (ch = 0 → fwF (rkm m) (wsm m) S n1 (σ1.1 85) i) → (t ≤ 16 * k1 + i) → AW l yX7_findWays cX7_findWays 7 (none : Option Jvm.ClassFile.FieldType) 3 68 0 0 SH Post SH 0 0 (σ1) 40 [some (.ref 84), some (.ref 21), some (.int (jI s)), some (.int (jI (n1 : Int))), some (.int (jI ch)), some (.int (jI st)), some (.int (jI (i : Int)))] [] := by
  intro n
  induction n with
  | zero =>
    intro i σ1 ch t hm hi f1 hfw hlo hfr hch hfx ht
    have hD1 : dayC σ1 21 0 m := dayC_R wD (fun a j q => f1.1 a j (by omega) (by omega)) hD
    have hR : σ1.2.2 = RF tw cs := by rw [f1.2]; exact hR
    have hS : σ1.1 84 2 = (S : Int) := (f1.1 _ _ (by omega) (by omega)).trans hS
    have v16 := (wfDay_0 wD).2.1
    have ok := rk_ok wC wD hn1
    have hrg : ∀ v : Int, 0 ≤ v → v < 6 → -268435456 ≤ σ1.1 85 v ∧ σ1.1 85 v ≤ 134217728 := fun v z1 z2 => by have := hfw.2.1 v z1 z2; omega
    refine a_ild6 eX7_findWays_40 ?_
    refine a_ild3 eX7_findWays_42 ?_
    refine a_icmp_ge 81 eX7_findWays_43 (by decide) (by omega) (fun hT43 => ?_) (fun hF43 => ?_)
    · skip
      have e9 : i = n1 := by omega
      subst e9
      exact hk σ1 ch t f1 hfw (fwL_s hlo hfr) hch hfx (by omega) _
    · skip
      exfalso; omega
  | succ n ih =>
    intro i σ1 ch t hm hi f1 hfw hlo hfr hch hfx ht
    have hD1 : dayC σ1 21 0 m := dayC_R wD (fun a j q => f1.1 a j (by omega) (by omega)) hD
    have hR : σ1.2.2 = RF tw cs := by rw [f1.2]; exact hR
    have hS : σ1.1 84 2 = (S : Int) := (f1.1 _ _ (by omega) (by omega)).trans hS
    have v16 := (wfDay_0 wD).2.1
    have ok := rk_ok wC wD hn1
    have hrg : ∀ v : Int, 0 ≤ v → v < 6 → -268435456 ≤ σ1.1 85 v ∧ σ1.1 85 v ≤ 134217728 := fun v z1 z2 => by have := hfw.2.1 v z1 z2; omega
    refine a_ild6 eX7_findWays_40 ?_
    refine a_ild3 eX7_findWays_42 ?_
    refine a_icmp_ge 81 eX7_findWays_43 (by decide) (by omega) (fun hT43 => ?_) (fun hF43 => ?_)
    · skip
      have e9 : i = n1 := by omega
      subst e9
      exact hk σ1 ch t f1 hfw (fwL_s hlo hfr) hch hfx (by omega) _
    · skip
      have hin : i < n1 := by omega
      refine a_ild4 eX7_findWays_46 ?_
      refine a_ald1 eX7_findWays_48 ?_
      refine a_ild6 eX7_findWays_49 ?_
      refine a_cS2 eX7_findWays_51 lk_X7_27 mS_X7_wishes mt_X7_wishes rfl rfl rfl rfl rfl rfl (c_X7_wishes hR hD1 wC wD (by omega) (fun hT51 => ?_) (fun hF51 => ?_))
      · skip
        dsimp only [Option.toList, List.cons_append, List.nil_append]
        refine a_if_eq 71 eX7_findWays_54 (by decide) (by omega) (fun h => absurd h (by decide)) (fun _ => ?_)
        have okt := tlA_b (S := S) ok hin hT51
        refine a_ald0 eX7_findWays_57 ?_
        refine a_ald1 eX7_findWays_58 ?_
        refine a_ild6 eX7_findWays_59 ?_
        refine a_cV2 eX7_findWays_61 lk_X7_74 mV_X7_follow sh_84 ⟨_, rfl, rfl⟩ mt_X7_follow rfl rfl rfl rfl rfl rfl (c_X7_follow hR hD1 wC wD (c := i) (by omega) hS hS6 hT51 hrg (fun hT61 => ?_) (fun hF61 => ?_))
        · skip
          dsimp only [Option.toList, List.cons_append, List.nil_append]
          refine a_if_eq 71 eX7_findWays_64 (by decide) (by omega) (fun h => absurd h (by decide)) (fun _ => ?_)
          refine a_iconst eX7_findWays_67 ?_
          refine a_goto 72 eX7_findWays_68 (by decide) ?_
          refine a_ior 1 eX7_findWays_72 (by rcases hch with rfl | rfl <;> decide) ?_
          refine a_ist4 eX7_findWays_73 (by decide) aw_n2i ?_
          refine a_iinc6 eX7_findWays_75 (by decide) aw_n2i ?_
          refine a_goto 40 eX7_findWays_78 (by decide) ?_
          have fi := fw_upd ok (by omega) hf hs (t := t) (by omega) hin hT51 hfw hT61.1 hT61.2
          have ih1 := ih (i + 1) (aw_si (aw_si σ1 85 (hdA (rkm m) (wsm m) S i) (σ1.1 85 (tlA (rkm m) (wsm m) S i) + gnA S i)) 86 (hdA (rkm m) (wsm m) S i) (i : Int)) 1 (t + 1) (by omega) (by omega) ⟨fun a j p q => by rw [rd_si_ne q, rd_si_ne p]; exact f1.1 a j p q, f1.2⟩ (by rw [uf_sn (show (85 : Nat) ≠ 86 by decide), uf_si, uf_si, uf_sn (show (86 : Nat) ≠ 85 by decide)]; exact fi) (fun v z1 z2 => ?_) (fun c z1 z2 z3 => ?_) (Or.inr rfl) (fun z => by omega) (by omega)
          · rw [show (((i + 1 : Nat) : Nat) : Int) = (i : Int) + 1 by omega] at ih1
            exact ih1
          · rw [uf_sn (show (85 : Nat) ≠ 86 by decide), uf_si]
            have := hlo v z1 z2
            by_cases q : v = hdA (rkm m) (wsm m) S i
            · rw [q, uf_eq]; rw [q] at this; omega
            · rw [uf_ne q]; exact this
          · rw [uf_sn (show (85 : Nat) ≠ 86 by decide), uf_si]
            by_cases y : c = i
            · subst y
              rw [uf_eq]
              have := hlo _ okt.1.1 okt.1.2
              omega
            · have := hfr c (by omega) z2 z3
              by_cases q : hdA (rkm m) (wsm m) S c = hdA (rkm m) (wsm m) S i
              · rw [q, uf_eq]; rw [q] at this; omega
              · rw [uf_ne q]; exact this
        · skip
          dsimp only [Option.toList, List.cons_append, List.nil_append]
          refine a_if_eq 71 eX7_findWays_64 (by decide) (by omega) (fun _ => ?_) (fun h => absurd h (by decide))
          refine a_iconst eX7_findWays_71 ?_
          refine a_ior ch eX7_findWays_72 (by rcases hch with rfl | rfl <;> decide) ?_
          refine a_ist4 eX7_findWays_73 (by decide) aw_n2i ?_
          refine a_iinc6 eX7_findWays_75 (by decide) aw_n2i ?_
          refine a_goto 40 eX7_findWays_78 (by decide) ?_
          have ih1 := ih (i + 1) σ1 ch t (by omega) (by omega) f1 hfw hlo (fun c z1 z2 z3 => ?_) hch (fun z c z1 z2 z3 => ?_) (by omega)
          · rw [show (((i + 1 : Nat) : Nat) : Int) = (i : Int) + 1 by omega] at ih1
            exact ih1
          · by_cases y : c = i
            · subst y
              have h8 := hlo _ okt.1.1 okt.1.2
              have h7 := lyM_b (rk := rkm m) (ws := wsm m) (S := S) (n := n1) (s := s) (by omega) k1 (tlA (rkm m) (wsm m) S c) (by omega)
              have h9 : ¬ (σ1.1 85 (hdA (rkm m) (wsm m) S c) < σ1.1 85 (tlA (rkm m) (wsm m) S c) + gnA S c) := fun w => hF61 ⟨by omega, w⟩
              omega
            · exact hfr c (by omega) z2 z3
          · by_cases y : c = i
            · subst y
              have h9 : ¬ (σ1.1 85 (hdA (rkm m) (wsm m) S c) < σ1.1 85 (tlA (rkm m) (wsm m) S c) + gnA S c) := fun w => hF61 ⟨z3, w⟩
              omega
            · exact hfx z c (by omega) z2 z3
      · skip
        dsimp only [Option.toList, List.cons_append, List.nil_append]
        refine a_if_eq 71 eX7_findWays_54 (by decide) (by omega) (fun _ => ?_) (fun h => absurd h (by decide))
        refine a_iconst eX7_findWays_71 ?_
        refine a_ior ch eX7_findWays_72 (by rcases hch with rfl | rfl <;> decide) ?_
        refine a_ist4 eX7_findWays_73 (by decide) aw_n2i ?_
        refine a_iinc6 eX7_findWays_75 (by decide) aw_n2i ?_
        refine a_goto 40 eX7_findWays_78 (by decide) ?_
        have ih1 := ih (i + 1) σ1 ch t (by omega) (by omega) f1 hfw hlo (fun c z1 z2 z3 => ?_) hch (fun z c z1 z2 z3 => ?_) (by omega)
        · rw [show (((i + 1 : Nat) : Nat) : Int) = (i : Int) + 1 by omega] at ih1
          exact ih1
        · by_cases y : c = i
          · subst y; exact absurd z2 hF51
          · exact hfr c (by omega) z2 z3
        · by_cases y : c = i
          · subst y; exact absurd z2 hF51
          · exact hfx z c (by omega) z2 z3

set_option maxHeartbeats 4000000 in
set_option maxRecDepth 100000 in
theorem lp_fwO {l : Launch} {σ : aw_S} {Post : Option Value → aw_S → Prop} {tw cs : Bool} (hR : σ.2.2 = RF tw cs) {m : mS} {N : Int} (hD : dayC σ 21 0 m) (wC : wfCity m) (wD : wfDay m 0 N) {S : Nat} (hS : σ.1 84 2 = (S : Int)) (hS6 : S < 65536) {n1 : Nat} (hn1 : (n1 : Int) ≤ m 0 4) {f : Int → Int} (hf : feas f (rkm m) (wsm m) S n1) {s : Int} (hs : 0 ≤ s ∧ s < 6) (hk : ∀ σ' t, frR σ σ' → fwI f (rkm m) (wsm m) S n1 s (σ'.1 85) (σ'.1 86) t → t ≤ 100 → fwF (rkm m) (wsm m) S n1 (σ'.1 85) n1 → Post none σ')  : ∀ (n : Nat) (k1 : Nat) (σ1 : aw_S) (ch : Int) (t : Nat) (lx : Option Value), ((5 - k1) ≤ n) → (k1 ≤ 5) → (frR σ σ1) → (fwI f (rkm m) (wsm m) S n1 s (σ1.1 85) (σ1.1 86) t) → (fwLo (rkm m) (wsm m) S n1 s (σ1.1 85) k1) → (ch = 0 ∨ ch = 1) → (ch = 0 → fwF (rkm m) (wsm m) S n1 (σ1.1 85) n1) → (t ≤ 16 * k1) → AW l yX7_findWays cX7_findWays 7 (none : Option Jvm.ClassFile.FieldType) 3 68 0 0 SH Post SH 0 0 (σ1) 22 [some (.ref 84), some (.ref 21), some (.int (jI s)), some (.int (jI (n1 : Int))), some (.int (jI ch)), some (.int (jI ((k1 : Int) + 1))), lx] [] := by
  intro n
  induction n with
  | zero =>
    intro k1 σ1 ch t lx hm hk5 f1 hfw hlo hch hfx ht
    have hD1 : dayC σ1 21 0 m := dayC_R wD (fun a j q => f1.1 a j (by omega) (by omega)) hD
    have hR : σ1.2.2 = RF tw cs := by rw [f1.2]; exact hR
    have hS : σ1.1 84 2 = (S : Int) := (f1.1 _ _ (by omega) (by omega)).trans hS
    have v16 := (wfDay_0 wD).2.1
    have ok := rk_ok wC wD hn1
    refine a_ild5 eX7_findWays_22 ?_
    refine a_bipush eX7_findWays_24 (by decide) ?_
    refine a_icmp_ge 87 eX7_findWays_26 (by decide) (by omega) (fun hT26 => ?_) (fun hF26 => ?_)
    · skip
      refine a_vret eX7_findWays_87 rfl rfl ⟨Nat.zero_le _, Nat.zero_le _⟩ ?_
      rw [show k1 = 5 by omega] at hlo
      exact hk σ1 t f1 hfw (by omega) (fwF_5 ok hf hs hfw hlo)
    · skip
      refine a_ild4 eX7_findWays_29 ?_
      refine a_if_eq 87 eX7_findWays_31 (by decide) (by omega) (fun hT31 => ?_) (fun hF31 => ?_)
      · skip
        refine a_vret eX7_findWays_87 rfl rfl ⟨Nat.zero_le _, Nat.zero_le _⟩ ?_
        exact hk σ1 t f1 hfw (by omega) (hfx (by omega))
      · skip
        exfalso; omega
  | succ n ih =>
    intro k1 σ1 ch t lx hm hk5 f1 hfw hlo hch hfx ht
    have hD1 : dayC σ1 21 0 m := dayC_R wD (fun a j q => f1.1 a j (by omega) (by omega)) hD
    have hR : σ1.2.2 = RF tw cs := by rw [f1.2]; exact hR
    have hS : σ1.1 84 2 = (S : Int) := (f1.1 _ _ (by omega) (by omega)).trans hS
    have v16 := (wfDay_0 wD).2.1
    have ok := rk_ok wC wD hn1
    refine a_ild5 eX7_findWays_22 ?_
    refine a_bipush eX7_findWays_24 (by decide) ?_
    refine a_icmp_ge 87 eX7_findWays_26 (by decide) (by omega) (fun hT26 => ?_) (fun hF26 => ?_)
    · skip
      refine a_vret eX7_findWays_87 rfl rfl ⟨Nat.zero_le _, Nat.zero_le _⟩ ?_
      rw [show k1 = 5 by omega] at hlo
      exact hk σ1 t f1 hfw (by omega) (fwF_5 ok hf hs hfw hlo)
    · skip
      refine a_ild4 eX7_findWays_29 ?_
      refine a_if_eq 87 eX7_findWays_31 (by decide) (by omega) (fun hT31 => ?_) (fun hF31 => ?_)
      · skip
        refine a_vret eX7_findWays_87 rfl rfl ⟨Nat.zero_le _, Nat.zero_le _⟩ ?_
        exact hk σ1 t f1 hfw (by omega) (hfx (by omega))
      · skip
        refine a_iconst eX7_findWays_34 ?_
        refine a_ist4 eX7_findWays_35 (by decide) aw_n2i ?_
        refine a_iconst eX7_findWays_37 ?_
        refine a_ist6 eX7_findWays_38 (by decide) aw_n2i ?_
        refine lp_fwI (σ := σ1) hR hD1 wC wD hS hS6 hn1 hf hs (k1 := k1) (by omega) (fun σ2 ch2 t2 f2 hfw2 hlo2 hch2 hfx2 ht2 lx => ?_) _ 0 σ1 0 t (Nat.le_refl _) (Nat.zero_le _) ⟨fun _ _ _ _ => rfl, rfl⟩ hfw hlo (fun c z => by omega) (Or.inl rfl) (fun _ c z => by omega) (by omega)
        refine a_iinc5 eX7_findWays_81 (by decide) aw_n2i ?_
        refine a_goto 22 eX7_findWays_84 (by decide) ?_
        rw [show (k1 : Int) + 1 + 1 = (((k1 + 1 : Nat) : Nat) : Int) + 1 by omega]
        exact ih (k1 + 1) σ2 ch2 t2 _ (by omega) (by omega) (frR_tr f1 f2) hfw2 hlo2 hch2 hfx2 (by omega)

set_option maxHeartbeats 4000000 in
set_option maxRecDepth 100000 in
theorem c_X7_findWays {l : Launch} {σ : aw_S} {Post : Option Value → aw_S → Prop} {tw cs : Bool} (hR : σ.2.2 = RF tw cs) {m : mS} {N : Int} (hD : dayC σ 21 0 m) (wC : wfCity m) (wD : wfDay m 0 N) {S : Nat} (hS : σ.1 84 2 = (S : Int)) (hS6 : S < 65536) {n1 : Nat} (hn1 : (n1 : Int) ≤ m 0 4) {f : Int → Int} (hf : feas f (rkm m) (wsm m) S n1) {s : Int} (hs : 0 ≤ s ∧ s < 6) (hk : ∀ σ' t, frR σ σ' → fwI f (rkm m) (wsm m) S n1 s (σ'.1 85) (σ'.1 86) t → t ≤ 100 → fwF (rkm m) (wsm m) S n1 (σ'.1 85) n1 → Post none σ')  : AE l yX7_findWays cX7_findWays 7 (none : Option Jvm.ClassFile.FieldType) 3 68 0 0 SH SH σ [.ref 84, .ref 21, .int (jI s), .int (jI (n1 : Int))] Post := by
  show AW l yX7_findWays cX7_findWays 7 (none : Option Jvm.ClassFile.FieldType) 3 68 0 0 SH Post SH 0 0 σ 0 [some (.ref 84), some (.ref 21), some (.int (jI s)), some (.int (jI (n1 : Int))), none, none, none] []
  refine a_ald0 eX7_findWays_0 ?_
  refine a_getR 0 85 eX7_findWays_1 fl_X7_9 rfl rfl sh_84 ((congrFun (congrFun hR _) _).trans rf_84_0) ?_
  refine a_ldc (-268435456) (by decide) eX7_findWays_4 kc_X7_59 ?_
  refine a_cS2 eX7_findWays_6 lk_X7_68 mS_J7_fill_53178 mt_J7_fill_53178 rfl rfl rfl rfl rfl rfl (c_J7_fill_53178 sh_85 rfl ?_)
  dsimp only [Option.toList, List.cons_append, List.nil_append]
  refine a_ald0 eX7_findWays_9 ?_
  refine a_getR 0 85 eX7_findWays_10 fl_X7_9 rfl rfl sh_84 ((congrFun (congrFun hR _) _).trans rf_84_0) ?_
  refine a_ild2 eX7_findWays_13 ?_
  refine a_iconst eX7_findWays_14 ?_
  refine a_iast eX7_findWays_15 sh_85 rfl (by omega) ?_
  refine a_iconst eX7_findWays_16 ?_
  refine a_ist4 eX7_findWays_17 (by decide) aw_n2i ?_
  refine a_iconst eX7_findWays_19 ?_
  refine a_ist5 eX7_findWays_20 (by decide) aw_n2i ?_
  have h0 := fwI_0 (f := f) (rk := rkm m) (ws := wsm m) (S := S) (n := n1) (s := s) (σ.1 86) ((aw_si (aw_sa σ 85 (fun j => if 0 ≤ j ∧ j < ((6 : Nat) : Int) then -268435456 else σ.1 85 j)) 85 s 0).1 85) (fun v z1 z2 => ?_) hs
  · exact lp_fwO hR hD wC wD hS hS6 hn1 hf hs hk _ 0 _ 1 0 none (Nat.le_refl _) (Nat.zero_le _) ⟨fun a j p q => by rw [rd_si_ne p, rd_sa_ne p], rfl⟩ h0.1 h0.2 (Or.inr rfl) (fun z => by omega) (by omega)
  · by_cases q : v = s
    · rw [q, if_pos rfl]; exact rd_si_eq
    · rw [if_neg q, rd_si_ni q, rd_sa_eq]; exact if_pos (by omega)
