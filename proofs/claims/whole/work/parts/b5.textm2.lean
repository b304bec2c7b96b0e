/-! ===== the statements, the reference ===== -/
def drM (σ : aw_S) (B : Int → Int) (d : mS) : Prop :=
  (σ.1 171 6 = d 0 0 ∧ (∀ r : Int, 0 ≤ r → r < d 0 0 → σ.1 174 (3 * r) = d 1 r ∧ σ.1 174 (3 * r + 1) = d 2 r ∧ σ.1 174 (3 * r + 2) = d 3 r)) ∧
  (σ.1 171 9 = d 0 1 ∧ (∀ k : Int, 0 ≤ k → k < d 0 1 → σ.1 175 (4 * k) = d 4 k ∧ σ.1 175 (4 * k + 1) = d 5 k ∧ σ.1 175 (4 * k + 2) = d 6 k ∧ σ.1 175 (4 * k + 3) = d 7 k)) ∧
  ((d 0 10 = 0 → σ.1 176 0 = -1) ∧ (d 0 10 = 1 → σ.1 176 0 = d 8 0 ∧ σ.1 176 1 = d 8 1 ∧ σ.1 176 2 = d 8 2 ∧ σ.1 176 3 = d 8 3)) ∧
  ((d 0 11 = 0 → σ.1 177 0 = -1) ∧ (d 0 11 = 1 → σ.1 177 0 = d 9 0 ∧ σ.1 177 1 = d 9 1)) ∧
  ((d 0 12 = 0 → σ.1 171 13 = -1) ∧ (d 0 12 = 1 → σ.1 171 13 = d 0 2)) ∧ (∀ r : Int, 0 ≤ r → r < d 0 0 → σ.2.1 173 r = pkv (sgn B (d 20 r)) (d 21 r).toNat)
/-- all that a text's reading may change in the reference -/
def frTxM (σ σ' : aw_S) : Prop := (∀ (b : Nat) (j : Int), ¬ (b = 171 ∧ ((2 ≤ j ∧ j ≤ 4) ∨ j = 6 ∨ j = 9 ∨ j = 13 ∨ j = 44)) → ¬ (174 ≤ b ∧ b ≤ 177) → σ'.1 b j = σ.1 b j) ∧ (∀ (b : Nat) (j : Int), ¬ (b = 171 ∧ j = 5) → b ≠ 173 → σ'.2.1 b j = σ.2.1 b j) ∧ σ'.2.2 = σ.2.2
theorem frTxM_rf (σ : aw_S) : frTxM σ σ := ⟨fun _ _ _ _ => rfl, fun _ _ _ _ => rfl, rfl⟩
theorem frTxM_tr {σ σ1 σ2 : aw_S} (h : frTxM σ σ1) (h2 : frTxM σ1 σ2) : frTxM σ σ2 := ⟨fun b j q1 q2 => (h2.1 b j q1 q2).trans (h.1 b j q1 q2), fun b j q1 q2 => (h2.2.1 b j q1 q2).trans (h.2.1 b j q1 q2), h2.2.2.trans h.2.2⟩
/-- the TOKEN and the number told -/
def frNM (σ σ' : aw_S) : Prop := (∀ (b : Nat) (j : Int), ¬ (b = 171 ∧ ((2 ≤ j ∧ j ≤ 4) ∨ j = 44)) → σ'.1 b j = σ.1 b j) ∧ (∀ (b : Nat) (j : Int), ¬ (b = 171 ∧ j = 5) → σ'.2.1 b j = σ.2.1 b j) ∧ σ'.2.2 = σ.2.2
theorem frNM_K {σ σ' : aw_S} (h : frKM σ σ') : frNM σ σ' := ⟨fun b j q => h.1 b j (by omega), h.2.1, h.2.2⟩
theorem frNM_T {σ σ' : aw_S} (h : frNM σ σ') : frTxM σ σ' := ⟨fun b j q1 q2 => h.1 b j (by omega), fun b j q1 q2 => h.2.1 b j q1, h.2.2⟩
theorem frNM_tr {σ σ1 σ2 : aw_S} (h : frNM σ σ1) (h2 : frNM σ1 σ2) : frNM σ σ2 := ⟨fun b j q => (h2.1 b j q).trans (h.1 b j q), fun b j q => (h2.2.1 b j q).trans (h.2.1 b j q), h2.2.2.trans h.2.2⟩
theorem txM_T {σ σ' : aw_S} {B : Int → Int} {n : Int} (h : frTxM σ σ') (hT : txM σ B n) : txM σ' B n := ⟨(h.1 171 1 (by omega) (by omega)).trans hT.1, fun i i1 i2 => (h.1 172 i (by omega) (by omega)).trans (hT.2 i i1 i2)⟩
theorem drM_N {σ σ' : aw_S} {B : Int → Int} {d : mS} (h : frNM σ σ') (hG : drM σ B d) : drM σ' B d := by
  obtain ⟨⟨g1, g2⟩, ⟨g3, g4⟩, g5, g6, g7, g8⟩ := hG
  refine ⟨⟨?_, fun r r1 r2 => ?_⟩, ⟨?_, fun k k1 k2 => ?_⟩, ?_, ?_, ?_, fun r r1 r2 => ?_⟩
  · rw [h.1 171 6 (by omega)]; exact g1
  · rw [h.1 174 _ (by omega), h.1 174 _ (by omega), h.1 174 _ (by omega)]; exact g2 r r1 r2
  · rw [h.1 171 9 (by omega)]; exact g3
  · rw [h.1 175 _ (by omega), h.1 175 _ (by omega), h.1 175 _ (by omega), h.1 175 _ (by omega)]; exact g4 k k1 k2
  · rw [h.1 176 _ (by omega), h.1 176 _ (by omega), h.1 176 _ (by omega), h.1 176 _ (by omega)]; exact g5
  · rw [h.1 177 _ (by omega), h.1 177 _ (by omega)]; exact g6
  · rw [h.1 171 13 (by omega)]; exact g7
  · rw [h.2.1 173 r (by omega)]; exact g8 r r1 r2
set_option maxHeartbeats 4000000 in
set_option maxRecDepth 100000 in
theorem lp_nmd {l : Launch} {σ : aw_S} {Post : Option Value → aw_S → Prop} {tw cs : Bool} (hR : σ.2.2 = RF tw cs) {B : Int → Int} {nn : Int} {d : mS} {q : Int} (hG : drM σ B d) (wG : wfDr B nn d) (hq : 0 ≤ q ∧ q ≤ nn) (hC : tkM σ B nn q) (hk : Post (some (.int (jI (cif (tkd B nn q = 1) (rnk B nn d q) (-1))))) σ)  : ∀ (n : Nat) (r : Int), ((d 0 0 - r).toNat ≤ n) → (0 ≤ r ∧ r ≤ d 0 0) → (tkd B nn q = 1 → ∀ s : Int, 0 ≤ s → s < r → ¬ isnmd B nn d q s) → AW l yX10_named cX10_named 2 (some .int) 8 170 0 0 SH Post SH 0 0 (σ) 2 [some (.ref 171), some (.int (jI r))] [] := by
  intro n
  induction n with
  | zero =>
    intro r hm hr hno
    obtain ⟨k1, k2, k3, k4, k5⟩ := id hC
    have b0 := tok_b (B := B) hq
    have h35 : (if tkd B nn q = 5 then 0 else tkd B nn q) = 1 ↔ tkd B nn q = 1 := by split <;> omega
    have h32 : (if tkd B nn q = 5 then 0 else tkd B nn q) = 2 ↔ tkd B nn q = 2 := by split <;> omega
    have h33 : (if tkd B nn q = 5 then 0 else tkd B nn q) = 3 ↔ tkd B nn q = 3 := by split <;> omega
    have h3b : 0 ≤ (if tkd B nn q = 5 then 0 else tkd B nn q) ∧ (if tkd B nn q = 5 then 0 else tkd B nn q) ≤ 4 := by split <;> omega
    obtain ⟨K3, hK3⟩ : ∃ K, K = (if tkd B nn q = 5 then 0 else tkd B nn q) := ⟨_, rfl⟩
    rw [← hK3] at k3 h35 h32 h33 h3b
    obtain ⟨⟨g1, g2⟩, ⟨g3, g4⟩, g5, g6, g7, g8⟩ := id hG
    obtain ⟨w1, w2, w3, w4, w5, w6, w7, w8, w9, w10, w11⟩ := id wG
    refine a_ild1 eX10_named_2 ?_
    refine a_ald0 eX10_named_3 ?_
    refine a_getI 6 eX10_named_4 fl_X10_185 rfl rfl sh_171 ?_
    refine a_eqtop (y0 := d 0 0) (by exact g1) ?_
    refine a_icmp_ge 39 eX10_named_7 (by decide) (by omega) (fun hT7 => ?_) (fun hF7 => ?_)
    · skip
      refine a_iconst eX10_named_39 ?_
      refine a_iret eX10_named_40 rfl rfl ⟨Nat.zero_le _, Nat.zero_le _⟩ ?_
      by_cases ht : tkd B nn q = 1
      · rw [cif_y ht, rnk_n (fun z => by obtain ⟨s, s1, s2⟩ := z; exact hno ht s s1.1 (by omega) s2)] at hk
        exact hk
      · rw [cif_n ht] at hk
        exact hk
    · skip
      exfalso; omega
  | succ n ih =>
    intro r hm hr hno
    obtain ⟨k1, k2, k3, k4, k5⟩ := id hC
    have b0 := tok_b (B := B) hq
    have h35 : (if tkd B nn q = 5 then 0 else tkd B nn q) = 1 ↔ tkd B nn q = 1 := by split <;> omega
    have h32 : (if tkd B nn q = 5 then 0 else tkd B nn q) = 2 ↔ tkd B nn q = 2 := by split <;> omega
    have h33 : (if tkd B nn q = 5 then 0 else tkd B nn q) = 3 ↔ tkd B nn q = 3 := by split <;> omega
    have h3b : 0 ≤ (if tkd B nn q = 5 then 0 else tkd B nn q) ∧ (if tkd B nn q = 5 then 0 else tkd B nn q) ≤ 4 := by split <;> omega
    obtain ⟨K3, hK3⟩ : ∃ K, K = (if tkd B nn q = 5 then 0 else tkd B nn q) := ⟨_, rfl⟩
    rw [← hK3] at k3 h35 h32 h33 h3b
    obtain ⟨⟨g1, g2⟩, ⟨g3, g4⟩, g5, g6, g7, g8⟩ := id hG
    obtain ⟨w1, w2, w3, w4, w5, w6, w7, w8, w9, w10, w11⟩ := id wG
    refine a_ild1 eX10_named_2 ?_
    refine a_ald0 eX10_named_3 ?_
    refine a_getI 6 eX10_named_4 fl_X10_185 rfl rfl sh_171 ?_
    refine a_eqtop (y0 := d 0 0) (by exact g1) ?_
    refine a_icmp_ge 39 eX10_named_7 (by decide) (by omega) (fun hT7 => ?_) (fun hF7 => ?_)
    · skip
      refine a_iconst eX10_named_39 ?_
      refine a_iret eX10_named_40 rfl rfl ⟨Nat.zero_le _, Nat.zero_le _⟩ ?_
      by_cases ht : tkd B nn q = 1
      · rw [cif_y ht, rnk_n (fun z => by obtain ⟨s, s1, s2⟩ := z; exact hno ht s s1.1 (by omega) s2)] at hk
        exact hk
      · rw [cif_n ht] at hk
        exact hk
    · skip
      refine a_ald0 eX10_named_10 ?_
      refine a_cV0 eX10_named_11 lk_X10_188 mV_X10_isName sh_171 ⟨_, rfl, rfl⟩ mt_X10_isName rfl rfl rfl rfl (c_X10_isName hR hq hC (fun hT11 => ?_) (fun hF11 => ?_))
      · skip
        dsimp only [Option.toList, List.cons_append, List.nil_append]
        refine a_if_eq 39 eX10_named_14 (by decide) (by omega) (fun h => absurd h (by decide)) (fun _ => ?_)
        have ht1 := hT11.1.1
        have hwb := wv_b hq ht1
        have hiv := isnmd_v wG (r := r) hq ht1 (by omega)
        obtain ⟨n1, n2, n3⟩ := w11 r (by omega) (by omega)
        have hnl : ∀ i : Nat, i < (d 21 r).toNat → 97 ≤ sgn B (d 20 r) i ∧ sgn B (d 20 r) i ≤ 122 := fun i hi => n2 (i : Int) (by omega) (by omega)
        have hp1 := (pkv_b (f := sgn B (d 20 r)) (d 21 r).toNat hnl).1
        have hp2 := (pkv_8 (f := sgn B (d 20 r)) (j := (d 21 r).toNat) hnl (by omega)).1
        have hlc := lcm_e (pkv (sgn B (d 20 r)) (d 21 r).toNat) (wv B nn q)
        refine a_ald0 eX10_named_17 ?_
        refine a_getR 7 173 eX10_named_18 fl_X10_13 rfl rfl sh_171 ((congrFun (congrFun hR _) _).trans rf_171_7) ?_
        refine a_ild1 eX10_named_21 ?_
        refine a_lald eX10_named_22 sh_173 rfl (by omega) ?_
        refine a_eqtopL (y0 := pkv (sgn B (d 20 r)) (d 21 r).toNat) (by exact g8 r (by omega) (by omega)) ?_
        refine a_ald0 eX10_named_23 ?_
        refine a_getL 5 eX10_named_24 fl_X10_138 rfl rfl sh_171 ?_
        refine a_eqtopL (y0 := wv B nn q) (by exact k4 ht1) ?_
        refine a_lcmp (lcm (pkv (sgn B (d 20 r)) (d 21 r).toNat) (wv B nn q)) eX10_named_27 (jL_cmp (by omega) (by omega)) ?_
        refine a_if_ne 33 eX10_named_28 (by decide) (by omega) (fun hT28 => ?_) (fun hF28 => ?_)
        · skip
          refine a_iinc1 eX10_named_33 (by decide) aw_n2r ?_
          refine a_goto 2 eX10_named_36 (by decide) ?_
          refine ih (r + 1) (by omega) (by omega) (fun ht s s1 s2 => ?_)
          by_cases z : s = r
          · rw [z]
            exact fun w => by have := hiv.mp w; omega
          · exact hno ht s s1 (by omega)
        · skip
          refine a_ild1 eX10_named_31 ?_
          refine a_iret eX10_named_32 rfl rfl ⟨Nat.zero_le _, Nat.zero_le _⟩ ?_
          rw [cif_y ht1, rnk_y (r := r) ⟨⟨by omega, hiv.mpr (by omega)⟩, hno ht1⟩] at hk
          exact hk
      · skip
        dsimp only [Option.toList, List.cons_append, List.nil_append]
        refine a_if_eq 39 eX10_named_14 (by decide) (by omega) (fun _ => ?_) (fun h => absurd h (by decide))
        refine a_iconst eX10_named_39 ?_
        refine a_iret eX10_named_40 rfl rfl ⟨Nat.zero_le _, Nat.zero_le _⟩ ?_
        by_cases ht : tkd B nn q = 1
        · rw [cif_y ht, rnk_n (fun z => by obtain ⟨s, s1, s2⟩ := z; exact hF11 (nmd_isnm wG ht s1 s2))] at hk
          exact hk
        · rw [cif_n ht] at hk
          exact hk

set_option maxHeartbeats 4000000 in
set_option maxRecDepth 100000 in
theorem c_X10_named {l : Launch} {σ : aw_S} {Post : Option Value → aw_S → Prop} {tw cs : Bool} (hR : σ.2.2 = RF tw cs) {B : Int → Int} {nn : Int} {d : mS} {q : Int} (hG : drM σ B d) (wG : wfDr B nn d) (hq : 0 ≤ q ∧ q ≤ nn) (hC : tkM σ B nn q) (hk : Post (some (.int (jI (cif (tkd B nn q = 1) (rnk B nn d q) (-1))))) σ)  : AE l yX10_named cX10_named 2 (some .int) 8 170 0 0 SH SH σ [.ref 171] Post := by
  show AW l yX10_named cX10_named 2 (some .int) 8 170 0 0 SH Post SH 0 0 σ 0 [some (.ref 171), none] []
  have w1 := wG.1
  refine a_iconst eX10_named_0 ?_
  refine a_ist1 eX10_named_1 (by decide) aw_n2r ?_
  exact lp_nmd hR hG wG hq hC hk _ 0 (Nat.le_refl _) (by omega) (fun _ s s1 s2 => by omega)

set_option maxHeartbeats 4000000 in
set_option maxRecDepth 100000 in
theorem c_X10_number {l : Launch} {σ : aw_S} {Post : Option Value → aw_S → Prop} {tw cs : Bool} (hR : σ.2.2 = RF tw cs) {B : Int → Int} {nn : Int} (hT : txM σ B nn) (wT : wfTx B nn) {q lo hi : Int} (hq : 0 ≤ q ∧ q ≤ nn) (hC : tkM σ B nn q) (hlh : (0 ≤ lo ∧ lo ≤ 1000) ∧ (0 ≤ hi ∧ hi ≤ 999)) (h1 : ∀ σ', frNM σ σ' → tkM σ' B nn (te B nn q) → σ'.1 171 44 = nv B nn q → isnum B nn lo hi q → Post (some (.int (jI 1))) σ') (h0 : ¬ isnum B nn lo hi q → Post (some (.int (jI 0))) σ)  : AE l yX10_number cX10_number 3 (some .boolean) 2 41 0 0 SH SH σ [.ref 171, .int (jI lo), .int (jI hi)] Post := by
  show AW l yX10_number cX10_number 3 (some .boolean) 2 41 0 0 SH Post SH 0 0 σ 0 [some (.ref 171), some (.int (jI lo)), some (.int (jI hi))] []
  obtain ⟨k1, k2, k3, k4, k5⟩ := id hC
  have b0 := tok_b (B := B) hq
  have h35 : (if tkd B nn q = 5 then 0 else tkd B nn q) = 1 ↔ tkd B nn q = 1 := by split <;> omega
  have h32 : (if tkd B nn q = 5 then 0 else tkd B nn q) = 2 ↔ tkd B nn q = 2 := by split <;> omega
  have h33 : (if tkd B nn q = 5 then 0 else tkd B nn q) = 3 ↔ tkd B nn q = 3 := by split <;> omega
  have h3b : 0 ≤ (if tkd B nn q = 5 then 0 else tkd B nn q) ∧ (if tkd B nn q = 5 then 0 else tkd B nn q) ≤ 4 := by split <;> omega
  obtain ⟨K3, hK3⟩ : ∃ K, K = (if tkd B nn q = 5 then 0 else tkd B nn q) := ⟨_, rfl⟩
  rw [← hK3] at k3 h35 h32 h33 h3b
  refine a_ald0 eX10_number_0 ?_
  refine a_getI 3 eX10_number_1 fl_X10_142 rfl rfl sh_171 ?_
  refine a_eqtop (y0 := K3) (by exact k3) ?_
  refine a_iconst eX10_number_4 ?_
  refine a_icmp_ne 28 eX10_number_5 (by decide) (by omega) (fun hT5 => ?_) (fun hF5 => ?_)
  · skip
    refine a_iconst eX10_number_28 ?_
    refine a_zret eX10_number_29 rfl (by first | exact Or.inl rfl | exact Or.inr rfl | omega) rfl ⟨Nat.zero_le _, Nat.zero_le _⟩ ?_
    exact h0 (fun z => by have := h32.mpr z.1; omega)
  · skip
    have hnb := nv_b hq (h32.mp (by omega))
    have hl1 := lcm_e (nv B nn q) lo
    have hl2 := lcm_e (nv B nn q) hi
    refine a_ald0 eX10_number_8 ?_
    refine a_getL 5 eX10_number_9 fl_X10_138 rfl rfl sh_171 ?_
    refine a_eqtopL (y0 := nv B nn q) (by exact k5 (h32.mp (by omega))) ?_
    refine a_ild1 eX10_number_12 ?_
    refine a_i2l eX10_number_13 (by omega) ?_
    refine a_lcmp (lcm (nv B nn q) lo) eX10_number_14 (jL_cmp (by omega) (by omega)) ?_
    refine a_if_lt 28 eX10_number_15 (by decide) (by omega) (fun hT15 => ?_) (fun hF15 => ?_)
    · skip
      refine a_iconst eX10_number_28 ?_
      refine a_zret eX10_number_29 rfl (by first | exact Or.inl rfl | exact Or.inr rfl | omega) rfl ⟨Nat.zero_le _, Nat.zero_le _⟩ ?_
      exact h0 (fun z => by have := z.2; omega)
    · skip
      refine a_ald0 eX10_number_18 ?_
      refine a_getL 5 eX10_number_19 fl_X10_138 rfl rfl sh_171 ?_
      refine a_eqtopL (y0 := nv B nn q) (by exact k5 (h32.mp (by omega))) ?_
      refine a_ild2 eX10_number_22 ?_
      refine a_i2l eX10_number_23 (by omega) ?_
      refine a_lcmp (lcm (nv B nn q) hi) eX10_number_24 (jL_cmp (by omega) (by omega)) ?_
      refine a_if_le 30 eX10_number_25 (by decide) (by omega) (fun hT25 => ?_) (fun hF25 => ?_)
      · skip
        refine a_ald0 eX10_number_30 ?_
        refine a_ald0 eX10_number_31 ?_
        refine a_getL 5 eX10_number_32 fl_X10_138 rfl rfl sh_171 ?_
        refine a_eqtopL (y0 := nv B nn q) (by exact k5 (h32.mp (by omega))) ?_
        refine a_l2i eX10_number_35 ?_
        refine a_putI 44 eX10_number_36 fl_X10_192 rfl rfl sh_171 (fun q h => Or.inl (by cases h; rfl)) ?_
        refine a_ald0 eX10_number_39 ?_
        refine a_cV0 eX10_number_40 lk_X10_195 mV_X10_leads sh_171 ⟨_, rfl, rfl⟩ mt_X10_leads rfl rfl rfl rfl (c_X10_leads (by exact hR) (txM_T (σ' := aw_si σ 171 44 (nv B nn q)) ⟨fun b j z1 z2 => by rw [rd_si, if_neg (by omega)], fun _ _ _ _ => rfl, rfl⟩ hT) wT (q := te B nn q) (by omega) (by rw [rd_si_ni (by omega)]; exact k1) (fun σ2 f2 hC2 => ?_))
        dsimp only [Option.toList, List.cons_append, List.nil_append]
        refine a_iconst eX10_number_43 ?_
        refine a_zret eX10_number_44 rfl (by first | exact Or.inl rfl | exact Or.inr rfl | omega) rfl ⟨Nat.zero_le _, Nat.zero_le _⟩ ?_
        exact h1 σ2 ⟨fun b j z => by rw [f2.1 b j (by omega), rd_si, if_neg (by omega)], fun b j z => f2.2.1 b j z, f2.2.2⟩ hC2 (by rw [f2.1 _ _ (by omega), rd_si_eq]) ⟨h32.mp (by omega), by omega, by omega⟩
      · skip
        refine a_iconst eX10_number_28 ?_
        refine a_zret eX10_number_29 rfl (by first | exact Or.inl rfl | exact Or.inr rfl | omega) rfl ⟨Nat.zero_le _, Nat.zero_le _⟩ ?_
        exact h0 (fun z => by have := z.2; omega)

set_option maxHeartbeats 4000000 in
set_option maxRecDepth 100000 in
theorem c_X10_closes {l : Launch} {σ : aw_S} {Post : Option Value → aw_S → Prop} {tw cs : Bool} (hR : σ.2.2 = RF tw cs) {B : Int → Int} {nn : Int} (hT : txM σ B nn) (wT : wfTx B nn) {q : Int} (hq : 0 ≤ q ∧ q ≤ nn) (hC : tkM σ B nn q) (h1 : ∀ σ', frKM σ σ' → tkM σ' B nn (te B nn q) → tkd B nn q = 3 → Post (some (.int (jI 1))) σ') (h0 : ¬ tkd B nn q = 3 → Post (some (.int (jI 0))) σ)  : AE l yX10_closes cX10_closes 1 (some .boolean) 2 41 0 0 SH SH σ [.ref 171] Post := by
  show AW l yX10_closes cX10_closes 1 (some .boolean) 2 41 0 0 SH Post SH 0 0 σ 0 [some (.ref 171)] []
  obtain ⟨k1, k2, k3, k4, k5⟩ := id hC
  have b0 := tok_b (B := B) hq
  have h35 : (if tkd B nn q = 5 then 0 else tkd B nn q) = 1 ↔ tkd B nn q = 1 := by split <;> omega
  have h32 : (if tkd B nn q = 5 then 0 else tkd B nn q) = 2 ↔ tkd B nn q = 2 := by split <;> omega
  have h33 : (if tkd B nn q = 5 then 0 else tkd B nn q) = 3 ↔ tkd B nn q = 3 := by split <;> omega
  have h3b : 0 ≤ (if tkd B nn q = 5 then 0 else tkd B nn q) ∧ (if tkd B nn q = 5 then 0 else tkd B nn q) ≤ 4 := by split <;> omega
  obtain ⟨K3, hK3⟩ : ∃ K, K = (if tkd B nn q = 5 then 0 else tkd B nn q) := ⟨_, rfl⟩
  rw [← hK3] at k3 h35 h32 h33 h3b
  refine a_ald0 eX10_closes_0 ?_
  refine a_getI 3 eX10_closes_1 fl_X10_142 rfl rfl sh_171 ?_
  refine a_eqtop (y0 := K3) (by exact k3) ?_
  refine a_iconst eX10_closes_4 ?_
  refine a_icmp_eq 10 eX10_closes_5 (by decide) (by omega) (fun hT5 => ?_) (fun hF5 => ?_)
  · skip
    refine a_ald0 eX10_closes_10 ?_
    refine a_cV0 eX10_closes_11 lk_X10_195 mV_X10_leads sh_171 ⟨_, rfl, rfl⟩ mt_X10_leads rfl rfl rfl rfl (c_X10_leads hR hT wT (q := te B nn q) (by omega) k1 (fun σ2 f2 hC2 => ?_))
    dsimp only [Option.toList, List.cons_append, List.nil_append]
    refine a_iconst eX10_closes_14 ?_
    refine a_zret eX10_closes_15 rfl (by first | exact Or.inl rfl | exact Or.inr rfl | omega) rfl ⟨Nat.zero_le _, Nat.zero_le _⟩ ?_
    exact h1 σ2 f2 hC2 (h33.mp (by omega))
  · skip
    refine a_iconst eX10_closes_8 ?_
    refine a_zret eX10_closes_9 rfl (by first | exact Or.inl rfl | exact Or.inr rfl | omega) rfl ⟨Nat.zero_le _, Nat.zero_le _⟩ ?_
    exact h0 (fun z => by have := h33.mpr z; omega)

theorem drM_co {σ σ' : aw_S} {B : Int → Int} {n : Int} {d : mS} {p : Int} (hG : drM σ B d) (hf : ∀ (b : Nat) (j : Int), ¬ (b = 171 ∧ ((2 ≤ j ∧ j ≤ 4) ∨ j = 44)) → ¬ (b = 171 ∧ j = 13) → σ'.1 b j = σ.1 b j) (hl : ∀ j : Int, σ'.2.1 173 j = σ.2.1 173 j) (v0 : σ'.1 171 13 = nv B n p) : drM σ' B (coD B n d p) := by
  obtain ⟨⟨g1, g2⟩, ⟨g3, g4⟩, g5, g6, g7, g8⟩ := hG
  have o : ∀ b j : Int, ¬ (b = 0 ∧ (j = 12 ∨ j = 2)) → coD B n d p b j = d b j := fun b j z1 => by
    unfold coD
    rw [up_ne (by omega), up_ne (by omega)]
  have eF : coD B n d p 0 12 = 1 := up_eq
  have e0 : coD B n d p 0 2 = nv B n p := by unfold coD; rw [up_ne (by omega), up_eq]
  refine ⟨⟨?_, fun r r1 r2 => ?_⟩, ⟨?_, fun k k1 k2 => ?_⟩, ?_, ?_, ⟨fun z => by omega, fun _ => by rw [v0, e0]⟩, fun r r1 r2 => ?_⟩
  · rw [hf 171 6 (by omega) (by omega), o 0 0 (by omega)]; exact g1
  · rw [o 0 0 (by omega)] at r2
    rw [hf 174 _ (by omega) (by omega), hf 174 _ (by omega) (by omega), hf 174 _ (by omega) (by omega), o 1 r (by omega), o 2 r (by omega), o 3 r (by omega)]; exact g2 r r1 r2
  · rw [hf 171 9 (by omega) (by omega), o 0 1 (by omega)]; exact g3
  · rw [o 0 1 (by omega)] at k2
    rw [hf 175 _ (by omega) (by omega), hf 175 _ (by omega) (by omega), hf 175 _ (by omega) (by omega), hf 175 _ (by omega) (by omega), o 4 k (by omega), o 5 k (by omega), o 6 k (by omega), o 7 k (by omega)]; exact g4 k k1 k2
  · rw [hf 176 _ (by omega) (by omega), hf 176 _ (by omega) (by omega), hf 176 _ (by omega) (by omega), hf 176 _ (by omega) (by omega), o 0 10 (by omega), o 8 0 (by omega), o 8 1 (by omega), o 8 2 (by omega), o 8 3 (by omega)]; exact g5
  · rw [hf 177 _ (by omega) (by omega), hf 177 _ (by omega) (by omega), o 0 11 (by omega), o 9 0 (by omega), o 9 1 (by omega)]; exact g6
  · rw [o 0 0 (by omega)] at r2
    rw [hl, o 20 r (by omega), o 21 r (by omega)]; exact g8 r r1 r2
set_option maxHeartbeats 4000000 in
set_option maxRecDepth 100000 in
theorem c_X10_coinLine {l : Launch} {σ : aw_S} {Post : Option Value → aw_S → Prop} {tw cs : Bool} (hR : σ.2.2 = RF tw cs) {B : Int → Int} {nn : Int} (hT : txM σ B nn) (wT : wfTx B nn) {d : mS} {q : Int} (hG : drM σ B d) (wG : wfDr B nn d) (hq : 0 ≤ q ∧ q ≤ nn) (hC : tkM σ B nn q) (hk0 : ∀ σ', frTxM σ σ' → coP B nn d (ts B nn q) (te B nn q) = .inl (σ'.1 171 4) → Post (some (.int (jI 0))) σ') (hk1 : ∀ σ' p' d', frTxM σ σ' → coP B nn d (ts B nn q) (te B nn q) = .inr (p', d') → drM σ' B d' → tkM σ' B nn p' → Post (some (.int (jI 1))) σ')  : AE l yX10_coinLine cX10_coinLine 1 (some .boolean) 3 63 0 0 SH SH σ [.ref 171] Post := by
  show AW l yX10_coinLine cX10_coinLine 1 (some .boolean) 3 63 0 0 SH Post SH 0 0 σ 0 [some (.ref 171)] []
  obtain ⟨⟨g1, g2⟩, ⟨g3, g4⟩, g5, g6, g7, g8⟩ := id hG
  obtain ⟨w1, w2, w3, w4, w5, w6, w7, w8, w9, w10, w11⟩ := id wG
  have u1 := wT.1
  have b0 := tok_b (B := B) hq
  have c1 := tok_b (B := B) (n := nn) (q := te B nn q) (by omega)
  have c2 := tok_b (B := B) (n := nn) (q := te B nn (te B nn q)) (by omega)
  have c3 := tok_b (B := B) (n := nn) (q := te B nn (te B nn (te B nn q))) (by omega)
  have c4 := tok_b (B := B) (n := nn) (q := te B nn (te B nn (te B nn (te B nn q)))) (by omega)
  have c5 := tok_b (B := B) (n := nn) (q := te B nn (te B nn (te B nn (te B nn (te B nn q))))) (by omega)
  have hc13 : σ.1 171 13 = (if d 0 12 = 1 then d 0 2 else -1) := by
    split
    · exact g7.2 (by omega)
    · exact g7.1 (by omega)
  refine a_ald0 eX10_coinLine_0 ?_
  refine a_getI 13 eX10_coinLine_1 fl_X10_211 rfl rfl sh_171 ?_
  refine a_eqtop (y0 := (if d 0 12 = 1 then d 0 2 else -1)) (by exact hc13) ?_
  refine a_iconst eX10_coinLine_4 ?_
  refine a_icmp_eq 10 eX10_coinLine_5 (by decide) (by split <;> omega) (fun hT5 => ?_) (fun hF5 => ?_)
  · skip
    have hd12 : d 0 12 = 0 := by split at hT5 <;> omega
    refine a_ald0 eX10_coinLine_10 ?_
    refine a_cV0 eX10_coinLine_11 lk_X10_195 mV_X10_leads sh_171 ⟨_, rfl, rfl⟩ mt_X10_leads rfl rfl rfl rfl (c_X10_leads hR hT wT (q := te B nn q) (by omega) hC.1 (fun σ1 f1 hC1 => ?_))
    dsimp only [Option.toList, List.cons_append, List.nil_append]
    have hR1 : σ1.2.2 = RF tw cs := by rw [f1.2.2]; exact hR
    have hR := hR1
    have hT1 := txM_K f1 hT
    refine a_ald0 eX10_coinLine_14 ?_
    refine a_iconst eX10_coinLine_15 ?_
    refine a_bipush eX10_coinLine_16 (by decide) ?_
    refine a_cV2 eX10_coinLine_18 lk_X10_201 mV_X10_number sh_171 ⟨_, rfl, rfl⟩ mt_X10_number rfl rfl rfl rfl rfl rfl (c_X10_number hR hT1 wT (q := te B nn q) (by omega) hC1 (by omega) (fun σ2 f2 hC2 v2 hT18 => ?_) (fun hF18 => ?_))
    · skip
      dsimp only [Option.toList, List.cons_append, List.nil_append]
      refine a_if_ne 26 eX10_coinLine_21 (by decide) (by omega) (fun _ => ?_) (fun h => absurd h (by decide))
      have hR2 : σ2.2.2 = RF tw cs := by rw [f2.2.2]; exact hR
      have hR := hR2
      have f12 := frNM_tr (frNM_K f1) f2
      refine a_ald0 eX10_coinLine_26 ?_
      refine a_ald0 eX10_coinLine_27 ?_
      refine a_getI 44 eX10_coinLine_28 fl_X10_192 rfl rfl sh_171 ?_
      refine a_eqtop (y0 := nv B nn (te B nn q)) (by exact v2) ?_
      refine a_putI 13 eX10_coinLine_31 fl_X10_211 rfl rfl sh_171 (fun q h => Or.inl (by cases h; rfl)) ?_
      refine AW.ex (fun s => ((∀ (b : Nat) (j : Int), ¬ (b = 171 ∧ ((2 ≤ j ∧ j ≤ 4) ∨ j = 44)) → ¬ (b = 171 ∧ j = 13) → s.1 b j = σ.1 b j) ∧ (∀ (b : Nat) (j : Int), ¬ (b = 171 ∧ j = 5) → s.2.1 b j = σ.2.1 b j) ∧ s.2.2 = σ.2.2) ∧ tkM s B nn (te B nn (te B nn q)) ∧ s.1 171 13 = nv B nn (te B nn q)) ⟨⟨fun b j z1 z2 => by rw [rd_si, if_neg (by omega)]; exact f12.1 b j z1, f12.2.1, f12.2.2⟩, ⟨by rw [rd_si_ni (by omega)]; exact hC2.1, by rw [rd_si_ni (by omega)]; exact hC2.2.1, by rw [rd_si_ni (by omega)]; exact hC2.2.2.1, hC2.2.2.2.1, hC2.2.2.2.2⟩, rd_si_eq⟩ (fun σ3 h3 => ?_)
      obtain ⟨⟨fo, fl, fr⟩, hC3, v3⟩ := h3
      have fT3 : frTxM σ σ3 := ⟨fun b j z1 z2 => fo b j (by omega) (by omega), fun b j z1 z2 => fl b j z1, fr⟩
      have hR3 : σ3.2.2 = RF tw cs := by rw [fr, ← f12.2.2]; exact hR2
      have hR := hR3
      have hT3 := txM_T fT3 hT
      refine a_ald0 eX10_coinLine_34 ?_
      refine a_cV0 eX10_coinLine_35 lk_X10_205 mV_X10_closes sh_171 ⟨_, rfl, rfl⟩ mt_X10_closes rfl rfl rfl rfl (c_X10_closes hR hT3 wT (q := te B nn (te B nn q)) (by omega) hC3 (fun σ4 f4 hC4 hT35 => ?_) (fun hF35 => ?_))
      · skip
        dsimp only [Option.toList, List.cons_append, List.nil_append]
        refine a_zret eX10_coinLine_38 rfl (by first | exact Or.inl rfl | exact Or.inr rfl | omega) rfl ⟨Nat.zero_le _, Nat.zero_le _⟩ ?_
        refine hk1 σ4 _ (coD B nn d (te B nn q)) (frTxM_tr fT3 (frNM_T (frNM_K f4))) ?_ (drM_co hG (fun b j z1 z2 => (f4.1 b j (by omega)).trans (fo b j z1 z2)) (fun j => (f4.2.1 _ _ (by omega)).trans (fl _ _ (by omega))) (by rw [f4.1 _ _ (by omega)]; exact v3)) hC4
        unfold coP
        rw [cif_n (by omega), cif_n (fun z => z hT18), cif_n (fun z => z hT35)]
      · skip
        dsimp only [Option.toList, List.cons_append, List.nil_append]
        refine a_zret eX10_coinLine_38 rfl (by first | exact Or.inl rfl | exact Or.inr rfl | omega) rfl ⟨Nat.zero_le _, Nat.zero_le _⟩ ?_
        refine hk0 σ3 fT3 ?_
        unfold coP
        rw [cif_n (by omega), cif_n (fun z => z hT18), cif_y hF35, hC3.2.1]
    · skip
      dsimp only [Option.toList, List.cons_append, List.nil_append]
      refine a_if_ne 26 eX10_coinLine_21 (by decide) (by omega) (fun h => absurd h (by decide)) (fun _ => ?_)
      refine a_iconst eX10_coinLine_24 ?_
      refine a_zret eX10_coinLine_25 rfl (by first | exact Or.inl rfl | exact Or.inr rfl | omega) rfl ⟨Nat.zero_le _, Nat.zero_le _⟩ ?_
      refine hk0 σ1 (frNM_T (frNM_K f1)) ?_
      unfold coP
      rw [cif_n (by omega), cif_y hF18, hC1.2.1]
  · skip
    refine a_iconst eX10_coinLine_8 ?_
    refine a_zret eX10_coinLine_9 rfl (by first | exact Or.inl rfl | exact Or.inr rfl | omega) rfl ⟨Nat.zero_le _, Nat.zero_le _⟩ ?_
    refine hk0 σ (frTxM_rf σ) ?_
    unfold coP
    rw [cif_y (by split at hF5 <;> omega), hC.2.1]
