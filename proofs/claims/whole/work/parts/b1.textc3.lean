/-! ===== the statements, the class ===== -/
theorem AW.ex {l : Launch} {y : MethodName} {cc : ByteArray} {nL : Nat} {ret : Option FieldType} {F Lo mc ms : Nat} {she : aw_Sh} {Post : Option Value → aw_S → Prop} {sh : aw_Sh} {k n : Nat} {σ : aw_S} {pc : Nat} {ls : List (Option Value)} {st : List Value} (Pr : aw_S → Prop) (h : Pr σ) (kk : ∀ σ', Pr σ' → AW l y cc nL ret F Lo mc ms she Post sh k n σ' pc ls st) : AW l y cc nL ret F Lo mc ms she Post sh k n σ pc ls st := kk σ h
theorem lst_i {Q : Int → Prop} : ∀ k : Nat, (∃ r : Int, (0 ≤ r ∧ r < (k : Int)) ∧ Q r) → ∃ r : Int, ((0 ≤ r ∧ r < (k : Int)) ∧ Q r) ∧ ∀ s : Int, 0 ≤ s → s < r → ¬ Q s
  | 0, ⟨r, h, _⟩ => absurd h (by omega)
  | k + 1, ⟨r, h, hq⟩ => by
    by_cases c : ∃ s : Int, (0 ≤ s ∧ s < (k : Int)) ∧ Q s
    · obtain ⟨s, s1, s2⟩ := lst_i k c
      exact ⟨s, ⟨by omega, s1.2⟩, s2⟩
    · exact ⟨r, ⟨h, hq⟩, fun s s1 s2 z => c ⟨s, by omega, z⟩⟩
theorem rnk_nn {B : Int → Int} {n : Int} {d : mS} {q : Int} (h : rnk B n d q = -1) (h0 : 0 ≤ d 0 0) : ¬ named B n d q := by
  intro z
  obtain ⟨r, r1, r2⟩ := lst_i (Q := isnmd B n d q) (d 0 0).toNat (by
    obtain ⟨r, r1, r2⟩ := z
    exact ⟨r, by omega, r2⟩)
  have := rnk_y (B := B) (n := n) (d := d) (q := q) (r := r) ⟨⟨by omega, r1.2⟩, r2⟩
  omega
/-- all that a text's reading may change -/
def frTx (a : Nat) (σ σ' : aw_S) : Prop := (∀ (b : Nat) (j : Int), ¬ (b = 1 ∧ (5 ≤ j ∧ j ≤ 11)) → b ≠ 11 → b ≠ 12 → ¬ (a ≤ b ∧ b ≤ a + 7) → σ'.1 b j = σ.1 b j) ∧ σ'.2 = σ.2
theorem frTx_rf (a : Nat) (σ : aw_S) : frTx a σ σ := ⟨fun _ _ _ _ _ _ => rfl, rfl⟩
theorem frTx_tr {a : Nat} {σ σ1 σ2 : aw_S} (h : frTx a σ σ1) (h2 : frTx a σ1 σ2) : frTx a σ σ2 := ⟨fun b j q1 q2 q3 q4 => (h2.1 b j q1 q2 q3 q4).trans (h.1 b j q1 q2 q3 q4), h2.2.trans h.2⟩
theorem frTx_K {a : Nat} {σ σ' : aw_S} (h : frK σ σ') : frTx a σ σ' := ⟨fun b j q1 _ _ _ => h.1 b j (by omega), h.2⟩
theorem txC_T {a : Nat} (ha : isCity a) {σ σ' : aw_S} {B : Int → Int} {n : Int} (h : frTx a σ σ') (hT : txC σ B n) : txC σ' B n := by
  have h3 : 3 ≤ a := by rcases ha with rfl | rfl <;> omega
  exact ⟨(h.1 1 1 (by omega) (by omega) (by omega) (by omega)).trans hT.1, fun i i1 i2 => (h.1 2 i (by omega) (by omega) (by omega) (by omega)).trans (hT.2 i i1 i2)⟩
/-- while a RANK is told: at the place R alone, and the TOKEN -/
def frRk (a : Nat) (R : Int) (σ σ' : aw_S) : Prop := (∀ (b : Nat) (j : Int), ¬ (b = 1 ∧ (8 ≤ j ∧ j ≤ 11)) → ¬ (j = R ∧ (b = a + 1 ∨ b = a + 2 ∨ b = a + 3 ∨ b = 11 ∨ b = 12)) → σ'.1 b j = σ.1 b j) ∧ σ'.2 = σ.2
theorem frRk_T {a : Nat} {R : Int} {σ σ' : aw_S} (h : frRk a R σ σ') : frTx a σ σ' := ⟨fun b j q1 q2 q3 q4 => h.1 b j (by omega) (by omega), h.2⟩
theorem frRk_K {a : Nat} {R : Int} {σ σ1 σ2 : aw_S} (h : frRk a R σ σ1) (h2 : frK σ1 σ2) : frRk a R σ σ2 := ⟨fun b j q1 q2 => (h2.1 b j q1).trans (h.1 b j q1 q2), h2.2.trans h.2⟩
theorem frRk_s {a c : Nat} {R v : Int} {σ σ1 : aw_S} (hc : c = a + 1 ∨ c = a + 2 ∨ c = a + 3 ∨ c = 11 ∨ c = 12) (h : frRk a R σ σ1) : frRk a R σ (aw_si σ1 c R v) := ⟨fun b j q1 q2 => by rw [rd_si, if_neg (fun z => q2 ⟨z.2, by rw [z.1]; exact hc⟩)]; exact h.1 b j q1 q2, h.2⟩
theorem drC_R {a : Nat} (ha : isCity a) {σ σ' : aw_S} {d : mS} (h : frRk a (d 0 0) σ σ') (hG : drC σ a d) : drC σ' a d := by
  obtain ⟨⟨g1, g2⟩, ⟨g3, g4⟩, g5, g6, g7, g8, g9, g10⟩ := hG
  have h3 : 3 ≤ a := by rcases ha with rfl | rfl <;> omega
  have h13 : a = 3 ∨ a = 13 := ha
  refine ⟨⟨?_, fun r r1 r2 => ?_⟩, ⟨?_, fun k k1 k2 => ?_⟩, fun r r1 r2 => ?_, fun z => ?_, ?_, ?_, ?_, fun r r1 r2 => ?_⟩
  · rw [h.1 a 0 (by omega) (by omega)]; exact g1
  · rw [h.1 (a + 1) r (by omega) (by omega), h.1 (a + 2) r (by omega) (by omega), h.1 (a + 3) r (by omega) (by omega)]; exact g2 r r1 r2
  · rw [h.1 a 4 (by omega) (by omega)]; exact g3
  · rw [h.1 (a + 5) k (by omega) (by omega), h.1 (a + 6) k (by omega) (by omega), h.1 (a + 7) k (by omega) (by omega)]; exact g4 k k1 k2
  · rw [h.1 (a + 4) r (by omega) (by omega)]; exact g5 r r1 r2
  · rw [h.1 a 9 (by omega) (by omega), h.1 a 10 (by omega) (by omega), h.1 a 11 (by omega) (by omega), h.1 a 12 (by omega) (by omega)]; exact g6 z
  · rw [h.1 a 13 (by omega) (by omega), h.1 a 14 (by omega) (by omega)]; exact g7
  · rw [h.1 a 15 (by omega) (by omega)]; exact g8
  · rw [h.1 1 5 (by omega) (by omega), h.1 1 6 (by omega) (by omega), h.1 1 7 (by omega) (by omega)]; exact g9
  · rw [h.1 11 r (by omega) (by omega), h.1 12 r (by omega) (by omega)]; exact g10 r r1 r2
theorem drC_rk {a : Nat} (ha : isCity a) {σ σ' : aw_S} {B : Int → Int} {n : Int} {d : mS} {p : Int} (hG : drC σ a d)
    (hf : ∀ (b : Nat) (j : Int), ¬ (b = 1 ∧ (8 ≤ j ∧ j ≤ 11)) → ¬ (j = d 0 0 ∧ (b = a + 1 ∨ b = a + 2 ∨ b = a + 3 ∨ b = 11 ∨ b = 12)) → ¬ (b = a ∧ j = 0) → σ'.1 b j = σ.1 b j)
    (v0 : σ'.1 a 0 = d 0 0 + 1) (v1 : σ'.1 (a + 1) (d 0 0) = nv B n (te B n p)) (v2 : σ'.1 (a + 2) (d 0 0) = nv B n (te B n (te B n p))) (v3 : σ'.1 (a + 3) (d 0 0) = nv B n (te B n (te B n (te B n p)))) (v11 : σ'.1 11 (d 0 0) = ts B n p) (v12 : σ'.1 12 (d 0 0) = te B n p - ts B n p) : drC σ' a (rkD B n d p) := by
  obtain ⟨⟨g1, g2⟩, ⟨g3, g4⟩, g5, g6, g7, g8, g9, g10⟩ := hG
  have h13 : a = 3 ∨ a = 13 := ha
  have o : ∀ b j : Int, ¬ (b = 0 ∧ j = 0) → ¬ (j = d 0 0 ∧ (b = 1 ∨ b = 2 ∨ b = 3 ∨ b = 20 ∨ b = 21)) → rkD B n d p b j = d b j := fun b j z1 z2 => by
    unfold rkD
    rw [up_ne (by omega), up_ne (by omega), up_ne (by omega), up_ne (by omega), up_ne (by omega), up_ne (by omega)]
  have e0 : rkD B n d p 0 0 = d 0 0 + 1 := up_eq
  have e3 : rkD B n d p 3 (d 0 0) = nv B n (te B n (te B n (te B n p))) := by unfold rkD; rw [up_ne (by omega), up_eq]
  have e2 : rkD B n d p 2 (d 0 0) = nv B n (te B n (te B n p)) := by unfold rkD; rw [up_ne (by omega), up_ne (by omega), up_eq]
  have e1 : rkD B n d p 1 (d 0 0) = nv B n (te B n p) := by unfold rkD; rw [up_ne (by omega), up_ne (by omega), up_ne (by omega), up_eq]
  have e21 : rkD B n d p 21 (d 0 0) = te B n p - ts B n p := by unfold rkD; rw [up_ne (by omega), up_ne (by omega), up_ne (by omega), up_ne (by omega), up_eq]
  have e20 : rkD B n d p 20 (d 0 0) = ts B n p := by unfold rkD; rw [up_ne (by omega), up_ne (by omega), up_ne (by omega), up_ne (by omega), up_ne (by omega), up_eq]
  refine ⟨⟨?_, fun r r1 r2 => ?_⟩, ⟨?_, fun k k1 k2 => ?_⟩, fun r r1 r2 => ?_, fun z => ?_, ?_, ?_, ?_, fun r r1 r2 => ?_⟩
  · rw [v0, e0]
  · rw [e0] at r2
    by_cases q : r = d 0 0
    · rw [q, v1, v2, v3, e1, e2, e3]; exact ⟨rfl, rfl, rfl⟩
    · rw [hf (a + 1) r (by omega) (by omega) (by omega), hf (a + 2) r (by omega) (by omega) (by omega), hf (a + 3) r (by omega) (by omega) (by omega), o 1 r (by omega) (by omega), o 2 r (by omega) (by omega), o 3 r (by omega) (by omega)]
      exact g2 r r1 (by omega)
  · rw [hf a 4 (by omega) (by omega) (by omega), o 0 1 (by omega) (by omega)]; exact g3
  · rw [o 0 1 (by omega) (by omega)] at k2
    rw [hf (a + 5) k (by omega) (by omega) (by omega), hf (a + 6) k (by omega) (by omega) (by omega), hf (a + 7) k (by omega) (by omega) (by omega), o 5 k (by omega) (by omega), o 6 k (by omega) (by omega), o 7 k (by omega) (by omega)]
    exact g4 k k1 k2
  · rw [hf (a + 4) r (by omega) (by omega) (by omega)]
    have := g5 r r1 r2
    refine ⟨this.1, aw_mb (fun k => ?_)⟩
    rw [o 0 1 (by omega) (by omega), o 4 (k : Int) (by omega) (by omega)]
    exact aw_ub this.2 k
  · rw [o 0 10 (by omega) (by omega)] at z
    rw [hf a 9 (by omega) (by omega) (by omega), hf a 10 (by omega) (by omega) (by omega), hf a 11 (by omega) (by omega) (by omega), hf a 12 (by omega) (by omega) (by omega), o 8 0 (by omega) (by omega), o 8 1 (by omega) (by omega), o 8 2 (by omega) (by omega), o 8 3 (by omega) (by omega)]
    exact g6 z
  · rw [hf a 13 (by omega) (by omega) (by omega), hf a 14 (by omega) (by omega) (by omega), o 9 0 (by omega) (by omega), o 9 1 (by omega) (by omega)]; exact g7
  · rw [hf a 15 (by omega) (by omega) (by omega), o 0 2 (by omega) (by omega)]; exact g8
  · rw [hf 1 5 (by omega) (by omega) (by omega), hf 1 6 (by omega) (by omega) (by omega), hf 1 7 (by omega) (by omega) (by omega), o 0 10 (by omega) (by omega), o 0 11 (by omega) (by omega), o 0 12 (by omega) (by omega)]; exact g9
  · rw [e0] at r2
    by_cases q : r = d 0 0
    · rw [q, v11, v12, e20, e21]; exact ⟨rfl, rfl⟩
    · rw [hf 11 r (by omega) (by omega) (by omega), hf 12 r (by omega) (by omega) (by omega), o 20 r (by omega) (by omega), o 21 r (by omega) (by omega)]
      exact g10 r r1 (by omega)
set_option maxHeartbeats 4000000 in
set_option maxRecDepth 100000 in
theorem c_X4_readRank {l : Launch} {σ : aw_S} {Post : Option Value → aw_S → Prop} {tw cs : Bool} (hR : σ.2.2 = RF tw cs) {a : Nat} (ha : isCity a) (hrd : RF tw cs 1 2 = some a) {B : Int → Int} {nn : Int} (hT : txC σ B nn) (wT : wfTx B nn) {d : mS} {q : Int} (hG : drC σ a d) (wG : wfDr B nn d) (hq : 0 ≤ q ∧ q ≤ nn) (hC : tkC σ B nn q) (hk0 : ∀ σ', frTx a σ σ' → rkP B nn d (ts B nn q) (te B nn q) = .inl (σ'.1 1 9) → Post (some (.int (jI 0))) σ') (hk1 : ∀ σ' d', frTx a σ σ' → rkP B nn d (ts B nn q) (te B nn q) = .inr (σ'.1 1 8, d') → drC σ' a d' → Post (some (.int (jI 1))) σ')  : AE l yX4_readRank cX4_readRank 2 (some .boolean) 7 148 0 0 SH SH σ [.ref 1] Post := by
  show AW l yX4_readRank cX4_readRank 2 (some .boolean) 7 148 0 0 SH Post SH 0 0 σ 0 [some (.ref 1), none] []
  obtain ⟨⟨g1, g2⟩, ⟨g3, g4⟩, g5, g6, g7, g8, g9, g10⟩ := id hG
  obtain ⟨w1, w2, w3, w4, w5, w6, w7, w8, w9, w10, w11⟩ := id wG
  have ha2 : a ≤ 13 := by rcases ha with rfl | rfl <;> omega
  have ha3 : 3 ≤ a := by rcases ha with rfl | rfl <;> omega
  have h13 : a = 3 ∨ a = 13 := ha
  have u1 := wT.1
  have b0 := tok_b (B := B) hq
  have c1 := tok_b (B := B) (n := nn) (q := te B nn q) (by omega)
  have c2 := tok_b (B := B) (n := nn) (q := te B nn (te B nn q)) (by omega)
  have c3 := tok_b (B := B) (n := nn) (q := te B nn (te B nn (te B nn q))) (by omega)
  have c4 := tok_b (B := B) (n := nn) (q := te B nn (te B nn (te B nn (te B nn q)))) (by omega)
  have c5 := tok_b (B := B) (n := nn) (q := te B nn (te B nn (te B nn (te B nn (te B nn q))))) (by omega)
  refine a_ald0 eX4_readRank_0 ?_
  refine a_getR 2 a eX4_readRank_1 fl_X4_18 rfl rfl sh_1 ((congrFun (congrFun hR _) _).trans hrd) ?_
  refine a_getI 0 eX4_readRank_4 fl_X4_55 rfl rfl (sh_city ha) ?_
  refine a_eqtop (y0 := d 0 0) (by exact g1) ?_
  refine a_ist1 eX4_readRank_7 (by decide) aw_n2r ?_
  refine a_ild1 eX4_readRank_8 ?_
  refine a_bipush eX4_readRank_9 (by decide) ?_
  refine a_icmp_lt 16 eX4_readRank_11 (by decide) (by omega) (fun hT11 => ?_) (fun hF11 => ?_)
  · skip
    refine a_ald0 eX4_readRank_16 ?_
    refine a_cV0 eX4_readRank_17 lk_X4_49 mV_X4_readToken sh_1 ⟨_, rfl, rfl⟩ mt_X4_readToken rfl rfl rfl rfl (c_X4_readToken hR hT wT (q := te B nn q) (by omega) hC.1 (fun σ1 f1 hC1 => ?_))
    dsimp only [Option.toList, List.cons_append, List.nil_append]
    have hR1 : σ1.2.2 = RF tw cs := by rw [f1.2]; exact hR
    have hR := hR1
    have hT1 := txC_K f1 hT
    have fR1 : frRk a (d 0 0) σ σ1 := frRk_K ⟨fun _ _ _ _ => rfl, rfl⟩ f1
    have hG1 := drC_R ha fR1 hG
    refine a_ald0 eX4_readRank_20 ?_
    refine a_cV0 eX4_readRank_21 lk_X4_98 mV_X4_isName sh_1 ⟨_, rfl, rfl⟩ mt_X4_isName rfl rfl rfl rfl (c_X4_isName hR hT1 wT (q := te B nn q) (by omega) hC1 (fun hT21 => ?_) (fun hF21 => ?_))
    · skip
      dsimp only [Option.toList, List.cons_append, List.nil_append]
      refine a_if_eq 35 eX4_readRank_24 (by decide) (by omega) (fun h => absurd h (by decide)) (fun _ => ?_)
      refine a_ald0 eX4_readRank_27 ?_
      refine a_cV0 eX4_readRank_28 lk_X4_101 mV_X4_rankNamed sh_1 ⟨_, rfl, rfl⟩ mt_X4_rankNamed rfl rfl rfl rfl (c_X4_rankNamed hR ha hrd hT1 wT hG1 wG (q := te B nn q) (by omega) hC1 ?_)
      dsimp only [Option.toList, List.cons_append, List.nil_append]
      have hrb := rnk_b (B := B) (n := nn) (d := d) (q := te B nn q)
      refine a_iconst eX4_readRank_31 ?_
      refine a_icmp_eq 37 eX4_readRank_32 (by decide) (by omega) (fun hT32 => ?_) (fun hF32 => ?_)
      · skip
        have hnn := rnk_nn (B := B) (n := nn) (d := d) (q := te B nn q) (by omega) (by omega)
        refine a_ald0 eX4_readRank_37 ?_
        refine a_getR 3 11 eX4_readRank_38 fl_X4_22 rfl rfl sh_1 ((congrFun (congrFun hR _) _).trans rf_1_3) ?_
        refine a_ild1 eX4_readRank_41 ?_
        refine a_ald0 eX4_readRank_42 ?_
        refine a_getI 9 eX4_readRank_43 fl_X4_62 rfl rfl sh_1 ?_
        refine a_eqtop (y0 := ts B nn (te B nn q)) (by exact hC1.2.1) ?_
        refine a_iast eX4_readRank_46 sh_11 rfl (by omega) ?_
        refine a_ald0 eX4_readRank_47 ?_
        refine a_getR 4 12 eX4_readRank_48 fl_X4_26 rfl rfl sh_1 ((congrFun (congrFun hR _) _).trans rf_1_4) ?_
        refine a_ild1 eX4_readRank_51 ?_
        refine a_ald0 eX4_readRank_52 ?_
        refine a_getI 8 eX4_readRank_53 fl_X4_46 rfl rfl sh_1 ?_
        refine a_eqtop (y0 := te B nn (te B nn q)) (by rw [rd_si_ne (by omega)]; exact hC1.1) ?_
        refine a_ald0 eX4_readRank_56 ?_
        refine a_getI 9 eX4_readRank_57 fl_X4_62 rfl rfl sh_1 ?_
        refine a_eqtop (y0 := ts B nn (te B nn q)) (by rw [rd_si_ne (by omega)]; exact hC1.2.1) ?_
        refine a_isub eX4_readRank_60 ?_
        refine a_iast eX4_readRank_61 sh_12 rfl (by omega) ?_
        refine AW.ex (fun s => (frRk a (d 0 0) σ s ∧ s.1 1 8 = te B nn (te B nn q)) ∧ (s.1 11 (d 0 0) = ts B nn (te B nn q) ∧ s.1 12 (d 0 0) = te B nn (te B nn q) - ts B nn (te B nn q))) ⟨⟨frRk_s (by omega) (frRk_s (by omega) fR1), by rw [rd_si_ne (by omega), rd_si_ne (by omega)]; exact hC1.1⟩, by rw [rd_si_ne (by omega), rd_si_eq], rd_si_eq⟩ (fun σ2 h2 => ?_)
        obtain ⟨⟨fR2, h28⟩, v11, v12⟩ := h2
        have hR2 : σ2.2.2 = RF tw cs := by rw [fR2.2, ← f1.2]; exact hR1
        have hR := hR2
        have hT2 := txC_T ha (frRk_T fR2) hT
        refine a_ald0 eX4_readRank_62 ?_
        refine a_iconst eX4_readRank_63 ?_
        refine a_bipush eX4_readRank_64 (by decide) ?_
        refine a_cV2 eX4_readRank_66 lk_X4_105 mV_X4_readNumberWithin sh_1 ⟨_, rfl, rfl⟩ mt_X4_readNumberWithin rfl rfl rfl rfl rfl rfl (c_X4_readNumberWithin hR hT2 wT (q := te B nn (te B nn q)) (by omega) h28 (by omega) (fun σ3 f3 hC3 v3 hT66 => ?_) (fun σ3 f3 hC3 hF66 => ?_))
        · skip
          dsimp only [Option.toList, List.cons_append, List.nil_append]
          have hR3 : σ3.2.2 = RF tw cs := by rw [f3.2]; exact hR
          have hR := hR3
          have fR3 := frRk_K fR2 f3
          refine a_if_eq 83 eX4_readRank_69 (by decide) (by omega) (fun h => absurd h (by decide)) (fun _ => ?_)
          have hT3 := txC_T ha (frRk_T fR3) hT
          have hG3 := drC_R ha fR3 hG
          have hn1 := id hT66
          unfold isnum at hn1
          refine a_ald0 eX4_readRank_72 ?_
          refine a_ald0 eX4_readRank_73 ?_
          refine a_getI 11 eX4_readRank_74 fl_X4_109 rfl rfl sh_1 ?_
          refine a_eqtop (y0 := nv B nn (te B nn (te B nn q))) (by exact v3) ?_
          refine a_cV1 eX4_readRank_77 lk_X4_112 mV_X4_placeTold sh_1 ⟨_, rfl, rfl⟩ mt_X4_placeTold rfl rfl rfl rfl rfl (c_X4_placeTold hR ha hrd hG3 wG (by omega) (fun hT77 => ?_) (fun hF77 => ?_))
          · skip
            dsimp only [Option.toList, List.cons_append, List.nil_append]
            refine a_if_eq 85 eX4_readRank_80 (by decide) (by omega) (fun h => absurd h (by decide)) (fun _ => ?_)
            refine a_iconst eX4_readRank_83 ?_
            refine a_zret eX4_readRank_84 rfl (by first | exact Or.inl rfl | exact Or.inr rfl | omega) rfl ⟨Nat.zero_le _, Nat.zero_le _⟩ ?_
            first
              | (refine hk0 σ3 (frRk_T fR3) ?_
                 unfold rkP
                 rw [cif_n (by omega), cif_n (fun z => z ⟨hT21, hnn⟩), cif_y (fun z => hF66 z.1), hC3.2.1])
              | (refine hk0 σ3 (frRk_T fR3) ?_
                 unfold rkP
                 rw [cif_n (by omega), cif_n (fun z => z ⟨hT21, hnn⟩), cif_y (fun z => z.2 hT77), hC3.2.1])
          · skip
            dsimp only [Option.toList, List.cons_append, List.nil_append]
            refine a_if_eq 85 eX4_readRank_80 (by decide) (by omega) (fun _ => ?_) (fun h => absurd h (by decide))
            refine a_ald0 eX4_readRank_85 ?_
            refine a_getR 2 a eX4_readRank_86 fl_X4_18 rfl rfl sh_1 ((congrFun (congrFun hR _) _).trans hrd) ?_
            refine a_getR 1 (a + 1) eX4_readRank_89 fl_X4_116 rfl rfl (sh_city ha) ((congrFun (congrFun hR _) _).trans (rf_city_1 ha)) ?_
            refine a_ild1 eX4_readRank_92 ?_
            refine a_ald0 eX4_readRank_93 ?_
            refine a_getI 11 eX4_readRank_94 fl_X4_109 rfl rfl sh_1 ?_
            refine a_eqtop (y0 := nv B nn (te B nn (te B nn q))) (by exact v3) ?_
            refine a_iast eX4_readRank_97 (sh_city_1 ha) rfl (by omega) ?_
            refine AW.ex (fun s => (frRk a (d 0 0) σ s ∧ s.1 1 8 = te B nn (te B nn (te B nn q))) ∧ (s.1 11 (d 0 0) = ts B nn (te B nn q) ∧ s.1 12 (d 0 0) = te B nn (te B nn q) - ts B nn (te B nn q)) ∧ s.1 (a + 1) (d 0 0) = nv B nn (te B nn (te B nn q))) ⟨⟨frRk_s (by omega) fR3, by rw [rd_si_ne (by omega)]; exact hC3.1⟩, ⟨by rw [rd_si_ne (by omega), f3.1 _ _ (by omega)]; exact v11, by rw [rd_si_ne (by omega), f3.1 _ _ (by omega)]; exact v12⟩, rd_si_eq⟩ (fun σ4 h4 => ?_)
            obtain ⟨⟨fR4, h48⟩, ⟨v11, v12⟩, v1⟩ := h4
            have hR4 : σ4.2.2 = RF tw cs := by rw [fR4.2, ← f1.2]; exact hR1
            have hR := hR4
            have hT4 := txC_T ha (frRk_T fR4) hT
            refine a_ald0 eX4_readRank_98 ?_
            refine a_iconst eX4_readRank_99 ?_
            refine a_bipush eX4_readRank_100 (by decide) ?_
            refine a_cV2 eX4_readRank_102 lk_X4_105 mV_X4_readNumberWithin sh_1 ⟨_, rfl, rfl⟩ mt_X4_readNumberWithin rfl rfl rfl rfl rfl rfl (c_X4_readNumberWithin hR hT4 wT (q := te B nn (te B nn (te B nn q))) (by omega) h48 (by omega) (fun σ5 f5 hC5 v5 hT102 => ?_) (fun σ5 f5 hC5 hF102 => ?_))
            · skip
              dsimp only [Option.toList, List.cons_append, List.nil_append]
              have hR5 : σ5.2.2 = RF tw cs := by rw [f5.2]; exact hR
              have hR := hR5
              have fR5 := frRk_K fR4 f5
              refine a_if_ne 110 eX4_readRank_105 (by decide) (by omega) (fun _ => ?_) (fun h => absurd h (by decide))
              refine a_ald0 eX4_readRank_110 ?_
              refine a_getR 2 a eX4_readRank_111 fl_X4_18 rfl rfl sh_1 ((congrFun (congrFun hR _) _).trans hrd) ?_
              refine a_getR 2 (a + 2) eX4_readRank_114 fl_X4_119 rfl rfl (sh_city ha) ((congrFun (congrFun hR _) _).trans (rf_city_2 ha)) ?_
              refine a_ild1 eX4_readRank_117 ?_
              refine a_ald0 eX4_readRank_118 ?_
              refine a_getI 11 eX4_readRank_119 fl_X4_109 rfl rfl sh_1 ?_
              refine a_eqtop (y0 := nv B nn (te B nn (te B nn (te B nn q)))) (by exact v5) ?_
              refine a_iast eX4_readRank_122 (sh_city_2 ha) rfl (by omega) ?_
              refine AW.ex (fun s => (frRk a (d 0 0) σ s ∧ s.1 1 8 = te B nn (te B nn (te B nn (te B nn q)))) ∧ (s.1 11 (d 0 0) = ts B nn (te B nn q) ∧ s.1 12 (d 0 0) = te B nn (te B nn q) - ts B nn (te B nn q)) ∧ s.1 (a + 1) (d 0 0) = nv B nn (te B nn (te B nn q)) ∧ s.1 (a + 2) (d 0 0) = nv B nn (te B nn (te B nn (te B nn q)))) ⟨⟨frRk_s (by omega) fR5, by rw [rd_si_ne (by omega)]; exact hC5.1⟩, ⟨by rw [rd_si_ne (by omega), f5.1 _ _ (by omega)]; exact v11, by rw [rd_si_ne (by omega), f5.1 _ _ (by omega)]; exact v12⟩, by rw [rd_si_ne (by omega), f5.1 _ _ (by omega)]; exact v1, rd_si_eq⟩ (fun σ6 h6 => ?_)
              obtain ⟨⟨fR6, h68⟩, ⟨v11, v12⟩, v1, v2⟩ := h6
              have hR6 : σ6.2.2 = RF tw cs := by rw [fR6.2, ← f1.2]; exact hR1
              have hR := hR6
              have hT6 := txC_T ha (frRk_T fR6) hT
              refine a_ald0 eX4_readRank_123 ?_
              refine a_iconst eX4_readRank_124 ?_
              refine a_bipush eX4_readRank_125 (by decide) ?_
              refine a_cV2 eX4_readRank_127 lk_X4_105 mV_X4_readNumberWithin sh_1 ⟨_, rfl, rfl⟩ mt_X4_readNumberWithin rfl rfl rfl rfl rfl rfl (c_X4_readNumberWithin hR hT6 wT (q := te B nn (te B nn (te B nn (te B nn q)))) (by omega) h68 (by omega) (fun σ7 f7 hC7 v7 hT127 => ?_) (fun σ7 f7 hC7 hF127 => ?_))
              · skip
                dsimp only [Option.toList, List.cons_append, List.nil_append]
                have hR7 : σ7.2.2 = RF tw cs := by rw [f7.2]; exact hR
                have hR := hR7
                have fR7 := frRk_K fR6 f7
                refine a_if_ne 135 eX4_readRank_130 (by decide) (by omega) (fun _ => ?_) (fun h => absurd h (by decide))
                refine a_ald0 eX4_readRank_135 ?_
                refine a_getR 2 a eX4_readRank_136 fl_X4_18 rfl rfl sh_1 ((congrFun (congrFun hR _) _).trans hrd) ?_
                refine a_getR 3 (a + 3) eX4_readRank_139 fl_X4_122 rfl rfl (sh_city ha) ((congrFun (congrFun hR _) _).trans (rf_city_3 ha)) ?_
                refine a_ild1 eX4_readRank_142 ?_
                refine a_ald0 eX4_readRank_143 ?_
                refine a_getI 11 eX4_readRank_144 fl_X4_109 rfl rfl sh_1 ?_
                refine a_eqtop (y0 := nv B nn (te B nn (te B nn (te B nn (te B nn q))))) (by exact v7) ?_
                refine a_iast eX4_readRank_147 (sh_city_3 ha) rfl (by omega) ?_
                refine a_ald0 eX4_readRank_148 ?_
                refine a_getR 2 a eX4_readRank_149 fl_X4_18 rfl rfl sh_1 ((congrFun (congrFun hR _) _).trans hrd) ?_
                refine a_dup eX4_readRank_152 rfl ?_
                refine a_getI 0 eX4_readRank_153 fl_X4_55 rfl rfl (sh_city ha) ?_
                refine a_eqtop (y0 := d 0 0) (by rw [rd_si_ne (by omega)]; exact (drC_R ha fR7 hG).1.1) ?_
                refine a_iconst eX4_readRank_156 ?_
                refine a_iadd eX4_readRank_157 ?_
                refine a_putI 0 eX4_readRank_158 fl_X4_55 rfl rfl (sh_city ha) (fun q h => Or.inl (by cases h; rfl)) ?_
                refine AW.ex (fun s => ((∀ (b : Nat) (j : Int), ¬ (b = 1 ∧ (8 ≤ j ∧ j ≤ 11)) → ¬ (j = d 0 0 ∧ (b = a + 1 ∨ b = a + 2 ∨ b = a + 3 ∨ b = 11 ∨ b = 12)) → ¬ (b = a ∧ j = 0) → s.1 b j = σ.1 b j) ∧ s.2 = σ.2) ∧ s.1 1 8 = te B nn (te B nn (te B nn (te B nn (te B nn q)))) ∧ (s.1 11 (d 0 0) = ts B nn (te B nn q) ∧ s.1 12 (d 0 0) = te B nn (te B nn q) - ts B nn (te B nn q)) ∧ (s.1 (a + 1) (d 0 0) = nv B nn (te B nn (te B nn q)) ∧ s.1 (a + 2) (d 0 0) = nv B nn (te B nn (te B nn (te B nn q))) ∧ s.1 (a + 3) (d 0 0) = nv B nn (te B nn (te B nn (te B nn (te B nn q))))) ∧ s.1 a 0 = d 0 0 + 1) ⟨⟨fun b j z1 z2 z3 => ?_, fR7.2⟩, ?_, ⟨?_, ?_⟩, ⟨?_, ?_, ?_⟩, rd_si_eq⟩ (fun σ8 h8 => ?_)
                · rw [rd_si, if_neg (by omega), rd_si, if_neg (by omega)]; exact fR7.1 b j z1 z2
                · rw [rd_si_ne (by omega), rd_si_ne (by omega)]; exact hC7.1
                · rw [rd_si_ne (by omega), rd_si_ne (by omega), f7.1 _ _ (by omega)]; exact v11
                · rw [rd_si_ne (by omega), rd_si_ne (by omega), f7.1 _ _ (by omega)]; exact v12
                · rw [rd_si_ne (by omega), rd_si_ne (by omega), f7.1 _ _ (by omega)]; exact v1
                · rw [rd_si_ne (by omega), rd_si_ne (by omega), f7.1 _ _ (by omega)]; exact v2
                · rw [rd_si_ne (by omega), rd_si_eq]
                obtain ⟨⟨fo8, fz8⟩, h88, ⟨v11, v12⟩, ⟨v1, v2, v3'⟩, v0⟩ := h8
                have fT8 : frTx a σ σ8 := ⟨fun b j z1 z2 z3 z4 => fo8 b j (by omega) (by omega) (by omega), fz8⟩
                have hR8 : σ8.2.2 = RF tw cs := by rw [fz8, ← f1.2]; exact hR1
                have hR := hR8
                have hT8 := txC_T ha fT8 hT
                refine a_ald0 eX4_readRank_161 ?_
                refine a_cV0 eX4_readRank_162 lk_X4_125 mV_X4_readStop sh_1 ⟨_, rfl, rfl⟩ mt_X4_readStop rfl rfl rfl rfl (c_X4_readStop hR hT8 wT (q := te B nn (te B nn (te B nn (te B nn (te B nn q))))) (by omega) h88 (fun σ9 f9 hC9 hT162 => ?_) (fun σ9 f9 hC9 hF162 => ?_))
                · skip
                  dsimp only [Option.toList, List.cons_append, List.nil_append]
                  refine a_zret eX4_readRank_165 rfl (by first | exact Or.inl rfl | exact Or.inr rfl | omega) rfl ⟨Nat.zero_le _, Nat.zero_le _⟩ ?_
                  refine hk1 σ9 (rkD B nn d (te B nn q)) (frTx_tr fT8 (frTx_K f9)) ?_ (drC_rk ha hG (fun b j z1 z2 z3 => (f9.1 b j z1).trans (fo8 b j z1 z2 z3)) ?_ ?_ ?_ ?_ ?_ ?_)
                  · unfold rkP
                    rw [cif_n (by omega), cif_n (fun z => z ⟨hT21, hnn⟩), cif_n (fun z => z ⟨hT66, hF77⟩), cif_n (fun z => z hT102), cif_n (fun z => z hT127), cif_n (fun z => z hT162), hC9.1]
                  · rw [f9.1 _ _ (by omega)]; exact v0
                  · rw [f9.1 _ _ (by omega)]; exact v1
                  · rw [f9.1 _ _ (by omega)]; exact v2
                  · rw [f9.1 _ _ (by omega)]; exact v3'
                  · rw [f9.1 _ _ (by omega)]; exact v11
                  · rw [f9.1 _ _ (by omega)]; exact v12
                · skip
                  dsimp only [Option.toList, List.cons_append, List.nil_append]
                  refine a_zret eX4_readRank_165 rfl (by first | exact Or.inl rfl | exact Or.inr rfl | omega) rfl ⟨Nat.zero_le _, Nat.zero_le _⟩ ?_
                  refine hk0 σ9 (frTx_tr fT8 (frTx_K f9)) ?_
                  unfold rkP
                  rw [cif_n (by omega), cif_n (fun z => z ⟨hT21, hnn⟩), cif_n (fun z => z ⟨hT66, hF77⟩), cif_n (fun z => z hT102), cif_n (fun z => z hT127), cif_y hF162, hC9.2.1]
              · skip
                dsimp only [Option.toList, List.cons_append, List.nil_append]
                have hR7 : σ7.2.2 = RF tw cs := by rw [f7.2]; exact hR
                have hR := hR7
                have fR7 := frRk_K fR6 f7
                refine a_if_ne 135 eX4_readRank_130 (by decide) (by omega) (fun h => absurd h (by decide)) (fun _ => ?_)
                refine a_iconst eX4_readRank_133 ?_
                refine a_zret eX4_readRank_134 rfl (by first | exact Or.inl rfl | exact Or.inr rfl | omega) rfl ⟨Nat.zero_le _, Nat.zero_le _⟩ ?_
                refine hk0 σ7 (frRk_T fR7) ?_
                unfold rkP
                rw [cif_n (by omega), cif_n (fun z => z ⟨hT21, hnn⟩), cif_n (fun z => z ⟨hT66, hF77⟩), cif_n (fun z => z hT102), cif_y hF127, hC7.2.1]
            · skip
              dsimp only [Option.toList, List.cons_append, List.nil_append]
              have hR5 : σ5.2.2 = RF tw cs := by rw [f5.2]; exact hR
              have hR := hR5
              have fR5 := frRk_K fR4 f5
              refine a_if_ne 110 eX4_readRank_105 (by decide) (by omega) (fun h => absurd h (by decide)) (fun _ => ?_)
              refine a_iconst eX4_readRank_108 ?_
              refine a_zret eX4_readRank_109 rfl (by first | exact Or.inl rfl | exact Or.inr rfl | omega) rfl ⟨Nat.zero_le _, Nat.zero_le _⟩ ?_
              refine hk0 σ5 (frRk_T fR5) ?_
              unfold rkP
              rw [cif_n (by omega), cif_n (fun z => z ⟨hT21, hnn⟩), cif_n (fun z => z ⟨hT66, hF77⟩), cif_y hF102, hC5.2.1]
        · skip
          dsimp only [Option.toList, List.cons_append, List.nil_append]
          have hR3 : σ3.2.2 = RF tw cs := by rw [f3.2]; exact hR
          have hR := hR3
          have fR3 := frRk_K fR2 f3
          refine a_if_eq 83 eX4_readRank_69 (by decide) (by omega) (fun _ => ?_) (fun h => absurd h (by decide))
          refine a_iconst eX4_readRank_83 ?_
          refine a_zret eX4_readRank_84 rfl (by first | exact Or.inl rfl | exact Or.inr rfl | omega) rfl ⟨Nat.zero_le _, Nat.zero_le _⟩ ?_
          first
            | (refine hk0 σ3 (frRk_T fR3) ?_
               unfold rkP
               rw [cif_n (by omega), cif_n (fun z => z ⟨hT21, hnn⟩), cif_y (fun z => hF66 z.1), hC3.2.1])
            | (refine hk0 σ3 (frRk_T fR3) ?_
               unfold rkP
               rw [cif_n (by omega), cif_n (fun z => z ⟨hT21, hnn⟩), cif_y (fun z => z.2 hT77), hC3.2.1])
      · skip
        refine a_iconst eX4_readRank_35 ?_
        refine a_zret eX4_readRank_36 rfl (by first | exact Or.inl rfl | exact Or.inr rfl | omega) rfl ⟨Nat.zero_le _, Nat.zero_le _⟩ ?_
        have hnmd : named B nn d (te B nn q) := by
          rcases rnk_s (B := B) (n := nn) (d := d) (q := te B nn q) with ⟨z, -⟩ | z
          · omega
          · exact ⟨_, z.1⟩
        refine hk0 σ1 (frTx_K f1) ?_
        unfold rkP
        rw [cif_n (by omega), cif_y (fun z => z.2 hnmd), hC1.2.1]
    · skip
      dsimp only [Option.toList, List.cons_append, List.nil_append]
      refine a_if_eq 35 eX4_readRank_24 (by decide) (by omega) (fun _ => ?_) (fun h => absurd h (by decide))
      refine a_iconst eX4_readRank_35 ?_
      refine a_zret eX4_readRank_36 rfl (by first | exact Or.inl rfl | exact Or.inr rfl | omega) rfl ⟨Nat.zero_le _, Nat.zero_le _⟩ ?_
      refine hk0 σ1 (frTx_K f1) ?_
      unfold rkP
      rw [cif_n (by omega), cif_y (fun z => hF21 z.1), hC1.2.1]
  · skip
    refine a_iconst eX4_readRank_14 ?_
    refine a_zret eX4_readRank_15 rfl (by first | exact Or.inl rfl | exact Or.inr rfl | omega) rfl ⟨Nat.zero_le _, Nat.zero_le _⟩ ?_
    refine hk0 σ (frTx_rf a σ) ?_
    unfold rkP
    rw [cif_y (by omega), hC.2.1]

theorem drC_coD {a : Nat} (ha : isCity a) {σ σ' : aw_S} {B : Int → Int} {n : Int} {d : mS} {p : Int} (hG : drC σ a d) (hf : ∀ (b : Nat) (j : Int), ¬ (b = 1 ∧ (8 ≤ j ∧ j ≤ 11)) → ¬ (b = 1 ∧ j = 7) → ¬ (b = a ∧ (j = 15)) → σ'.1 b j = σ.1 b j) (vf : σ'.1 1 7 = 1) (v0 : σ'.1 a 15 = nv B n (p)) : drC σ' a (coD B n d p) := by
  obtain ⟨⟨g1, g2⟩, ⟨g3, g4⟩, g5, g6, g7, g8, g9, g10⟩ := hG
  have h13 : a = 3 ∨ a = 13 := ha
  have o : ∀ b j : Int, ¬ (b = 0 ∧ j = 12) → ¬ (b = 0 ∧ j = 2) → coD B n d p b j = d b j := fun b j z1 z2 => by
    unfold coD
    rw [up_ne (by omega), up_ne (by omega)]
  have eF : coD B n d p 0 12 = 1 := up_eq
  have e0 : coD B n d p 0 2 = nv B n (p) := by unfold coD; rw [up_ne (by omega), up_eq]
  refine ⟨⟨?_, fun r r1 r2 => ?_⟩, ⟨?_, fun k k1 k2 => ?_⟩, fun r r1 r2 => ?_, fun z => ?_, ⟨?_, ?_⟩, ?_, ⟨?_, ?_, ?_⟩, fun r r1 r2 => ?_⟩
  · rw [hf a 0 (by omega) (by omega) (by omega), o 0 0 (by omega) (by omega)]; exact g1
  · rw [o 0 0 (by omega) (by omega)] at r2
    rw [hf (a + 1) r (by omega) (by omega) (by omega), hf (a + 2) r (by omega) (by omega) (by omega), hf (a + 3) r (by omega) (by omega) (by omega), o 1 r (by omega) (by omega), o 2 r (by omega) (by omega), o 3 r (by omega) (by omega)]; exact g2 r r1 r2
  · rw [hf a 4 (by omega) (by omega) (by omega), o 0 1 (by omega) (by omega)]; exact g3
  · rw [o 0 1 (by omega) (by omega)] at k2
    rw [hf (a + 5) k (by omega) (by omega) (by omega), hf (a + 6) k (by omega) (by omega) (by omega), hf (a + 7) k (by omega) (by omega) (by omega), o 5 k (by omega) (by omega), o 6 k (by omega) (by omega), o 7 k (by omega) (by omega)]; exact g4 k k1 k2
  · rw [hf (a + 4) r (by omega) (by omega) (by omega)]
    have := g5 r r1 r2
    refine ⟨this.1, aw_mb (fun k => ?_)⟩
    rw [o 0 1 (by omega) (by omega), o 4 (k : Int) (by omega) (by omega)]
    exact aw_ub this.2 k
  · rw [o 0 10 (by omega) (by omega)] at z
    rw [hf a 9 (by omega) (by omega) (by omega), hf a 10 (by omega) (by omega) (by omega), hf a 11 (by omega) (by omega) (by omega), hf a 12 (by omega) (by omega) (by omega), o 8 0 (by omega) (by omega), o 8 1 (by omega) (by omega), o 8 2 (by omega) (by omega), o 8 3 (by omega) (by omega)]; exact g6 z
  · rw [hf a 13 (by omega) (by omega) (by omega), o 9 0 (by omega) (by omega)]; exact g7.1
  · rw [hf a 14 (by omega) (by omega) (by omega), o 9 1 (by omega) (by omega)]; exact g7.2
  · rw [v0, e0]
  · rw [hf 1 5 (by omega) (by omega) (by omega), o 0 10 (by omega) (by omega)]; exact g9.1
  · rw [hf 1 6 (by omega) (by omega) (by omega), o 0 11 (by omega) (by omega)]; exact g9.2.1
  · rw [vf, eF]
  · rw [o 0 0 (by omega) (by omega)] at r2
    rw [hf 11 r (by omega) (by omega) (by omega), hf 12 r (by omega) (by omega) (by omega), o 20 r (by omega) (by omega), o 21 r (by omega) (by omega)]; exact g10 r r1 r2
set_option maxHeartbeats 4000000 in
set_option maxRecDepth 100000 in
theorem c_X4_readCoin {l : Launch} {σ : aw_S} {Post : Option Value → aw_S → Prop} {tw cs : Bool} (hR : σ.2.2 = RF tw cs) {a : Nat} (ha : isCity a) (hrd : RF tw cs 1 2 = some a) {B : Int → Int} {nn : Int} (hT : txC σ B nn) (wT : wfTx B nn) {d : mS} {q : Int} (hG : drC σ a d) (wG : wfDr B nn d) (hq : 0 ≤ q ∧ q ≤ nn) (hC : tkC σ B nn q) (hk0 : ∀ σ', frTx a σ σ' → coP B nn d (ts B nn q) (te B nn q) = .inl (σ'.1 1 9) → Post (some (.int (jI 0))) σ') (hk1 : ∀ σ' d', frTx a σ σ' → coP B nn d (ts B nn q) (te B nn q) = .inr (σ'.1 1 8, d') → drC σ' a d' → Post (some (.int (jI 1))) σ')  : AE l yX4_readCoin cX4_readCoin 1 (some .boolean) 3 63 0 0 SH SH σ [.ref 1] Post := by
  show AW l yX4_readCoin cX4_readCoin 1 (some .boolean) 3 63 0 0 SH Post SH 0 0 σ 0 [some (.ref 1)] []
  obtain ⟨⟨g1, g2⟩, ⟨g3, g4⟩, g5, g6, g7, g8, g9, g10⟩ := id hG
  obtain ⟨w1, w2, w3, w4, w5, w6, w7, w8, w9, w10, w11⟩ := id wG
  have ha2 : a ≤ 13 := by rcases ha with rfl | rfl <;> omega
  have ha3 : 3 ≤ a := by rcases ha with rfl | rfl <;> omega
  have h13 : a = 3 ∨ a = 13 := ha
  have u1 := wT.1
  have b0 := tok_b (B := B) hq
  have c1 := tok_b (B := B) (n := nn) (q := te B nn q) (by omega)
  have c2 := tok_b (B := B) (n := nn) (q := te B nn (te B nn q)) (by omega)
  have c3 := tok_b (B := B) (n := nn) (q := te B nn (te B nn (te B nn q))) (by omega)
  have c4 := tok_b (B := B) (n := nn) (q := te B nn (te B nn (te B nn (te B nn q)))) (by omega)
  have c5 := tok_b (B := B) (n := nn) (q := te B nn (te B nn (te B nn (te B nn (te B nn q))))) (by omega)
  refine a_ald0 eX4_readCoin_0 ?_
  refine a_getI 7 eX4_readCoin_1 fl_X4_43 rfl rfl sh_1 ?_
  refine a_eqtop (y0 := d 0 12) (by exact g9.2.2) ?_
  refine a_if_ne 17 eX4_readCoin_4 (by decide) (by omega) (fun hT4 => ?_) (fun hF4 => ?_)
  · skip
    refine a_iconst eX4_readCoin_17 ?_
    refine a_zret eX4_readCoin_18 rfl (by first | exact Or.inl rfl | exact Or.inr rfl | omega) rfl ⟨Nat.zero_le _, Nat.zero_le _⟩ ?_
    refine hk0 σ (frTx_rf a σ) ?_
    unfold coP
    rw [cif_y (by omega), hC.2.1]
  · skip
    refine a_ald0 eX4_readCoin_7 ?_
    refine a_iconst eX4_readCoin_8 ?_
    refine a_bipush eX4_readCoin_9 (by decide) ?_
    refine a_cV2 eX4_readCoin_11 lk_X4_105 mV_X4_readNumberWithin sh_1 ⟨_, rfl, rfl⟩ mt_X4_readNumberWithin rfl rfl rfl rfl rfl rfl (c_X4_readNumberWithin hR hT wT (q := te B nn q) (by omega) hC.1 (by omega) (fun σ1 f1 hC1 v1 hT11 => ?_) (fun σ1 f1 hC1 hF11 => ?_))
    · skip
      dsimp only [Option.toList, List.cons_append, List.nil_append]
      have hR1 : σ1.2.2 = RF tw cs := by rw [f1.2]; exact hR
      have hR := hR1
      have fT1 : frTx a σ σ1 := frTx_K f1
      refine a_if_ne 19 eX4_readCoin_14 (by decide) (by omega) (fun _ => ?_) (fun h => absurd h (by decide))
      refine a_ald0 eX4_readCoin_19 ?_
      refine a_iconst eX4_readCoin_20 ?_
      refine a_putZ 7 eX4_readCoin_21 fl_X4_43 rfl rfl (by first | exact Or.inl rfl | exact Or.inr rfl | omega) sh_1 (fun q h => Or.inl (by cases h; rfl)) ?_
      refine a_ald0 eX4_readCoin_24 ?_
      refine a_getR 2 a eX4_readCoin_25 fl_X4_18 rfl rfl sh_1 ((congrFun (congrFun hR _) _).trans hrd) ?_
      refine a_ald0 eX4_readCoin_28 ?_
      refine a_getI 11 eX4_readCoin_29 fl_X4_109 rfl rfl sh_1 ?_
      refine a_eqtop (y0 := nv B nn (te B nn q)) (by rw [rd_si_ni (by omega)]; exact v1) ?_
      refine a_putI 15 eX4_readCoin_32 fl_X4_161 rfl rfl (sh_city ha) (fun q h => Or.inl (by cases h; rfl)) ?_
      refine AW.ex (fun s => ((∀ (b : Nat) (j : Int), ¬ (b = 1 ∧ (8 ≤ j ∧ j ≤ 11)) → ¬ (b = 1 ∧ j = 7) → ¬ (b = a ∧ (j = 15)) → s.1 b j = σ.1 b j) ∧ s.2 = σ.2) ∧ s.1 1 8 = te B nn (te B nn q) ∧ s.1 1 7 = 1 ∧ s.1 a 15 = nv B nn (te B nn q)) ⟨⟨fun b j z1 z2 z3 => by rw [rd_si, if_neg (by omega), rd_si, if_neg (by omega)]; exact f1.1 b j (by omega), f1.2⟩, by rw [rd_si_ne (by omega), rd_si_ni (by omega)]; exact hC1.1, by rw [rd_si_ne (by omega), rd_si_eq], rd_si_eq⟩ (fun σ2 h2 => ?_)
      obtain ⟨⟨fo, fz⟩, h28, vf, vv0⟩ := h2
      have fT2 : frTx a σ σ2 := ⟨fun b j z1 z2 z3 z4 => fo b j (by omega) (by omega) (by omega), fz⟩
      have hR2 : σ2.2.2 = RF tw cs := by rw [fz, ← f1.2]; exact hR1
      have hR := hR2
      have hT2 := txC_T ha fT2 hT
      refine a_ald0 eX4_readCoin_35 ?_
      refine a_cV0 eX4_readCoin_36 lk_X4_125 mV_X4_readStop sh_1 ⟨_, rfl, rfl⟩ mt_X4_readStop rfl rfl rfl rfl (c_X4_readStop hR hT2 wT (q := te B nn (te B nn q)) (by omega) h28 (fun σ9 f9 hC9 hT36 => ?_) (fun σ9 f9 hC9 hF36 => ?_))
      · skip
        dsimp only [Option.toList, List.cons_append, List.nil_append]
        refine a_zret eX4_readCoin_39 rfl (by first | exact Or.inl rfl | exact Or.inr rfl | omega) rfl ⟨Nat.zero_le _, Nat.zero_le _⟩ ?_
        refine hk1 σ9 (coD B nn d (te B nn q)) (frTx_tr fT2 (frTx_K f9)) ?_ (drC_coD ha hG (fun b j z1 z2 z3 => (f9.1 b j z1).trans (fo b j z1 z2 (by omega))) (by rw [f9.1 _ _ (by omega)]; exact vf) (by rw [f9.1 _ _ (by omega)]; exact vv0))
        unfold coP
        rw [cif_n (by omega), cif_n (fun z => z hT11), cif_n (fun z => z hT36), hC9.1]
      · skip
        dsimp only [Option.toList, List.cons_append, List.nil_append]
        refine a_zret eX4_readCoin_39 rfl (by first | exact Or.inl rfl | exact Or.inr rfl | omega) rfl ⟨Nat.zero_le _, Nat.zero_le _⟩ ?_
        refine hk0 σ9 (frTx_tr fT2 (frTx_K f9)) ?_
        unfold coP
        rw [cif_n (by omega), cif_n (fun z => z hT11), cif_y hF36, hC9.2.1]
    · skip
      dsimp only [Option.toList, List.cons_append, List.nil_append]
      have hR1 : σ1.2.2 = RF tw cs := by rw [f1.2]; exact hR
      have hR := hR1
      have fT1 : frTx a σ σ1 := frTx_K f1
      refine a_if_ne 19 eX4_readCoin_14 (by decide) (by omega) (fun h => absurd h (by decide)) (fun _ => ?_)
      refine a_iconst eX4_readCoin_17 ?_
      refine a_zret eX4_readCoin_18 rfl (by first | exact Or.inl rfl | exact Or.inr rfl | omega) rfl ⟨Nat.zero_le _, Nat.zero_le _⟩ ?_
      refine hk0 σ1 fT1 ?_
      unfold coP
      rw [cif_n (by omega), cif_y hF11, hC1.2.1]

theorem drC_shD {a : Nat} (ha : isCity a) {σ σ' : aw_S} {B : Int → Int} {n : Int} {d : mS} {p : Int} (hG : drC σ a d) (hf : ∀ (b : Nat) (j : Int), ¬ (b = 1 ∧ (8 ≤ j ∧ j ≤ 11)) → ¬ (b = 1 ∧ j = 6) → ¬ (b = a ∧ (j = 13 ∨ j = 14)) → σ'.1 b j = σ.1 b j) (vf : σ'.1 1 6 = 1) (v0 : σ'.1 a 13 = nv B n (p)) (v1 : σ'.1 a 14 = nv B n (te B n p)) : drC σ' a (shD B n d p) := by
  obtain ⟨⟨g1, g2⟩, ⟨g3, g4⟩, g5, g6, g7, g8, g9, g10⟩ := hG
  have h13 : a = 3 ∨ a = 13 := ha
  have o : ∀ b j : Int, ¬ (b = 0 ∧ j = 11) → ¬ (b = 9 ∧ j = 0 ∨ b = 9 ∧ j = 1) → shD B n d p b j = d b j := fun b j z1 z2 => by
    unfold shD
    rw [up_ne (by omega), up_ne (by omega), up_ne (by omega)]
  have eF : shD B n d p 0 11 = 1 := up_eq
  have e0 : shD B n d p 9 0 = nv B n (p) := by unfold shD; rw [up_ne (by omega), up_ne (by omega), up_eq]
  have e1 : shD B n d p 9 1 = nv B n (te B n p) := by unfold shD; rw [up_ne (by omega), up_eq]
  refine ⟨⟨?_, fun r r1 r2 => ?_⟩, ⟨?_, fun k k1 k2 => ?_⟩, fun r r1 r2 => ?_, fun z => ?_, ⟨?_, ?_⟩, ?_, ⟨?_, ?_, ?_⟩, fun r r1 r2 => ?_⟩
  · rw [hf a 0 (by omega) (by omega) (by omega), o 0 0 (by omega) (by omega)]; exact g1
  · rw [o 0 0 (by omega) (by omega)] at r2
    rw [hf (a + 1) r (by omega) (by omega) (by omega), hf (a + 2) r (by omega) (by omega) (by omega), hf (a + 3) r (by omega) (by omega) (by omega), o 1 r (by omega) (by omega), o 2 r (by omega) (by omega), o 3 r (by omega) (by omega)]; exact g2 r r1 r2
  · rw [hf a 4 (by omega) (by omega) (by omega), o 0 1 (by omega) (by omega)]; exact g3
  · rw [o 0 1 (by omega) (by omega)] at k2
    rw [hf (a + 5) k (by omega) (by omega) (by omega), hf (a + 6) k (by omega) (by omega) (by omega), hf (a + 7) k (by omega) (by omega) (by omega), o 5 k (by omega) (by omega), o 6 k (by omega) (by omega), o 7 k (by omega) (by omega)]; exact g4 k k1 k2
  · rw [hf (a + 4) r (by omega) (by omega) (by omega)]
    have := g5 r r1 r2
    refine ⟨this.1, aw_mb (fun k => ?_)⟩
    rw [o 0 1 (by omega) (by omega), o 4 (k : Int) (by omega) (by omega)]
    exact aw_ub this.2 k
  · rw [o 0 10 (by omega) (by omega)] at z
    rw [hf a 9 (by omega) (by omega) (by omega), hf a 10 (by omega) (by omega) (by omega), hf a 11 (by omega) (by omega) (by omega), hf a 12 (by omega) (by omega) (by omega), o 8 0 (by omega) (by omega), o 8 1 (by omega) (by omega), o 8 2 (by omega) (by omega), o 8 3 (by omega) (by omega)]; exact g6 z
  · rw [v0, e0]
  · rw [v1, e1]
  · rw [hf a 15 (by omega) (by omega) (by omega), o 0 2 (by omega) (by omega)]; exact g8
  · rw [hf 1 5 (by omega) (by omega) (by omega), o 0 10 (by omega) (by omega)]; exact g9.1
  · rw [vf, eF]
  · rw [hf 1 7 (by omega) (by omega) (by omega), o 0 12 (by omega) (by omega)]; exact g9.2.2
  · rw [o 0 0 (by omega) (by omega)] at r2
    rw [hf 11 r (by omega) (by omega) (by omega), hf 12 r (by omega) (by omega) (by omega), o 20 r (by omega) (by omega), o 21 r (by omega) (by omega)]; exact g10 r r1 r2
set_option maxHeartbeats 4000000 in
set_option maxRecDepth 100000 in
theorem c_X4_readShort {l : Launch} {σ : aw_S} {Post : Option Value → aw_S → Prop} {tw cs : Bool} (hR : σ.2.2 = RF tw cs) {a : Nat} (ha : isCity a) (hrd : RF tw cs 1 2 = some a) {B : Int → Int} {nn : Int} (hT : txC σ B nn) (wT : wfTx B nn) {d : mS} {q : Int} (hG : drC σ a d) (wG : wfDr B nn d) (hq : 0 ≤ q ∧ q ≤ nn) (hC : tkC σ B nn q) (hk0 : ∀ σ', frTx a σ σ' → shP B nn d (ts B nn q) (te B nn q) = .inl (σ'.1 1 9) → Post (some (.int (jI 0))) σ') (hk1 : ∀ σ' d', frTx a σ σ' → shP B nn d (ts B nn q) (te B nn q) = .inr (σ'.1 1 8, d') → drC σ' a d' → Post (some (.int (jI 1))) σ')  : AE l yX4_readShort cX4_readShort 1 (some .boolean) 3 63 0 0 SH SH σ [.ref 1] Post := by
  show AW l yX4_readShort cX4_readShort 1 (some .boolean) 3 63 0 0 SH Post SH 0 0 σ 0 [some (.ref 1)] []
  obtain ⟨⟨g1, g2⟩, ⟨g3, g4⟩, g5, g6, g7, g8, g9, g10⟩ := id hG
  obtain ⟨w1, w2, w3, w4, w5, w6, w7, w8, w9, w10, w11⟩ := id wG
  have ha2 : a ≤ 13 := by rcases ha with rfl | rfl <;> omega
  have ha3 : 3 ≤ a := by rcases ha with rfl | rfl <;> omega
  have h13 : a = 3 ∨ a = 13 := ha
  have u1 := wT.1
  have b0 := tok_b (B := B) hq
  have c1 := tok_b (B := B) (n := nn) (q := te B nn q) (by omega)
  have c2 := tok_b (B := B) (n := nn) (q := te B nn (te B nn q)) (by omega)
  have c3 := tok_b (B := B) (n := nn) (q := te B nn (te B nn (te B nn q))) (by omega)
  have c4 := tok_b (B := B) (n := nn) (q := te B nn (te B nn (te B nn (te B nn q)))) (by omega)
  have c5 := tok_b (B := B) (n := nn) (q := te B nn (te B nn (te B nn (te B nn (te B nn q))))) (by omega)
  refine a_ald0 eX4_readShort_0 ?_
  refine a_getI 6 eX4_readShort_1 fl_X4_40 rfl rfl sh_1 ?_
  refine a_eqtop (y0 := d 0 11) (by exact g9.2.1) ?_
  refine a_if_ne 17 eX4_readShort_4 (by decide) (by omega) (fun hT4 => ?_) (fun hF4 => ?_)
  · skip
    refine a_iconst eX4_readShort_17 ?_
    refine a_zret eX4_readShort_18 rfl (by first | exact Or.inl rfl | exact Or.inr rfl | omega) rfl ⟨Nat.zero_le _, Nat.zero_le _⟩ ?_
    refine hk0 σ (frTx_rf a σ) ?_
    unfold shP
    rw [cif_y (by omega), hC.2.1]
  · skip
    refine a_ald0 eX4_readShort_7 ?_
    refine a_iconst eX4_readShort_8 ?_
    refine a_bipush eX4_readShort_9 (by decide) ?_
    refine a_cV2 eX4_readShort_11 lk_X4_105 mV_X4_readNumberWithin sh_1 ⟨_, rfl, rfl⟩ mt_X4_readNumberWithin rfl rfl rfl rfl rfl rfl (c_X4_readNumberWithin hR hT wT (q := te B nn q) (by omega) hC.1 (by omega) (fun σ1 f1 hC1 v1 hT11 => ?_) (fun σ1 f1 hC1 hF11 => ?_))
    · skip
      dsimp only [Option.toList, List.cons_append, List.nil_append]
      have hR1 : σ1.2.2 = RF tw cs := by rw [f1.2]; exact hR
      have hR := hR1
      have fT1 : frTx a σ σ1 := frTx_K f1
      refine a_if_ne 19 eX4_readShort_14 (by decide) (by omega) (fun _ => ?_) (fun h => absurd h (by decide))
      refine a_ald0 eX4_readShort_19 ?_
      refine a_iconst eX4_readShort_20 ?_
      refine a_putZ 6 eX4_readShort_21 fl_X4_40 rfl rfl (by first | exact Or.inl rfl | exact Or.inr rfl | omega) sh_1 (fun q h => Or.inl (by cases h; rfl)) ?_
      refine a_ald0 eX4_readShort_24 ?_
      refine a_getR 2 a eX4_readShort_25 fl_X4_18 rfl rfl sh_1 ((congrFun (congrFun hR _) _).trans hrd) ?_
      refine a_ald0 eX4_readShort_28 ?_
      refine a_getI 11 eX4_readShort_29 fl_X4_109 rfl rfl sh_1 ?_
      refine a_eqtop (y0 := nv B nn (te B nn q)) (by rw [rd_si_ni (by omega)]; exact v1) ?_
      refine a_putI 13 eX4_readShort_32 fl_X4_155 rfl rfl (sh_city ha) (fun q h => Or.inl (by cases h; rfl)) ?_
      refine AW.ex (fun s => ((∀ (b : Nat) (j : Int), ¬ (b = 1 ∧ (8 ≤ j ∧ j ≤ 11)) → ¬ (b = 1 ∧ j = 6) → ¬ (b = a ∧ (j = 13)) → s.1 b j = σ.1 b j) ∧ s.2 = σ.2) ∧ s.1 1 8 = te B nn (te B nn q) ∧ s.1 1 6 = 1 ∧ s.1 a 13 = nv B nn (te B nn q)) ⟨⟨fun b j z1 z2 z3 => by rw [rd_si, if_neg (by omega), rd_si, if_neg (by omega)]; exact f1.1 b j (by omega), f1.2⟩, by rw [rd_si_ne (by omega), rd_si_ni (by omega)]; exact hC1.1, by rw [rd_si_ne (by omega), rd_si_eq], rd_si_eq⟩ (fun σ2 h2 => ?_)
      obtain ⟨⟨fo, fz⟩, h28, vf, vv0⟩ := h2
      have fT2 : frTx a σ σ2 := ⟨fun b j z1 z2 z3 z4 => fo b j (by omega) (by omega) (by omega), fz⟩
      have hR2 : σ2.2.2 = RF tw cs := by rw [fz, ← f1.2]; exact hR1
      have hR := hR2
      have hT2 := txC_T ha fT2 hT
      refine a_ald0 eX4_readShort_35 ?_
      refine a_iconst eX4_readShort_36 ?_
      refine a_sipush eX4_readShort_37 (by decide) ?_
      refine a_cV2 eX4_readShort_40 lk_X4_105 mV_X4_readNumberWithin sh_1 ⟨_, rfl, rfl⟩ mt_X4_readNumberWithin rfl rfl rfl rfl rfl rfl (c_X4_readNumberWithin hR hT2 wT (q := te B nn (te B nn q)) (by omega) h28 (by omega) (fun σ3 f3 hC3 v3 hT40 => ?_) (fun σ3 f3 hC3 hF40 => ?_))
      · skip
        dsimp only [Option.toList, List.cons_append, List.nil_append]
        have hR3 : σ3.2.2 = RF tw cs := by rw [f3.2]; exact hR
        have hR := hR3
        have fT3 : frTx a σ σ3 := frTx_tr fT2 (frTx_K f3)
        refine a_if_ne 48 eX4_readShort_43 (by decide) (by omega) (fun _ => ?_) (fun h => absurd h (by decide))
        refine a_ald0 eX4_readShort_48 ?_
        refine a_getR 2 a eX4_readShort_49 fl_X4_18 rfl rfl sh_1 ((congrFun (congrFun hR _) _).trans hrd) ?_
        refine a_ald0 eX4_readShort_52 ?_
        refine a_getI 11 eX4_readShort_53 fl_X4_109 rfl rfl sh_1 ?_
        refine a_eqtop (y0 := nv B nn (te B nn (te B nn q))) (by exact v3) ?_
        refine a_putI 14 eX4_readShort_56 fl_X4_158 rfl rfl (sh_city ha) (fun q h => Or.inl (by cases h; rfl)) ?_
        refine AW.ex (fun s => ((∀ (b : Nat) (j : Int), ¬ (b = 1 ∧ (8 ≤ j ∧ j ≤ 11)) → ¬ (b = 1 ∧ j = 6) → ¬ (b = a ∧ (j = 13 ∨ j = 14)) → s.1 b j = σ.1 b j) ∧ s.2 = σ.2) ∧ s.1 1 8 = te B nn (te B nn (te B nn q)) ∧ s.1 1 6 = 1 ∧ s.1 a 13 = nv B nn (te B nn q) ∧ s.1 a 14 = nv B nn (te B nn (te B nn q))) ⟨⟨fun b j z1 z2 z3 => by rw [rd_si, if_neg (by omega), f3.1 b j (by omega)]; exact fo b j z1 z2 (by omega), f3.2.trans fz⟩, by rw [rd_si_ne (by omega)]; exact hC3.1, by rw [rd_si_ne (by omega), f3.1 _ _ (by omega)]; exact vf, by rw [rd_si_ni (by omega), f3.1 _ _ (by omega)]; exact vv0, rd_si_eq⟩ (fun σ4 h4 => ?_)
        obtain ⟨⟨fo, fz⟩, h48, vf, vv0, vv1⟩ := h4
        have fT4 : frTx a σ σ4 := ⟨fun b j z1 z2 z3 z4 => fo b j (by omega) (by omega) (by omega), fz⟩
        have hR4 : σ4.2.2 = RF tw cs := by rw [fz, ← f1.2]; exact hR1
        have hR := hR4
        have hT4 := txC_T ha fT4 hT
        refine a_ald0 eX4_readShort_59 ?_
        refine a_cV0 eX4_readShort_60 lk_X4_125 mV_X4_readStop sh_1 ⟨_, rfl, rfl⟩ mt_X4_readStop rfl rfl rfl rfl (c_X4_readStop hR hT4 wT (q := te B nn (te B nn (te B nn q))) (by omega) h48 (fun σ9 f9 hC9 hT60 => ?_) (fun σ9 f9 hC9 hF60 => ?_))
        · skip
          dsimp only [Option.toList, List.cons_append, List.nil_append]
          refine a_zret eX4_readShort_63 rfl (by first | exact Or.inl rfl | exact Or.inr rfl | omega) rfl ⟨Nat.zero_le _, Nat.zero_le _⟩ ?_
          refine hk1 σ9 (shD B nn d (te B nn q)) (frTx_tr fT4 (frTx_K f9)) ?_ (drC_shD ha hG (fun b j z1 z2 z3 => (f9.1 b j z1).trans (fo b j z1 z2 (by omega))) (by rw [f9.1 _ _ (by omega)]; exact vf) (by rw [f9.1 _ _ (by omega)]; exact vv0) (by rw [f9.1 _ _ (by omega)]; exact vv1))
          unfold shP
          rw [cif_n (by omega), cif_n (fun z => z hT11), cif_n (fun z => z hT40), cif_n (fun z => z hT60), hC9.1]
        · skip
          dsimp only [Option.toList, List.cons_append, List.nil_append]
          refine a_zret eX4_readShort_63 rfl (by first | exact Or.inl rfl | exact Or.inr rfl | omega) rfl ⟨Nat.zero_le _, Nat.zero_le _⟩ ?_
          refine hk0 σ9 (frTx_tr fT4 (frTx_K f9)) ?_
          unfold shP
          rw [cif_n (by omega), cif_n (fun z => z hT11), cif_n (fun z => z hT40), cif_y hF60, hC9.2.1]
      · skip
        dsimp only [Option.toList, List.cons_append, List.nil_append]
        have hR3 : σ3.2.2 = RF tw cs := by rw [f3.2]; exact hR
        have hR := hR3
        have fT3 : frTx a σ σ3 := frTx_tr fT2 (frTx_K f3)
        refine a_if_ne 48 eX4_readShort_43 (by decide) (by omega) (fun h => absurd h (by decide)) (fun _ => ?_)
        refine a_iconst eX4_readShort_46 ?_
        refine a_zret eX4_readShort_47 rfl (by first | exact Or.inl rfl | exact Or.inr rfl | omega) rfl ⟨Nat.zero_le _, Nat.zero_le _⟩ ?_
        refine hk0 σ3 fT3 ?_
        unfold shP
        rw [cif_n (by omega), cif_n (fun z => z hT11), cif_y hF40, hC3.2.1]
    · skip
      dsimp only [Option.toList, List.cons_append, List.nil_append]
      have hR1 : σ1.2.2 = RF tw cs := by rw [f1.2]; exact hR
      have hR := hR1
      have fT1 : frTx a σ σ1 := frTx_K f1
      refine a_if_ne 19 eX4_readShort_14 (by decide) (by omega) (fun h => absurd h (by decide)) (fun _ => ?_)
      refine a_iconst eX4_readShort_17 ?_
      refine a_zret eX4_readShort_18 rfl (by first | exact Or.inl rfl | exact Or.inr rfl | omega) rfl ⟨Nat.zero_le _, Nat.zero_le _⟩ ?_
      refine hk0 σ1 fT1 ?_
      unfold shP
      rw [cif_n (by omega), cif_y hF11, hC1.2.1]

theorem drC_faD {a : Nat} (ha : isCity a) {σ σ' : aw_S} {B : Int → Int} {n : Int} {d : mS} {p : Int} (hG : drC σ a d) (hf : ∀ (b : Nat) (j : Int), ¬ (b = 1 ∧ (8 ≤ j ∧ j ≤ 11)) → ¬ (b = 1 ∧ j = 5) → ¬ (b = a ∧ (j = 9 ∨ j = 10 ∨ j = 11 ∨ j = 12)) → σ'.1 b j = σ.1 b j) (vf : σ'.1 1 5 = 1) (v0 : σ'.1 a 9 = nv B n (p)) (v1 : σ'.1 a 10 = nv B n (te B n p)) (v2 : σ'.1 a 11 = nv B n (te B n (te B n p))) (v3 : σ'.1 a 12 = nv B n (te B n (te B n (te B n p)))) : drC σ' a (faD B n d p) := by
  obtain ⟨⟨g1, g2⟩, ⟨g3, g4⟩, g5, g6, g7, g8, g9, g10⟩ := hG
  have h13 : a = 3 ∨ a = 13 := ha
  have o : ∀ b j : Int, ¬ (b = 0 ∧ j = 10) → ¬ (b = 8 ∧ j = 0 ∨ b = 8 ∧ j = 1 ∨ b = 8 ∧ j = 2 ∨ b = 8 ∧ j = 3) → faD B n d p b j = d b j := fun b j z1 z2 => by
    unfold faD
    rw [up_ne (by omega), up_ne (by omega), up_ne (by omega), up_ne (by omega), up_ne (by omega)]
  have eF : faD B n d p 0 10 = 1 := up_eq
  have e0 : faD B n d p 8 0 = nv B n (p) := by unfold faD; rw [up_ne (by omega), up_ne (by omega), up_ne (by omega), up_ne (by omega), up_eq]
  have e1 : faD B n d p 8 1 = nv B n (te B n p) := by unfold faD; rw [up_ne (by omega), up_ne (by omega), up_ne (by omega), up_eq]
  have e2 : faD B n d p 8 2 = nv B n (te B n (te B n p)) := by unfold faD; rw [up_ne (by omega), up_ne (by omega), up_eq]
  have e3 : faD B n d p 8 3 = nv B n (te B n (te B n (te B n p))) := by unfold faD; rw [up_ne (by omega), up_eq]
  refine ⟨⟨?_, fun r r1 r2 => ?_⟩, ⟨?_, fun k k1 k2 => ?_⟩, fun r r1 r2 => ?_, fun z => ?_, ⟨?_, ?_⟩, ?_, ⟨?_, ?_, ?_⟩, fun r r1 r2 => ?_⟩
  · rw [hf a 0 (by omega) (by omega) (by omega), o 0 0 (by omega) (by omega)]; exact g1
  · rw [o 0 0 (by omega) (by omega)] at r2
    rw [hf (a + 1) r (by omega) (by omega) (by omega), hf (a + 2) r (by omega) (by omega) (by omega), hf (a + 3) r (by omega) (by omega) (by omega), o 1 r (by omega) (by omega), o 2 r (by omega) (by omega), o 3 r (by omega) (by omega)]; exact g2 r r1 r2
  · rw [hf a 4 (by omega) (by omega) (by omega), o 0 1 (by omega) (by omega)]; exact g3
  · rw [o 0 1 (by omega) (by omega)] at k2
    rw [hf (a + 5) k (by omega) (by omega) (by omega), hf (a + 6) k (by omega) (by omega) (by omega), hf (a + 7) k (by omega) (by omega) (by omega), o 5 k (by omega) (by omega), o 6 k (by omega) (by omega), o 7 k (by omega) (by omega)]; exact g4 k k1 k2
  · rw [hf (a + 4) r (by omega) (by omega) (by omega)]
    have := g5 r r1 r2
    refine ⟨this.1, aw_mb (fun k => ?_)⟩
    rw [o 0 1 (by omega) (by omega), o 4 (k : Int) (by omega) (by omega)]
    exact aw_ub this.2 k
  · rw [v0, v1, v2, v3, e0, e1, e2, e3]; exact ⟨rfl, rfl, rfl, rfl⟩
  · rw [hf a 13 (by omega) (by omega) (by omega), o 9 0 (by omega) (by omega)]; exact g7.1
  · rw [hf a 14 (by omega) (by omega) (by omega), o 9 1 (by omega) (by omega)]; exact g7.2
  · rw [hf a 15 (by omega) (by omega) (by omega), o 0 2 (by omega) (by omega)]; exact g8
  · rw [vf, eF]
  · rw [hf 1 6 (by omega) (by omega) (by omega), o 0 11 (by omega) (by omega)]; exact g9.2.1
  · rw [hf 1 7 (by omega) (by omega) (by omega), o 0 12 (by omega) (by omega)]; exact g9.2.2
  · rw [o 0 0 (by omega) (by omega)] at r2
    rw [hf 11 r (by omega) (by omega) (by omega), hf 12 r (by omega) (by omega) (by omega), o 20 r (by omega) (by omega), o 21 r (by omega) (by omega)]; exact g10 r r1 r2
set_option maxHeartbeats 4000000 in
set_option maxRecDepth 100000 in
theorem c_X4_readFare {l : Launch} {σ : aw_S} {Post : Option Value → aw_S → Prop} {tw cs : Bool} (hR : σ.2.2 = RF tw cs) {a : Nat} (ha : isCity a) (hrd : RF tw cs 1 2 = some a) {B : Int → Int} {nn : Int} (hT : txC σ B nn) (wT : wfTx B nn) {d : mS} {q : Int} (hG : drC σ a d) (wG : wfDr B nn d) (hq : 0 ≤ q ∧ q ≤ nn) (hC : tkC σ B nn q) (hk0 : ∀ σ', frTx a σ σ' → faP B nn d (ts B nn q) (te B nn q) = .inl (σ'.1 1 9) → Post (some (.int (jI 0))) σ') (hk1 : ∀ σ' d', frTx a σ σ' → faP B nn d (ts B nn q) (te B nn q) = .inr (σ'.1 1 8, d') → drC σ' a d' → Post (some (.int (jI 1))) σ')  : AE l yX4_readFare cX4_readFare 1 (some .boolean) 3 63 0 0 SH SH σ [.ref 1] Post := by
  show AW l yX4_readFare cX4_readFare 1 (some .boolean) 3 63 0 0 SH Post SH 0 0 σ 0 [some (.ref 1)] []
  obtain ⟨⟨g1, g2⟩, ⟨g3, g4⟩, g5, g6, g7, g8, g9, g10⟩ := id hG
  obtain ⟨w1, w2, w3, w4, w5, w6, w7, w8, w9, w10, w11⟩ := id wG
  have ha2 : a ≤ 13 := by rcases ha with rfl | rfl <;> omega
  have ha3 : 3 ≤ a := by rcases ha with rfl | rfl <;> omega
  have h13 : a = 3 ∨ a = 13 := ha
  have u1 := wT.1
  have b0 := tok_b (B := B) hq
  have c1 := tok_b (B := B) (n := nn) (q := te B nn q) (by omega)
  have c2 := tok_b (B := B) (n := nn) (q := te B nn (te B nn q)) (by omega)
  have c3 := tok_b (B := B) (n := nn) (q := te B nn (te B nn (te B nn q))) (by omega)
  have c4 := tok_b (B := B) (n := nn) (q := te B nn (te B nn (te B nn (te B nn q)))) (by omega)
  have c5 := tok_b (B := B) (n := nn) (q := te B nn (te B nn (te B nn (te B nn (te B nn q))))) (by omega)
  refine a_ald0 eX4_readFare_0 ?_
  refine a_getI 5 eX4_readFare_1 fl_X4_36 rfl rfl sh_1 ?_
  refine a_eqtop (y0 := d 0 10) (by exact g9.1) ?_
  refine a_if_ne 18 eX4_readFare_4 (by decide) (by omega) (fun hT4 => ?_) (fun hF4 => ?_)
  · skip
    refine a_iconst eX4_readFare_18 ?_
    refine a_zret eX4_readFare_19 rfl (by first | exact Or.inl rfl | exact Or.inr rfl | omega) rfl ⟨Nat.zero_le _, Nat.zero_le _⟩ ?_
    refine hk0 σ (frTx_rf a σ) ?_
    unfold faP
    rw [cif_y (by omega), hC.2.1]
  · skip
    refine a_ald0 eX4_readFare_7 ?_
    refine a_iconst eX4_readFare_8 ?_
    refine a_sipush eX4_readFare_9 (by decide) ?_
    refine a_cV2 eX4_readFare_12 lk_X4_105 mV_X4_readNumberWithin sh_1 ⟨_, rfl, rfl⟩ mt_X4_readNumberWithin rfl rfl rfl rfl rfl rfl (c_X4_readNumberWithin hR hT wT (q := te B nn q) (by omega) hC.1 (by omega) (fun σ1 f1 hC1 v1 hT12 => ?_) (fun σ1 f1 hC1 hF12 => ?_))
    · skip
      dsimp only [Option.toList, List.cons_append, List.nil_append]
      have hR1 : σ1.2.2 = RF tw cs := by rw [f1.2]; exact hR
      have hR := hR1
      have fT1 : frTx a σ σ1 := frTx_K f1
      refine a_if_ne 20 eX4_readFare_15 (by decide) (by omega) (fun _ => ?_) (fun h => absurd h (by decide))
      refine a_ald0 eX4_readFare_20 ?_
      refine a_iconst eX4_readFare_21 ?_
      refine a_putZ 5 eX4_readFare_22 fl_X4_36 rfl rfl (by first | exact Or.inl rfl | exact Or.inr rfl | omega) sh_1 (fun q h => Or.inl (by cases h; rfl)) ?_
      refine a_ald0 eX4_readFare_25 ?_
      refine a_getR 2 a eX4_readFare_26 fl_X4_18 rfl rfl sh_1 ((congrFun (congrFun hR _) _).trans hrd) ?_
      refine a_ald0 eX4_readFare_29 ?_
      refine a_getI 11 eX4_readFare_30 fl_X4_109 rfl rfl sh_1 ?_
      refine a_eqtop (y0 := nv B nn (te B nn q)) (by rw [rd_si_ni (by omega)]; exact v1) ?_
      refine a_putI 9 eX4_readFare_33 fl_X4_143 rfl rfl (sh_city ha) (fun q h => Or.inl (by cases h; rfl)) ?_
      refine AW.ex (fun s => ((∀ (b : Nat) (j : Int), ¬ (b = 1 ∧ (8 ≤ j ∧ j ≤ 11)) → ¬ (b = 1 ∧ j = 5) → ¬ (b = a ∧ (j = 9)) → s.1 b j = σ.1 b j) ∧ s.2 = σ.2) ∧ s.1 1 8 = te B nn (te B nn q) ∧ s.1 1 5 = 1 ∧ s.1 a 9 = nv B nn (te B nn q)) ⟨⟨fun b j z1 z2 z3 => by rw [rd_si, if_neg (by omega), rd_si, if_neg (by omega)]; exact f1.1 b j (by omega), f1.2⟩, by rw [rd_si_ne (by omega), rd_si_ni (by omega)]; exact hC1.1, by rw [rd_si_ne (by omega), rd_si_eq], rd_si_eq⟩ (fun σ2 h2 => ?_)
      obtain ⟨⟨fo, fz⟩, h28, vf, vv0⟩ := h2
      have fT2 : frTx a σ σ2 := ⟨fun b j z1 z2 z3 z4 => fo b j (by omega) (by omega) (by omega), fz⟩
      have hR2 : σ2.2.2 = RF tw cs := by rw [fz, ← f1.2]; exact hR1
      have hR := hR2
      have hT2 := txC_T ha fT2 hT
      refine a_ald0 eX4_readFare_36 ?_
      refine a_iconst eX4_readFare_37 ?_
      refine a_sipush eX4_readFare_38 (by decide) ?_
      refine a_cV2 eX4_readFare_41 lk_X4_105 mV_X4_readNumberWithin sh_1 ⟨_, rfl, rfl⟩ mt_X4_readNumberWithin rfl rfl rfl rfl rfl rfl (c_X4_readNumberWithin hR hT2 wT (q := te B nn (te B nn q)) (by omega) h28 (by omega) (fun σ3 f3 hC3 v3 hT41 => ?_) (fun σ3 f3 hC3 hF41 => ?_))
      · skip
        dsimp only [Option.toList, List.cons_append, List.nil_append]
        have hR3 : σ3.2.2 = RF tw cs := by rw [f3.2]; exact hR
        have hR := hR3
        have fT3 : frTx a σ σ3 := frTx_tr fT2 (frTx_K f3)
        refine a_if_ne 49 eX4_readFare_44 (by decide) (by omega) (fun _ => ?_) (fun h => absurd h (by decide))
        refine a_ald0 eX4_readFare_49 ?_
        refine a_getR 2 a eX4_readFare_50 fl_X4_18 rfl rfl sh_1 ((congrFun (congrFun hR _) _).trans hrd) ?_
        refine a_ald0 eX4_readFare_53 ?_
        refine a_getI 11 eX4_readFare_54 fl_X4_109 rfl rfl sh_1 ?_
        refine a_eqtop (y0 := nv B nn (te B nn (te B nn q))) (by exact v3) ?_
        refine a_putI 10 eX4_readFare_57 fl_X4_146 rfl rfl (sh_city ha) (fun q h => Or.inl (by cases h; rfl)) ?_
        refine AW.ex (fun s => ((∀ (b : Nat) (j : Int), ¬ (b = 1 ∧ (8 ≤ j ∧ j ≤ 11)) → ¬ (b = 1 ∧ j = 5) → ¬ (b = a ∧ (j = 9 ∨ j = 10)) → s.1 b j = σ.1 b j) ∧ s.2 = σ.2) ∧ s.1 1 8 = te B nn (te B nn (te B nn q)) ∧ s.1 1 5 = 1 ∧ s.1 a 9 = nv B nn (te B nn q) ∧ s.1 a 10 = nv B nn (te B nn (te B nn q))) ⟨⟨fun b j z1 z2 z3 => by rw [rd_si, if_neg (by omega), f3.1 b j (by omega)]; exact fo b j z1 z2 (by omega), f3.2.trans fz⟩, by rw [rd_si_ne (by omega)]; exact hC3.1, by rw [rd_si_ne (by omega), f3.1 _ _ (by omega)]; exact vf, by rw [rd_si_ni (by omega), f3.1 _ _ (by omega)]; exact vv0, rd_si_eq⟩ (fun σ4 h4 => ?_)
        obtain ⟨⟨fo, fz⟩, h48, vf, vv0, vv1⟩ := h4
        have fT4 : frTx a σ σ4 := ⟨fun b j z1 z2 z3 z4 => fo b j (by omega) (by omega) (by omega), fz⟩
        have hR4 : σ4.2.2 = RF tw cs := by rw [fz, ← f1.2]; exact hR1
        have hR := hR4
        have hT4 := txC_T ha fT4 hT
        refine a_ald0 eX4_readFare_60 ?_
        refine a_iconst eX4_readFare_61 ?_
        refine a_bipush eX4_readFare_62 (by decide) ?_
        refine a_cV2 eX4_readFare_64 lk_X4_105 mV_X4_readNumberWithin sh_1 ⟨_, rfl, rfl⟩ mt_X4_readNumberWithin rfl rfl rfl rfl rfl rfl (c_X4_readNumberWithin hR hT4 wT (q := te B nn (te B nn (te B nn q))) (by omega) h48 (by omega) (fun σ5 f5 hC5 v5 hT64 => ?_) (fun σ5 f5 hC5 hF64 => ?_))
        · skip
          dsimp only [Option.toList, List.cons_append, List.nil_append]
          have hR5 : σ5.2.2 = RF tw cs := by rw [f5.2]; exact hR
          have hR := hR5
          have fT5 : frTx a σ σ5 := frTx_tr fT4 (frTx_K f5)
          refine a_if_ne 72 eX4_readFare_67 (by decide) (by omega) (fun _ => ?_) (fun h => absurd h (by decide))
          refine a_ald0 eX4_readFare_72 ?_
          refine a_getR 2 a eX4_readFare_73 fl_X4_18 rfl rfl sh_1 ((congrFun (congrFun hR _) _).trans hrd) ?_
          refine a_ald0 eX4_readFare_76 ?_
          refine a_getI 11 eX4_readFare_77 fl_X4_109 rfl rfl sh_1 ?_
          refine a_eqtop (y0 := nv B nn (te B nn (te B nn (te B nn q)))) (by exact v5) ?_
          refine a_putI 11 eX4_readFare_80 fl_X4_149 rfl rfl (sh_city ha) (fun q h => Or.inl (by cases h; rfl)) ?_
          refine AW.ex (fun s => ((∀ (b : Nat) (j : Int), ¬ (b = 1 ∧ (8 ≤ j ∧ j ≤ 11)) → ¬ (b = 1 ∧ j = 5) → ¬ (b = a ∧ (j = 9 ∨ j = 10 ∨ j = 11)) → s.1 b j = σ.1 b j) ∧ s.2 = σ.2) ∧ s.1 1 8 = te B nn (te B nn (te B nn (te B nn q))) ∧ s.1 1 5 = 1 ∧ s.1 a 9 = nv B nn (te B nn q) ∧ s.1 a 10 = nv B nn (te B nn (te B nn q)) ∧ s.1 a 11 = nv B nn (te B nn (te B nn (te B nn q)))) ⟨⟨fun b j z1 z2 z3 => by rw [rd_si, if_neg (by omega), f5.1 b j (by omega)]; exact fo b j z1 z2 (by omega), f5.2.trans fz⟩, by rw [rd_si_ne (by omega)]; exact hC5.1, by rw [rd_si_ne (by omega), f5.1 _ _ (by omega)]; exact vf, by rw [rd_si_ni (by omega), f5.1 _ _ (by omega)]; exact vv0, by rw [rd_si_ni (by omega), f5.1 _ _ (by omega)]; exact vv1, rd_si_eq⟩ (fun σ6 h6 => ?_)
          obtain ⟨⟨fo, fz⟩, h68, vf, vv0, vv1, vv2⟩ := h6
          have fT6 : frTx a σ σ6 := ⟨fun b j z1 z2 z3 z4 => fo b j (by omega) (by omega) (by omega), fz⟩
          have hR6 : σ6.2.2 = RF tw cs := by rw [fz, ← f1.2]; exact hR1
          have hR := hR6
          have hT6 := txC_T ha fT6 hT
          refine a_ald0 eX4_readFare_83 ?_
          refine a_iconst eX4_readFare_84 ?_
          refine a_bipush eX4_readFare_85 (by decide) ?_
          refine a_cV2 eX4_readFare_87 lk_X4_105 mV_X4_readNumberWithin sh_1 ⟨_, rfl, rfl⟩ mt_X4_readNumberWithin rfl rfl rfl rfl rfl rfl (c_X4_readNumberWithin hR hT6 wT (q := te B nn (te B nn (te B nn (te B nn q)))) (by omega) h68 (by omega) (fun σ7 f7 hC7 v7 hT87 => ?_) (fun σ7 f7 hC7 hF87 => ?_))
          · skip
            dsimp only [Option.toList, List.cons_append, List.nil_append]
            have hR7 : σ7.2.2 = RF tw cs := by rw [f7.2]; exact hR
            have hR := hR7
            have fT7 : frTx a σ σ7 := frTx_tr fT6 (frTx_K f7)
            refine a_if_ne 95 eX4_readFare_90 (by decide) (by omega) (fun _ => ?_) (fun h => absurd h (by decide))
            refine a_ald0 eX4_readFare_95 ?_
            refine a_getR 2 a eX4_readFare_96 fl_X4_18 rfl rfl sh_1 ((congrFun (congrFun hR _) _).trans hrd) ?_
            refine a_ald0 eX4_readFare_99 ?_
            refine a_getI 11 eX4_readFare_100 fl_X4_109 rfl rfl sh_1 ?_
            refine a_eqtop (y0 := nv B nn (te B nn (te B nn (te B nn (te B nn q))))) (by exact v7) ?_
            refine a_putI 12 eX4_readFare_103 fl_X4_152 rfl rfl (sh_city ha) (fun q h => Or.inl (by cases h; rfl)) ?_
            refine AW.ex (fun s => ((∀ (b : Nat) (j : Int), ¬ (b = 1 ∧ (8 ≤ j ∧ j ≤ 11)) → ¬ (b = 1 ∧ j = 5) → ¬ (b = a ∧ (j = 9 ∨ j = 10 ∨ j = 11 ∨ j = 12)) → s.1 b j = σ.1 b j) ∧ s.2 = σ.2) ∧ s.1 1 8 = te B nn (te B nn (te B nn (te B nn (te B nn q)))) ∧ s.1 1 5 = 1 ∧ s.1 a 9 = nv B nn (te B nn q) ∧ s.1 a 10 = nv B nn (te B nn (te B nn q)) ∧ s.1 a 11 = nv B nn (te B nn (te B nn (te B nn q))) ∧ s.1 a 12 = nv B nn (te B nn (te B nn (te B nn (te B nn q))))) ⟨⟨fun b j z1 z2 z3 => by rw [rd_si, if_neg (by omega), f7.1 b j (by omega)]; exact fo b j z1 z2 (by omega), f7.2.trans fz⟩, by rw [rd_si_ne (by omega)]; exact hC7.1, by rw [rd_si_ne (by omega), f7.1 _ _ (by omega)]; exact vf, by rw [rd_si_ni (by omega), f7.1 _ _ (by omega)]; exact vv0, by rw [rd_si_ni (by omega), f7.1 _ _ (by omega)]; exact vv1, by rw [rd_si_ni (by omega), f7.1 _ _ (by omega)]; exact vv2, rd_si_eq⟩ (fun σ8 h8 => ?_)
            obtain ⟨⟨fo, fz⟩, h88, vf, vv0, vv1, vv2, vv3⟩ := h8
            have fT8 : frTx a σ σ8 := ⟨fun b j z1 z2 z3 z4 => fo b j (by omega) (by omega) (by omega), fz⟩
            have hR8 : σ8.2.2 = RF tw cs := by rw [fz, ← f1.2]; exact hR1
            have hR := hR8
            have hT8 := txC_T ha fT8 hT
            refine a_ald0 eX4_readFare_106 ?_
            refine a_cV0 eX4_readFare_107 lk_X4_125 mV_X4_readStop sh_1 ⟨_, rfl, rfl⟩ mt_X4_readStop rfl rfl rfl rfl (c_X4_readStop hR hT8 wT (q := te B nn (te B nn (te B nn (te B nn (te B nn q))))) (by omega) h88 (fun σ9 f9 hC9 hT107 => ?_) (fun σ9 f9 hC9 hF107 => ?_))
            · skip
              dsimp only [Option.toList, List.cons_append, List.nil_append]
              refine a_zret eX4_readFare_110 rfl (by first | exact Or.inl rfl | exact Or.inr rfl | omega) rfl ⟨Nat.zero_le _, Nat.zero_le _⟩ ?_
              refine hk1 σ9 (faD B nn d (te B nn q)) (frTx_tr fT8 (frTx_K f9)) ?_ (drC_faD ha hG (fun b j z1 z2 z3 => (f9.1 b j z1).trans (fo b j z1 z2 (by omega))) (by rw [f9.1 _ _ (by omega)]; exact vf) (by rw [f9.1 _ _ (by omega)]; exact vv0) (by rw [f9.1 _ _ (by omega)]; exact vv1) (by rw [f9.1 _ _ (by omega)]; exact vv2) (by rw [f9.1 _ _ (by omega)]; exact vv3))
              unfold faP
              rw [cif_n (by omega), cif_n (fun z => z hT12), cif_n (fun z => z hT41), cif_n (fun z => z hT64), cif_n (fun z => z hT87), cif_n (fun z => z hT107), hC9.1]
            · skip
              dsimp only [Option.toList, List.cons_append, List.nil_append]
              refine a_zret eX4_readFare_110 rfl (by first | exact Or.inl rfl | exact Or.inr rfl | omega) rfl ⟨Nat.zero_le _, Nat.zero_le _⟩ ?_
              refine hk0 σ9 (frTx_tr fT8 (frTx_K f9)) ?_
              unfold faP
              rw [cif_n (by omega), cif_n (fun z => z hT12), cif_n (fun z => z hT41), cif_n (fun z => z hT64), cif_n (fun z => z hT87), cif_y hF107, hC9.2.1]
          · skip
            dsimp only [Option.toList, List.cons_append, List.nil_append]
            have hR7 : σ7.2.2 = RF tw cs := by rw [f7.2]; exact hR
            have hR := hR7
            have fT7 : frTx a σ σ7 := frTx_tr fT6 (frTx_K f7)
            refine a_if_ne 95 eX4_readFare_90 (by decide) (by omega) (fun h => absurd h (by decide)) (fun _ => ?_)
            refine a_iconst eX4_readFare_93 ?_
            refine a_zret eX4_readFare_94 rfl (by first | exact Or.inl rfl | exact Or.inr rfl | omega) rfl ⟨Nat.zero_le _, Nat.zero_le _⟩ ?_
            refine hk0 σ7 fT7 ?_
            unfold faP
            rw [cif_n (by omega), cif_n (fun z => z hT12), cif_n (fun z => z hT41), cif_n (fun z => z hT64), cif_y hF87, hC7.2.1]
        · skip
          dsimp only [Option.toList, List.cons_append, List.nil_append]
          have hR5 : σ5.2.2 = RF tw cs := by rw [f5.2]; exact hR
          have hR := hR5
          have fT5 : frTx a σ σ5 := frTx_tr fT4 (frTx_K f5)
          refine a_if_ne 72 eX4_readFare_67 (by decide) (by omega) (fun h => absurd h (by decide)) (fun _ => ?_)
          refine a_iconst eX4_readFare_70 ?_
          refine a_zret eX4_readFare_71 rfl (by first | exact Or.inl rfl | exact Or.inr rfl | omega) rfl ⟨Nat.zero_le _, Nat.zero_le _⟩ ?_
          refine hk0 σ5 fT5 ?_
          unfold faP
          rw [cif_n (by omega), cif_n (fun z => z hT12), cif_n (fun z => z hT41), cif_y hF64, hC5.2.1]
      · skip
        dsimp only [Option.toList, List.cons_append, List.nil_append]
        have hR3 : σ3.2.2 = RF tw cs := by rw [f3.2]; exact hR
        have hR := hR3
        have fT3 : frTx a σ σ3 := frTx_tr fT2 (frTx_K f3)
        refine a_if_ne 49 eX4_readFare_44 (by decide) (by omega) (fun h => absurd h (by decide)) (fun _ => ?_)
        refine a_iconst eX4_readFare_47 ?_
        refine a_zret eX4_readFare_48 rfl (by first | exact Or.inl rfl | exact Or.inr rfl | omega) rfl ⟨Nat.zero_le _, Nat.zero_le _⟩ ?_
        refine hk0 σ3 fT3 ?_
        unfold faP
        rw [cif_n (by omega), cif_n (fun z => z hT12), cif_y hF41, hC3.2.1]
    · skip
      dsimp only [Option.toList, List.cons_append, List.nil_append]
      have hR1 : σ1.2.2 = RF tw cs := by rw [f1.2]; exact hR
      have hR := hR1
      have fT1 : frTx a σ σ1 := frTx_K f1
      refine a_if_ne 20 eX4_readFare_15 (by decide) (by omega) (fun h => absurd h (by decide)) (fun _ => ?_)
      refine a_iconst eX4_readFare_18 ?_
      refine a_zret eX4_readFare_19 rfl (by first | exact Or.inl rfl | exact Or.inr rfl | omega) rfl ⟨Nat.zero_le _, Nat.zero_le _⟩ ?_
      refine hk0 σ1 fT1 ?_
      unfold faP
      rw [cif_n (by omega), cif_y hF12, hC1.2.1]
