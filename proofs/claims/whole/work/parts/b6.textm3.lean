theorem drM_shD {σ σ' : aw_S} {B : Int → Int} {n : Int} {d : mS} {p : Int} (hG : drM σ B d) (hf : ∀ (b : Nat) (j : Int), ¬ (b = 171 ∧ ((2 ≤ j ∧ j ≤ 4) ∨ j = 44)) → ¬ (b = 177) → σ'.1 b j = σ.1 b j) (hl : ∀ j : Int, σ'.2.1 173 j = σ.2.1 173 j) (v0 : σ'.1 177 0 = nv B n p) (v1 : σ'.1 177 1 = nv B n (te B n p)) : drM σ' B (shD B n d p) := by
  obtain ⟨⟨g1, g2⟩, ⟨g3, g4⟩, g5, g6, g7, g8⟩ := hG
  have o : ∀ b j : Int, ¬ (b = 0 ∧ j = 11) → ¬ (b = 9 ∧ j = 0 ∨ b = 9 ∧ j = 1) → shD B n d p b j = d b j := fun b j z1 z2 => by
    unfold shD
    rw [up_ne (by omega), up_ne (by omega), up_ne (by omega)]
  have eF : shD B n d p 0 11 = 1 := up_eq
  have e0 : shD B n d p 9 0 = nv B n (p) := by unfold shD; rw [up_ne (by omega), up_ne (by omega), up_eq]
  have e1 : shD B n d p 9 1 = nv B n (te B n p) := by unfold shD; rw [up_ne (by omega), up_eq]
  refine ⟨⟨?_, fun r r1 r2 => ?_⟩, ⟨?_, fun k k1 k2 => ?_⟩, ?_, ?_, ?_, fun r r1 r2 => ?_⟩
  · rw [hf 171 6 (by omega) (by omega), o 0 0 (by omega) (by omega)]; exact g1
  · rw [o 0 0 (by omega) (by omega)] at r2
    rw [hf 174 _ (by omega) (by omega), hf 174 _ (by omega) (by omega), hf 174 _ (by omega) (by omega), o 1 r (by omega) (by omega), o 2 r (by omega) (by omega), o 3 r (by omega) (by omega)]; exact g2 r r1 r2
  · rw [hf 171 9 (by omega) (by omega), o 0 1 (by omega) (by omega)]; exact g3
  · rw [o 0 1 (by omega) (by omega)] at k2
    rw [hf 175 _ (by omega) (by omega), hf 175 _ (by omega) (by omega), hf 175 _ (by omega) (by omega), hf 175 _ (by omega) (by omega), o 4 k (by omega) (by omega), o 5 k (by omega) (by omega), o 6 k (by omega) (by omega), o 7 k (by omega) (by omega)]; exact g4 k k1 k2
  · rw [hf 176 _ (by omega) (by omega), hf 176 _ (by omega) (by omega), hf 176 _ (by omega) (by omega), hf 176 _ (by omega) (by omega), o 0 10 (by omega) (by omega), o 8 0 (by omega) (by omega), o 8 1 (by omega) (by omega), o 8 2 (by omega) (by omega), o 8 3 (by omega) (by omega)]; exact g5
  · exact ⟨fun z => by omega, fun _ => by rw [v0, v1, e0, e1]; exact ⟨rfl, rfl⟩⟩
  · rw [hf 171 13 (by omega) (by omega), o 0 12 (by omega) (by omega), o 0 2 (by omega) (by omega)]; exact g7
  · rw [o 0 0 (by omega) (by omega)] at r2
    rw [hl, o 20 r (by omega) (by omega), o 21 r (by omega) (by omega)]; exact g8 r r1 r2
theorem drM_faD {σ σ' : aw_S} {B : Int → Int} {n : Int} {d : mS} {p : Int} (hG : drM σ B d) (hf : ∀ (b : Nat) (j : Int), ¬ (b = 171 ∧ ((2 ≤ j ∧ j ≤ 4) ∨ j = 44)) → ¬ (b = 176) → σ'.1 b j = σ.1 b j) (hl : ∀ j : Int, σ'.2.1 173 j = σ.2.1 173 j) (v0 : σ'.1 176 0 = nv B n p) (v1 : σ'.1 176 1 = nv B n (te B n p)) (v2 : σ'.1 176 2 = nv B n (te B n (te B n p))) (v3 : σ'.1 176 3 = nv B n (te B n (te B n (te B n p)))) : drM σ' B (faD B n d p) := by
  obtain ⟨⟨g1, g2⟩, ⟨g3, g4⟩, g5, g6, g7, g8⟩ := hG
  have o : ∀ b j : Int, ¬ (b = 0 ∧ j = 10) → ¬ (b = 8 ∧ j = 0 ∨ b = 8 ∧ j = 1 ∨ b = 8 ∧ j = 2 ∨ b = 8 ∧ j = 3) → faD B n d p b j = d b j := fun b j z1 z2 => by
    unfold faD
    rw [up_ne (by omega), up_ne (by omega), up_ne (by omega), up_ne (by omega), up_ne (by omega)]
  have eF : faD B n d p 0 10 = 1 := up_eq
  have e0 : faD B n d p 8 0 = nv B n (p) := by unfold faD; rw [up_ne (by omega), up_ne (by omega), up_ne (by omega), up_ne (by omega), up_eq]
  have e1 : faD B n d p 8 1 = nv B n (te B n p) := by unfold faD; rw [up_ne (by omega), up_ne (by omega), up_ne (by omega), up_eq]
  have e2 : faD B n d p 8 2 = nv B n (te B n (te B n p)) := by unfold faD; rw [up_ne (by omega), up_ne (by omega), up_eq]
  have e3 : faD B n d p 8 3 = nv B n (te B n (te B n (te B n p))) := by unfold faD; rw [up_ne (by omega), up_eq]
  refine ⟨⟨?_, fun r r1 r2 => ?_⟩, ⟨?_, fun k k1 k2 => ?_⟩, ?_, ?_, ?_, fun r r1 r2 => ?_⟩
  · rw [hf 171 6 (by omega) (by omega), o 0 0 (by omega) (by omega)]; exact g1
  · rw [o 0 0 (by omega) (by omega)] at r2
    rw [hf 174 _ (by omega) (by omega), hf 174 _ (by omega) (by omega), hf 174 _ (by omega) (by omega), o 1 r (by omega) (by omega), o 2 r (by omega) (by omega), o 3 r (by omega) (by omega)]; exact g2 r r1 r2
  · rw [hf 171 9 (by omega) (by omega), o 0 1 (by omega) (by omega)]; exact g3
  · rw [o 0 1 (by omega) (by omega)] at k2
    rw [hf 175 _ (by omega) (by omega), hf 175 _ (by omega) (by omega), hf 175 _ (by omega) (by omega), hf 175 _ (by omega) (by omega), o 4 k (by omega) (by omega), o 5 k (by omega) (by omega), o 6 k (by omega) (by omega), o 7 k (by omega) (by omega)]; exact g4 k k1 k2
  · exact ⟨fun z => by omega, fun _ => by rw [v0, v1, v2, v3, e0, e1, e2, e3]; exact ⟨rfl, rfl, rfl, rfl⟩⟩
  · rw [hf 177 _ (by omega) (by omega), hf 177 _ (by omega) (by omega), o 0 11 (by omega) (by omega), o 9 0 (by omega) (by omega), o 9 1 (by omega) (by omega)]; exact g6
  · rw [hf 171 13 (by omega) (by omega), o 0 12 (by omega) (by omega), o 0 2 (by omega) (by omega)]; exact g7
  · rw [o 0 0 (by omega) (by omega)] at r2
    rw [hl, o 20 r (by omega) (by omega), o 21 r (by omega) (by omega)]; exact g8 r r1 r2
set_option maxHeartbeats 4000000 in
set_option maxRecDepth 100000 in
theorem c_X10_shortLine {l : Launch} {σ : aw_S} {Post : Option Value → aw_S → Prop} {tw cs : Bool} (hR : σ.2.2 = RF tw cs) {B : Int → Int} {nn : Int} (hT : txM σ B nn) (wT : wfTx B nn) {d : mS} {q : Int} (hG : drM σ B d) (wG : wfDr B nn d) (hq : 0 ≤ q ∧ q ≤ nn) (hC : tkM σ B nn q) (hk0 : ∀ σ', frTxM σ σ' → shP B nn d (ts B nn q) (te B nn q) = .inl (σ'.1 171 4) → Post (some (.int (jI 0))) σ') (hk1 : ∀ σ' p' d', frTxM σ σ' → shP B nn d (ts B nn q) (te B nn q) = .inr (p', d') → drM σ' B d' → tkM σ' B nn p' → Post (some (.int (jI 1))) σ')  : AE l yX10_shortLine cX10_shortLine 2 (some .boolean) 3 63 0 0 SH SH σ [.ref 171] Post := by
  show AW l yX10_shortLine cX10_shortLine 2 (some .boolean) 3 63 0 0 SH Post SH 0 0 σ 0 [some (.ref 171), none] []
  have hR0 := hR
  obtain ⟨⟨g1, g2⟩, ⟨g3, g4⟩, g5, g6, g7, g8⟩ := id hG
  obtain ⟨w1, w2, w3, w4, w5, w6, w7, w8, w9, w10, w11⟩ := id wG
  have u1 := wT.1
  have b0 := tok_b (B := B) hq
  have c1 := tok_b (B := B) (n := nn) (q := te B nn q) (by omega)
  have c2 := tok_b (B := B) (n := nn) (q := te B nn (te B nn q)) (by omega)
  have c3 := tok_b (B := B) (n := nn) (q := te B nn (te B nn (te B nn q))) (by omega)
  have c4 := tok_b (B := B) (n := nn) (q := te B nn (te B nn (te B nn (te B nn q)))) (by omega)
  have c5 := tok_b (B := B) (n := nn) (q := te B nn (te B nn (te B nn (te B nn (te B nn q))))) (by omega)
  have hc13 : σ.1 177 0 = (if d 0 11 = 1 then d 9 0 else -1) := by
    split
    · exact (g6.2 (by omega)).1
    · exact g6.1 (by omega)
  have hw1 := w10.2.1
  refine a_ald0 eX10_shortLine_0 ?_
  refine a_getR 12 177 eX10_shortLine_1 fl_X10_27 rfl rfl sh_171 ((congrFun (congrFun hR _) _).trans rf_171_12) ?_
  refine a_iconst eX10_shortLine_4 ?_
  refine a_iald eX10_shortLine_5 sh_177 rfl (by omega) ?_
  refine a_eqtop (y0 := (if d 0 11 = 1 then d 9 0 else -1)) (by exact hc13) ?_
  refine a_iconst eX10_shortLine_6 ?_
  refine a_icmp_eq 12 eX10_shortLine_7 (by decide) (by split <;> omega) (fun hT7 => ?_) (fun hF7 => ?_)
  · skip
    have hd11 : d 0 11 = 0 := by split at hT7 <;> omega
    refine a_ald0 eX10_shortLine_12 ?_
    refine a_cV0 eX10_shortLine_13 lk_X10_195 mV_X10_leads sh_171 ⟨_, rfl, rfl⟩ mt_X10_leads rfl rfl rfl rfl (c_X10_leads hR hT wT (q := te B nn q) (by omega) hC.1 (fun σ1 f1 hC1 => ?_))
    dsimp only [Option.toList, List.cons_append, List.nil_append]
    have hR1 : σ1.2.2 = RF tw cs := by rw [f1.2.2]; exact hR
    have hR := hR1
    have hT1 := txM_K f1 hT
    refine a_ald0 eX10_shortLine_16 ?_
    refine a_iconst eX10_shortLine_17 ?_
    refine a_bipush eX10_shortLine_18 (by decide) ?_
    refine a_cV2 eX10_shortLine_20 lk_X10_201 mV_X10_number sh_171 ⟨_, rfl, rfl⟩ mt_X10_number rfl rfl rfl rfl rfl rfl (c_X10_number hR hT1 wT (q := te B nn q) (by omega) hC1 (by omega) (fun σ2 f2 hC2 v2 hT20 => ?_) (fun hF20 => ?_))
    · skip
      dsimp only [Option.toList, List.cons_append, List.nil_append]
      refine a_if_ne 28 eX10_shortLine_23 (by decide) (by omega) (fun _ => ?_) (fun h => absurd h (by decide))
      have hR2 : σ2.2.2 = RF tw cs := by rw [f2.2.2]; exact hR
      have hR := hR2
      have f12 := frNM_tr (frNM_K f1) f2
      have hT2 := txM_T (frNM_T f12) hT
      refine a_ald0 eX10_shortLine_28 ?_
      refine a_getI 44 eX10_shortLine_29 fl_X10_192 rfl rfl sh_171 ?_
      refine a_eqtop (y0 := nv B nn (te B nn q)) (by exact v2) ?_
      refine a_ist1 eX10_shortLine_32 (by decide) aw_n2r ?_
      refine a_ald0 eX10_shortLine_33 ?_
      refine a_iconst eX10_shortLine_34 ?_
      refine a_sipush eX10_shortLine_35 (by decide) ?_
      refine a_cV2 eX10_shortLine_38 lk_X10_201 mV_X10_number sh_171 ⟨_, rfl, rfl⟩ mt_X10_number rfl rfl rfl rfl rfl rfl (c_X10_number hR hT2 wT (q := te B nn (te B nn q)) (by omega) hC2 (by omega) (fun σ3 f3 hC3 v3 hT38 => ?_) (fun hF38 => ?_))
      · skip
        dsimp only [Option.toList, List.cons_append, List.nil_append]
        refine a_if_ne 46 eX10_shortLine_41 (by decide) (by omega) (fun _ => ?_) (fun h => absurd h (by decide))
        have hR3 : σ3.2.2 = RF tw cs := by rw [f3.2.2]; exact hR
        have hR := hR3
        have f13 := frNM_tr f12 f3
        refine a_ald0 eX10_shortLine_46 ?_
        refine a_getR 12 177 eX10_shortLine_47 fl_X10_27 rfl rfl sh_171 ((congrFun (congrFun hR _) _).trans rf_171_12) ?_
        refine a_iconst eX10_shortLine_50 ?_
        refine a_ild1 eX10_shortLine_51 ?_
        refine a_iast eX10_shortLine_52 sh_177 rfl (by omega) ?_
        refine a_ald0 eX10_shortLine_53 ?_
        refine a_getR 12 177 eX10_shortLine_54 fl_X10_27 rfl rfl sh_171 ((congrFun (congrFun hR _) _).trans rf_171_12) ?_
        refine a_iconst eX10_shortLine_57 ?_
        refine a_ald0 eX10_shortLine_58 ?_
        refine a_getI 44 eX10_shortLine_59 fl_X10_192 rfl rfl sh_171 ?_
        refine a_eqtop (y0 := nv B nn (te B nn (te B nn q))) (by rw [rd_si_ne (by omega)]; exact v3) ?_
        refine a_iast eX10_shortLine_62 sh_177 rfl (by omega) ?_
        refine AW.ex (fun s => ((∀ (b : Nat) (j : Int), ¬ (b = 171 ∧ ((2 ≤ j ∧ j ≤ 4) ∨ j = 44)) → ¬ (b = 177) → s.1 b j = σ.1 b j) ∧ (∀ (b : Nat) (j : Int), ¬ (b = 171 ∧ j = 5) → s.2.1 b j = σ.2.1 b j) ∧ s.2.2 = σ.2.2) ∧ tkM s B nn (te B nn (te B nn (te B nn q))) ∧ s.1 177 0 = nv B nn (te B nn q) ∧ s.1 177 1 = nv B nn (te B nn (te B nn q))) ⟨⟨fun b j z1 z2 => by rw [rd_si_ne z2, rd_si_ne z2]; exact f13.1 b j z1, f13.2.1, f13.2.2⟩, ⟨by rw [rd_si_ne (by omega), rd_si_ne (by omega)]; exact hC3.1, by rw [rd_si_ne (by omega), rd_si_ne (by omega)]; exact hC3.2.1, by rw [rd_si_ne (by omega), rd_si_ne (by omega)]; exact hC3.2.2.1, hC3.2.2.2.1, hC3.2.2.2.2⟩, by rw [rd_si_ni (by omega), rd_si_eq], rd_si_eq⟩ (fun σ4 h4 => ?_)
        obtain ⟨⟨fo, fl, fr⟩, hC4, w0, w1⟩ := h4
        have fT4 : frTxM σ σ4 := ⟨fun b j z1 z2 => fo b j (by omega) (by omega), fun b j z1 z2 => fl b j (by omega), fr⟩
        have hR4 : σ4.2.2 = RF tw cs := by rw [fr]; exact hR0
        have hR := hR4
        have hT4 := txM_T fT4 hT
        refine a_ald0 eX10_shortLine_63 ?_
        refine a_cV0 eX10_shortLine_64 lk_X10_205 mV_X10_closes sh_171 ⟨_, rfl, rfl⟩ mt_X10_closes rfl rfl rfl rfl (c_X10_closes hR hT4 wT (q := te B nn (te B nn (te B nn q))) (by omega) hC4 (fun σ5 f5 hC5 hT64 => ?_) (fun hF64 => ?_))
        · skip
          dsimp only [Option.toList, List.cons_append, List.nil_append]
          refine a_zret eX10_shortLine_67 rfl (by first | exact Or.inl rfl | exact Or.inr rfl | omega) rfl ⟨Nat.zero_le _, Nat.zero_le _⟩ ?_
          refine hk1 σ5 _ (shD B nn d (te B nn q)) (frTxM_tr fT4 (frNM_T (frNM_K f5))) ?_ (drM_shD hG (fun b j z1 z2 => (f5.1 b j (by omega)).trans (fo b j z1 z2)) (fun j => (f5.2.1 _ _ (by omega)).trans (fl _ _ (by omega))) (by rw [f5.1 _ _ (by omega)]; exact w0) (by rw [f5.1 _ _ (by omega)]; exact w1)) hC5
          unfold shP
          rw [cif_n (by omega), cif_n (fun z => z hT20), cif_n (fun z => z hT38), cif_n (fun z => z hT64)]
        · skip
          dsimp only [Option.toList, List.cons_append, List.nil_append]
          refine a_zret eX10_shortLine_67 rfl (by first | exact Or.inl rfl | exact Or.inr rfl | omega) rfl ⟨Nat.zero_le _, Nat.zero_le _⟩ ?_
          refine hk0 σ4 fT4 ?_
          unfold shP
          rw [cif_n (by omega), cif_n (fun z => z hT20), cif_n (fun z => z hT38), cif_y hF64, hC4.2.1]
      · skip
        dsimp only [Option.toList, List.cons_append, List.nil_append]
        refine a_if_ne 46 eX10_shortLine_41 (by decide) (by omega) (fun h => absurd h (by decide)) (fun _ => ?_)
        refine a_iconst eX10_shortLine_44 ?_
        refine a_zret eX10_shortLine_45 rfl (by first | exact Or.inl rfl | exact Or.inr rfl | omega) rfl ⟨Nat.zero_le _, Nat.zero_le _⟩ ?_
        refine hk0 σ2 (frNM_T f12) ?_
        unfold shP
        rw [cif_n (by omega), cif_n (fun z => z hT20), cif_y hF38, hC2.2.1]
    · skip
      dsimp only [Option.toList, List.cons_append, List.nil_append]
      refine a_if_ne 28 eX10_shortLine_23 (by decide) (by omega) (fun h => absurd h (by decide)) (fun _ => ?_)
      refine a_iconst eX10_shortLine_26 ?_
      refine a_zret eX10_shortLine_27 rfl (by first | exact Or.inl rfl | exact Or.inr rfl | omega) rfl ⟨Nat.zero_le _, Nat.zero_le _⟩ ?_
      refine hk0 σ1 (frNM_T (frNM_K f1)) ?_
      unfold shP
      rw [cif_n (by omega), cif_y hF20, hC1.2.1]
  · skip
    refine a_iconst eX10_shortLine_10 ?_
    refine a_zret eX10_shortLine_11 rfl (by first | exact Or.inl rfl | exact Or.inr rfl | omega) rfl ⟨Nat.zero_le _, Nat.zero_le _⟩ ?_
    refine hk0 σ (frTxM_rf σ) ?_
    unfold shP
    rw [cif_y (by split at hF7 <;> omega), hC.2.1]

set_option maxHeartbeats 4000000 in
set_option maxRecDepth 100000 in
theorem c_X10_fareLine {l : Launch} {σ : aw_S} {Post : Option Value → aw_S → Prop} {tw cs : Bool} (hR : σ.2.2 = RF tw cs) {B : Int → Int} {nn : Int} (hT : txM σ B nn) (wT : wfTx B nn) {d : mS} {q : Int} (hG : drM σ B d) (wG : wfDr B nn d) (hq : 0 ≤ q ∧ q ≤ nn) (hC : tkM σ B nn q) (hk0 : ∀ σ', frTxM σ σ' → faP B nn d (ts B nn q) (te B nn q) = .inl (σ'.1 171 4) → Post (some (.int (jI 0))) σ') (hk1 : ∀ σ' p' d', frTxM σ σ' → faP B nn d (ts B nn q) (te B nn q) = .inr (p', d') → drM σ' B d' → tkM σ' B nn p' → Post (some (.int (jI 1))) σ')  : AE l yX10_fareLine cX10_fareLine 2 (some .boolean) 3 63 0 0 SH SH σ [.ref 171] Post := by
  show AW l yX10_fareLine cX10_fareLine 2 (some .boolean) 3 63 0 0 SH Post SH 0 0 σ 0 [some (.ref 171), none] []
  have hR0 := hR
  obtain ⟨⟨g1, g2⟩, ⟨g3, g4⟩, g5, g6, g7, g8⟩ := id hG
  obtain ⟨w1, w2, w3, w4, w5, w6, w7, w8, w9, w10, w11⟩ := id wG
  have u1 := wT.1
  have b0 := tok_b (B := B) hq
  have c1 := tok_b (B := B) (n := nn) (q := te B nn q) (by omega)
  have c2 := tok_b (B := B) (n := nn) (q := te B nn (te B nn q)) (by omega)
  have c3 := tok_b (B := B) (n := nn) (q := te B nn (te B nn (te B nn q))) (by omega)
  have c4 := tok_b (B := B) (n := nn) (q := te B nn (te B nn (te B nn (te B nn q)))) (by omega)
  have c5 := tok_b (B := B) (n := nn) (q := te B nn (te B nn (te B nn (te B nn (te B nn q))))) (by omega)
  have hc13 : σ.1 176 0 = (if d 0 10 = 1 then d 8 0 else -1) := by
    split
    · exact (g5.2 (by omega)).1
    · exact g5.1 (by omega)
  refine a_ald0 eX10_fareLine_0 ?_
  refine a_getR 11 176 eX10_fareLine_1 fl_X10_24 rfl rfl sh_171 ((congrFun (congrFun hR _) _).trans rf_171_11) ?_
  refine a_iconst eX10_fareLine_4 ?_
  refine a_iald eX10_fareLine_5 sh_176 rfl (by omega) ?_
  refine a_eqtop (y0 := (if d 0 10 = 1 then d 8 0 else -1)) (by exact hc13) ?_
  refine a_iconst eX10_fareLine_6 ?_
  refine a_icmp_eq 12 eX10_fareLine_7 (by decide) (by split <;> omega) (fun hT7 => ?_) (fun hF7 => ?_)
  · skip
    have hd10 : d 0 10 = 0 := by split at hT7 <;> omega
    refine a_ald0 eX10_fareLine_12 ?_
    refine a_cV0 eX10_fareLine_13 lk_X10_195 mV_X10_leads sh_171 ⟨_, rfl, rfl⟩ mt_X10_leads rfl rfl rfl rfl (c_X10_leads hR hT wT (q := te B nn q) (by omega) hC.1 (fun σ1 f1 hC1 => ?_))
    dsimp only [Option.toList, List.cons_append, List.nil_append]
    have hR1 : σ1.2.2 = RF tw cs := by rw [f1.2.2]; exact hR
    have hR := hR1
    have hT1 := txM_K f1 hT
    refine a_iconst eX10_fareLine_16 ?_
    refine a_ist1 eX10_fareLine_17 (by decide) aw_n2r ?_
    refine a_ild1 eX10_fareLine_18 ?_
    refine a_iconst eX10_fareLine_19 ?_
    refine a_icmp_ge 71 eX10_fareLine_20 (by decide) (by omega) (fun h => absurd h (by decide)) (fun _ => ?_)
    refine a_ald0 eX10_fareLine_23 ?_
    refine a_ild1 eX10_fareLine_24 ?_
    refine a_iconst eX10_fareLine_25 ?_
    refine a_icmp_ne 33 eX10_fareLine_26 (by decide) (by omega) (fun _ => ?_) (fun h => absurd h (by decide))
    refine a_iconst eX10_fareLine_33 ?_
    refine a_ild1 eX10_fareLine_34 ?_
    refine a_iconst eX10_fareLine_35 ?_
    refine a_icmp_ge 45 eX10_fareLine_36 (by decide) (by omega) (fun h => absurd h (by decide)) (fun _ => ?_)
    refine a_sipush eX10_fareLine_39 (by decide) ?_
    refine a_goto 47 eX10_fareLine_42 (by decide) ?_
    refine a_cV2 eX10_fareLine_47 lk_X10_201 mV_X10_number sh_171 ⟨_, rfl, rfl⟩ mt_X10_number rfl rfl rfl rfl rfl rfl (c_X10_number hR hT1 wT (q := te B nn q) (by omega) hC1 (by omega) (fun σ2 f2 hC2 v2 hN0 => ?_) (fun hM0 => ?_))
    · skip
      dsimp only [Option.toList, List.cons_append, List.nil_append]
      refine a_if_ne 55 eX10_fareLine_50 (by decide) (by omega) (fun _ => ?_) (fun h => absurd h (by decide))
      have hR2 : σ2.2.2 = RF tw cs := by rw [f2.2.2]; exact hR
      have hR := hR2
      refine a_ald0 eX10_fareLine_55 ?_
      refine a_getR 11 176 eX10_fareLine_56 fl_X10_24 rfl rfl sh_171 ((congrFun (congrFun hR _) _).trans rf_171_11) ?_
      refine a_ild1 eX10_fareLine_59 ?_
      refine a_ald0 eX10_fareLine_60 ?_
      refine a_getI 44 eX10_fareLine_61 fl_X10_192 rfl rfl sh_171 ?_
      refine a_eqtop (y0 := nv B nn (te B nn q)) (by exact v2) ?_
      refine a_iast eX10_fareLine_64 sh_176 rfl (by omega) ?_
      refine AW.ex (fun s => ((∀ (b : Nat) (j : Int), ¬ (b = 171 ∧ ((2 ≤ j ∧ j ≤ 4) ∨ j = 44)) → ¬ (b = 176) → s.1 b j = σ.1 b j) ∧ (∀ (b : Nat) (j : Int), ¬ (b = 171 ∧ j = 5) → s.2.1 b j = σ.2.1 b j) ∧ s.2.2 = σ.2.2) ∧ tkM s B nn (te B nn (te B nn q)) ∧ s.1 176 0 = nv B nn (te B nn q)) ⟨⟨fun b j z1 z2 => by rw [rd_si_ne z2, f2.1 b j z1]; exact f1.1 b j (by omega), fun b j z => (f2.2.1 b j z).trans (f1.2.1 b j z), f2.2.2.trans f1.2.2⟩, ⟨by rw [rd_si_ne (by omega)]; exact hC2.1, by rw [rd_si_ne (by omega)]; exact hC2.2.1, by rw [rd_si_ne (by omega)]; exact hC2.2.2.1, hC2.2.2.2.1, hC2.2.2.2.2⟩, by rw [rd_si, if_pos (by omega)]⟩ (fun σ3 h3 => ?_)
      obtain ⟨⟨fo, fl, fr⟩, hC3, w0⟩ := h3
      have fT3 : frTxM σ σ3 := ⟨fun b j z1 z2 => fo b j (by omega) (by omega), fun b j z1 z2 => fl b j (by omega), fr⟩
      have hR3 : σ3.2.2 = RF tw cs := by rw [fr]; exact hR0
      have hR := hR3
      have hT3 := txM_T fT3 hT
      refine a_iinc1 eX10_fareLine_65 (by decide) aw_n2r ?_
      refine a_goto 18 eX10_fareLine_68 (by decide) ?_
      refine a_ild1 eX10_fareLine_18 ?_
      refine a_iconst eX10_fareLine_19 ?_
      refine a_icmp_ge 71 eX10_fareLine_20 (by decide) (by omega) (fun h => absurd h (by decide)) (fun _ => ?_)
      refine a_ald0 eX10_fareLine_23 ?_
      refine a_ild1 eX10_fareLine_24 ?_
      refine a_iconst eX10_fareLine_25 ?_
      refine a_icmp_ne 33 eX10_fareLine_26 (by decide) (by omega) (fun _ => ?_) (fun h => absurd h (by decide))
      refine a_iconst eX10_fareLine_33 ?_
      refine a_ild1 eX10_fareLine_34 ?_
      refine a_iconst eX10_fareLine_35 ?_
      refine a_icmp_ge 45 eX10_fareLine_36 (by decide) (by omega) (fun h => absurd h (by decide)) (fun _ => ?_)
      refine a_sipush eX10_fareLine_39 (by decide) ?_
      refine a_goto 47 eX10_fareLine_42 (by decide) ?_
      refine a_cV2 eX10_fareLine_47 lk_X10_201 mV_X10_number sh_171 ⟨_, rfl, rfl⟩ mt_X10_number rfl rfl rfl rfl rfl rfl (c_X10_number hR hT3 wT (q := te B nn (te B nn q)) (by omega) hC3 (by omega) (fun σ4 f4 hC4 v4 hN1 => ?_) (fun hM1 => ?_))
      · skip
        dsimp only [Option.toList, List.cons_append, List.nil_append]
        refine a_if_ne 55 eX10_fareLine_50 (by decide) (by omega) (fun _ => ?_) (fun h => absurd h (by decide))
        have hR4 : σ4.2.2 = RF tw cs := by rw [f4.2.2]; exact hR
        have hR := hR4
        refine a_ald0 eX10_fareLine_55 ?_
        refine a_getR 11 176 eX10_fareLine_56 fl_X10_24 rfl rfl sh_171 ((congrFun (congrFun hR _) _).trans rf_171_11) ?_
        refine a_ild1 eX10_fareLine_59 ?_
        refine a_ald0 eX10_fareLine_60 ?_
        refine a_getI 44 eX10_fareLine_61 fl_X10_192 rfl rfl sh_171 ?_
        refine a_eqtop (y0 := nv B nn (te B nn (te B nn q))) (by exact v4) ?_
        refine a_iast eX10_fareLine_64 sh_176 rfl (by omega) ?_
        refine AW.ex (fun s => ((∀ (b : Nat) (j : Int), ¬ (b = 171 ∧ ((2 ≤ j ∧ j ≤ 4) ∨ j = 44)) → ¬ (b = 176) → s.1 b j = σ.1 b j) ∧ (∀ (b : Nat) (j : Int), ¬ (b = 171 ∧ j = 5) → s.2.1 b j = σ.2.1 b j) ∧ s.2.2 = σ.2.2) ∧ tkM s B nn (te B nn (te B nn (te B nn q))) ∧ s.1 176 0 = nv B nn (te B nn q) ∧ s.1 176 1 = nv B nn (te B nn (te B nn q))) ⟨⟨fun b j z1 z2 => by rw [rd_si_ne z2, f4.1 b j z1]; exact fo b j z1 z2, fun b j z => (f4.2.1 b j z).trans (fl b j z), f4.2.2.trans fr⟩, ⟨by rw [rd_si_ne (by omega)]; exact hC4.1, by rw [rd_si_ne (by omega)]; exact hC4.2.1, by rw [rd_si_ne (by omega)]; exact hC4.2.2.1, hC4.2.2.2.1, hC4.2.2.2.2⟩, by rw [rd_si_ni (by omega), f4.1 _ _ (by omega)]; exact w0, by rw [rd_si, if_pos (by omega)]⟩ (fun σ5 h5 => ?_)
        obtain ⟨⟨fo, fl, fr⟩, hC5, w0, w1⟩ := h5
        have fT5 : frTxM σ σ5 := ⟨fun b j z1 z2 => fo b j (by omega) (by omega), fun b j z1 z2 => fl b j (by omega), fr⟩
        have hR5 : σ5.2.2 = RF tw cs := by rw [fr]; exact hR0
        have hR := hR5
        have hT5 := txM_T fT5 hT
        refine a_iinc1 eX10_fareLine_65 (by decide) aw_n2r ?_
        refine a_goto 18 eX10_fareLine_68 (by decide) ?_
        refine a_ild1 eX10_fareLine_18 ?_
        refine a_iconst eX10_fareLine_19 ?_
        refine a_icmp_ge 71 eX10_fareLine_20 (by decide) (by omega) (fun h => absurd h (by decide)) (fun _ => ?_)
        refine a_ald0 eX10_fareLine_23 ?_
        refine a_ild1 eX10_fareLine_24 ?_
        refine a_iconst eX10_fareLine_25 ?_
        refine a_icmp_ne 33 eX10_fareLine_26 (by decide) (by omega) (fun h => absurd h (by decide)) (fun _ => ?_)
        refine a_iconst eX10_fareLine_29 ?_
        refine a_goto 34 eX10_fareLine_30 (by decide) ?_
        refine a_ild1 eX10_fareLine_34 ?_
        refine a_iconst eX10_fareLine_35 ?_
        refine a_icmp_ge 45 eX10_fareLine_36 (by decide) (by omega) (fun _ => ?_) (fun h => absurd h (by decide))
        refine a_bipush eX10_fareLine_45 (by decide) ?_
        refine a_cV2 eX10_fareLine_47 lk_X10_201 mV_X10_number sh_171 ⟨_, rfl, rfl⟩ mt_X10_number rfl rfl rfl rfl rfl rfl (c_X10_number hR hT5 wT (q := te B nn (te B nn (te B nn q))) (by omega) hC5 (by omega) (fun σ6 f6 hC6 v6 hN2 => ?_) (fun hM2 => ?_))
        · skip
          dsimp only [Option.toList, List.cons_append, List.nil_append]
          refine a_if_ne 55 eX10_fareLine_50 (by decide) (by omega) (fun _ => ?_) (fun h => absurd h (by decide))
          have hR6 : σ6.2.2 = RF tw cs := by rw [f6.2.2]; exact hR
          have hR := hR6
          refine a_ald0 eX10_fareLine_55 ?_
          refine a_getR 11 176 eX10_fareLine_56 fl_X10_24 rfl rfl sh_171 ((congrFun (congrFun hR _) _).trans rf_171_11) ?_
          refine a_ild1 eX10_fareLine_59 ?_
          refine a_ald0 eX10_fareLine_60 ?_
          refine a_getI 44 eX10_fareLine_61 fl_X10_192 rfl rfl sh_171 ?_
          refine a_eqtop (y0 := nv B nn (te B nn (te B nn (te B nn q)))) (by exact v6) ?_
          refine a_iast eX10_fareLine_64 sh_176 rfl (by omega) ?_
          refine AW.ex (fun s => ((∀ (b : Nat) (j : Int), ¬ (b = 171 ∧ ((2 ≤ j ∧ j ≤ 4) ∨ j = 44)) → ¬ (b = 176) → s.1 b j = σ.1 b j) ∧ (∀ (b : Nat) (j : Int), ¬ (b = 171 ∧ j = 5) → s.2.1 b j = σ.2.1 b j) ∧ s.2.2 = σ.2.2) ∧ tkM s B nn (te B nn (te B nn (te B nn (te B nn q)))) ∧ s.1 176 0 = nv B nn (te B nn q) ∧ s.1 176 1 = nv B nn (te B nn (te B nn q)) ∧ s.1 176 2 = nv B nn (te B nn (te B nn (te B nn q)))) ⟨⟨fun b j z1 z2 => by rw [rd_si_ne z2, f6.1 b j z1]; exact fo b j z1 z2, fun b j z => (f6.2.1 b j z).trans (fl b j z), f6.2.2.trans fr⟩, ⟨by rw [rd_si_ne (by omega)]; exact hC6.1, by rw [rd_si_ne (by omega)]; exact hC6.2.1, by rw [rd_si_ne (by omega)]; exact hC6.2.2.1, hC6.2.2.2.1, hC6.2.2.2.2⟩, by rw [rd_si_ni (by omega), f6.1 _ _ (by omega)]; exact w0, by rw [rd_si_ni (by omega), f6.1 _ _ (by omega)]; exact w1, by rw [rd_si, if_pos (by omega)]⟩ (fun σ7 h7 => ?_)
          obtain ⟨⟨fo, fl, fr⟩, hC7, w0, w1, w2⟩ := h7
          have fT7 : frTxM σ σ7 := ⟨fun b j z1 z2 => fo b j (by omega) (by omega), fun b j z1 z2 => fl b j (by omega), fr⟩
          have hR7 : σ7.2.2 = RF tw cs := by rw [fr]; exact hR0
          have hR := hR7
          have hT7 := txM_T fT7 hT
          refine a_iinc1 eX10_fareLine_65 (by decide) aw_n2r ?_
          refine a_goto 18 eX10_fareLine_68 (by decide) ?_
          refine a_ild1 eX10_fareLine_18 ?_
          refine a_iconst eX10_fareLine_19 ?_
          refine a_icmp_ge 71 eX10_fareLine_20 (by decide) (by omega) (fun h => absurd h (by decide)) (fun _ => ?_)
          refine a_ald0 eX10_fareLine_23 ?_
          refine a_ild1 eX10_fareLine_24 ?_
          refine a_iconst eX10_fareLine_25 ?_
          refine a_icmp_ne 33 eX10_fareLine_26 (by decide) (by omega) (fun _ => ?_) (fun h => absurd h (by decide))
          refine a_iconst eX10_fareLine_33 ?_
          refine a_ild1 eX10_fareLine_34 ?_
          refine a_iconst eX10_fareLine_35 ?_
          refine a_icmp_ge 45 eX10_fareLine_36 (by decide) (by omega) (fun _ => ?_) (fun h => absurd h (by decide))
          refine a_bipush eX10_fareLine_45 (by decide) ?_
          refine a_cV2 eX10_fareLine_47 lk_X10_201 mV_X10_number sh_171 ⟨_, rfl, rfl⟩ mt_X10_number rfl rfl rfl rfl rfl rfl (c_X10_number hR hT7 wT (q := te B nn (te B nn (te B nn (te B nn q)))) (by omega) hC7 (by omega) (fun σ8 f8 hC8 v8 hN3 => ?_) (fun hM3 => ?_))
          · skip
            dsimp only [Option.toList, List.cons_append, List.nil_append]
            refine a_if_ne 55 eX10_fareLine_50 (by decide) (by omega) (fun _ => ?_) (fun h => absurd h (by decide))
            have hR8 : σ8.2.2 = RF tw cs := by rw [f8.2.2]; exact hR
            have hR := hR8
            refine a_ald0 eX10_fareLine_55 ?_
            refine a_getR 11 176 eX10_fareLine_56 fl_X10_24 rfl rfl sh_171 ((congrFun (congrFun hR _) _).trans rf_171_11) ?_
            refine a_ild1 eX10_fareLine_59 ?_
            refine a_ald0 eX10_fareLine_60 ?_
            refine a_getI 44 eX10_fareLine_61 fl_X10_192 rfl rfl sh_171 ?_
            refine a_eqtop (y0 := nv B nn (te B nn (te B nn (te B nn (te B nn q))))) (by exact v8) ?_
            refine a_iast eX10_fareLine_64 sh_176 rfl (by omega) ?_
            refine AW.ex (fun s => ((∀ (b : Nat) (j : Int), ¬ (b = 171 ∧ ((2 ≤ j ∧ j ≤ 4) ∨ j = 44)) → ¬ (b = 176) → s.1 b j = σ.1 b j) ∧ (∀ (b : Nat) (j : Int), ¬ (b = 171 ∧ j = 5) → s.2.1 b j = σ.2.1 b j) ∧ s.2.2 = σ.2.2) ∧ tkM s B nn (te B nn (te B nn (te B nn (te B nn (te B nn q))))) ∧ s.1 176 0 = nv B nn (te B nn q) ∧ s.1 176 1 = nv B nn (te B nn (te B nn q)) ∧ s.1 176 2 = nv B nn (te B nn (te B nn (te B nn q))) ∧ s.1 176 3 = nv B nn (te B nn (te B nn (te B nn (te B nn q))))) ⟨⟨fun b j z1 z2 => by rw [rd_si_ne z2, f8.1 b j z1]; exact fo b j z1 z2, fun b j z => (f8.2.1 b j z).trans (fl b j z), f8.2.2.trans fr⟩, ⟨by rw [rd_si_ne (by omega)]; exact hC8.1, by rw [rd_si_ne (by omega)]; exact hC8.2.1, by rw [rd_si_ne (by omega)]; exact hC8.2.2.1, hC8.2.2.2.1, hC8.2.2.2.2⟩, by rw [rd_si_ni (by omega), f8.1 _ _ (by omega)]; exact w0, by rw [rd_si_ni (by omega), f8.1 _ _ (by omega)]; exact w1, by rw [rd_si_ni (by omega), f8.1 _ _ (by omega)]; exact w2, by rw [rd_si, if_pos (by omega)]⟩ (fun σ9 h9 => ?_)
            obtain ⟨⟨fo, fl, fr⟩, hC9, w0, w1, w2, w3⟩ := h9
            have fT9 : frTxM σ σ9 := ⟨fun b j z1 z2 => fo b j (by omega) (by omega), fun b j z1 z2 => fl b j (by omega), fr⟩
            have hR9 : σ9.2.2 = RF tw cs := by rw [fr]; exact hR0
            have hR := hR9
            have hT9 := txM_T fT9 hT
            refine a_iinc1 eX10_fareLine_65 (by decide) aw_n2r ?_
            refine a_goto 18 eX10_fareLine_68 (by decide) ?_
            refine a_ild1 eX10_fareLine_18 ?_
            refine a_iconst eX10_fareLine_19 ?_
            refine a_icmp_ge 71 eX10_fareLine_20 (by decide) (by omega) (fun _ => ?_) (fun h => absurd h (by decide))
            refine a_ald0 eX10_fareLine_71 ?_
            refine a_cV0 eX10_fareLine_72 lk_X10_205 mV_X10_closes sh_171 ⟨_, rfl, rfl⟩ mt_X10_closes rfl rfl rfl rfl (c_X10_closes hR hT9 wT (q := te B nn (te B nn (te B nn (te B nn (te B nn q))))) (by omega) hC9 (fun σ10 f10 hC10 hT72 => ?_) (fun hF72 => ?_))
            · skip
              dsimp only [Option.toList, List.cons_append, List.nil_append]
              refine a_zret eX10_fareLine_75 rfl (by first | exact Or.inl rfl | exact Or.inr rfl | omega) rfl ⟨Nat.zero_le _, Nat.zero_le _⟩ ?_
              refine hk1 σ10 _ (faD B nn d (te B nn q)) (frTxM_tr fT9 (frNM_T (frNM_K f10))) ?_ (drM_faD hG (fun b j z1 z2 => (f10.1 b j (by omega)).trans (fo b j z1 z2)) (fun j => (f10.2.1 _ _ (by omega)).trans (fl _ _ (by omega))) (by rw [f10.1 _ _ (by omega)]; exact w0) (by rw [f10.1 _ _ (by omega)]; exact w1) (by rw [f10.1 _ _ (by omega)]; exact w2) (by rw [f10.1 _ _ (by omega)]; exact w3)) hC10
              unfold faP
              rw [cif_n (by omega), cif_n (fun z => z hN0), cif_n (fun z => z hN1), cif_n (fun z => z hN2), cif_n (fun z => z hN3), cif_n (fun z => z hT72)]
            · skip
              dsimp only [Option.toList, List.cons_append, List.nil_append]
              refine a_zret eX10_fareLine_75 rfl (by first | exact Or.inl rfl | exact Or.inr rfl | omega) rfl ⟨Nat.zero_le _, Nat.zero_le _⟩ ?_
              refine hk0 σ9 fT9 ?_
              unfold faP
              rw [cif_n (by omega), cif_n (fun z => z hN0), cif_n (fun z => z hN1), cif_n (fun z => z hN2), cif_n (fun z => z hN3), cif_y hF72, hC9.2.1]
          · skip
            dsimp only [Option.toList, List.cons_append, List.nil_append]
            refine a_if_ne 55 eX10_fareLine_50 (by decide) (by omega) (fun h => absurd h (by decide)) (fun _ => ?_)
            refine a_iconst eX10_fareLine_53 ?_
            refine a_zret eX10_fareLine_54 rfl (by first | exact Or.inl rfl | exact Or.inr rfl | omega) rfl ⟨Nat.zero_le _, Nat.zero_le _⟩ ?_
            refine hk0 σ7 fT7 ?_
            unfold faP
            rw [cif_n (by omega), cif_n (fun z => z hN0), cif_n (fun z => z hN1), cif_n (fun z => z hN2), cif_y hM3, hC7.2.1]
        · skip
          dsimp only [Option.toList, List.cons_append, List.nil_append]
          refine a_if_ne 55 eX10_fareLine_50 (by decide) (by omega) (fun h => absurd h (by decide)) (fun _ => ?_)
          refine a_iconst eX10_fareLine_53 ?_
          refine a_zret eX10_fareLine_54 rfl (by first | exact Or.inl rfl | exact Or.inr rfl | omega) rfl ⟨Nat.zero_le _, Nat.zero_le _⟩ ?_
          refine hk0 σ5 fT5 ?_
          unfold faP
          rw [cif_n (by omega), cif_n (fun z => z hN0), cif_n (fun z => z hN1), cif_y hM2, hC5.2.1]
      · skip
        dsimp only [Option.toList, List.cons_append, List.nil_append]
        refine a_if_ne 55 eX10_fareLine_50 (by decide) (by omega) (fun h => absurd h (by decide)) (fun _ => ?_)
        refine a_iconst eX10_fareLine_53 ?_
        refine a_zret eX10_fareLine_54 rfl (by first | exact Or.inl rfl | exact Or.inr rfl | omega) rfl ⟨Nat.zero_le _, Nat.zero_le _⟩ ?_
        refine hk0 σ3 fT3 ?_
        unfold faP
        rw [cif_n (by omega), cif_n (fun z => z hN0), cif_y hM1, hC3.2.1]
    · skip
      dsimp only [Option.toList, List.cons_append, List.nil_append]
      refine a_if_ne 55 eX10_fareLine_50 (by decide) (by omega) (fun h => absurd h (by decide)) (fun _ => ?_)
      refine a_iconst eX10_fareLine_53 ?_
      refine a_zret eX10_fareLine_54 rfl (by first | exact Or.inl rfl | exact Or.inr rfl | omega) rfl ⟨Nat.zero_le _, Nat.zero_le _⟩ ?_
      refine hk0 σ1 (frNM_T (frNM_K f1)) ?_
      unfold faP
      rw [cif_n (by omega), cif_y hM0, hC1.2.1]
  · skip
    refine a_iconst eX10_fareLine_10 ?_
    refine a_zret eX10_fareLine_11 rfl (by first | exact Or.inl rfl | exact Or.inr rfl | omega) rfl ⟨Nat.zero_le _, Nat.zero_le _⟩ ?_
    refine hk0 σ (frTxM_rf σ) ?_
    unfold faP
    rw [cif_y (by split at hF7 <;> omega), hC.2.1]
