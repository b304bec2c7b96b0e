set_option maxHeartbeats 4000000 in
set_option maxRecDepth 100000 in
theorem c_X10_line {l : Launch} {σ : aw_S} {Post : Option Value → aw_S → Prop} {tw cs : Bool} (hR : σ.2.2 = RF tw cs) {B : Int → Int} {nn : Int} (hT : txM σ B nn) (wT : wfTx B nn) {d : mS} {q : Int} (hG : drM σ B d) (wG : wfDr B nn d) (hq : 0 ≤ q ∧ q ≤ nn) (hC : tkM σ B nn q) (hk0 : ∀ σ', frTxM σ σ' → stP B nn d q = .inl (σ'.1 171 4) → Post (some (.int (jI 0))) σ') (hk1 : ∀ σ' p' d', frTxM σ σ' → stP B nn d q = .inr (p', d') → drM σ' B d' → tkM σ' B nn p' → Post (some (.int (jI 1))) σ')  : AE l yX10_line cX10_line 1 (some .boolean) 10 214 0 0 SH SH σ [.ref 171] Post := by
  show AW l yX10_line cX10_line 1 (some .boolean) 10 214 0 0 SH Post SH 0 0 σ 0 [some (.ref 171)] []
  refine a_ald0 eX10_line_0 ?_
  refine a_ldcS (i := 0) (tx := "rank") eX10_line_1 (List.mem_of_getElem? (i := 5) rfl) ?_
  refine a_cV1 eX10_line_3 lk_X10_174 mV_X10_isWord sh_171 ⟨_, rfl, rfl⟩ mt_X10_isWord rfl rfl rfl rfl rfl (c_X10_isWord (i := 0) hR (by decide) hq hC (fun hT3 => ?_) (fun hF3 => ?_))
  · skip
    dsimp only [Option.toList, List.cons_append, List.nil_append]
    refine a_if_eq 14 eX10_line_6 (by decide) (by omega) (fun h => absurd h (by decide)) (fun _ => ?_)
    refine a_ald0 eX10_line_9 ?_
    refine a_cV0 eX10_line_10 lk_X10_214 mV_X10_rankLine sh_171 ⟨_, rfl, rfl⟩ mt_X10_rankLine rfl rfl rfl rfl (c_X10_rankLine hR hT wT hG wG hq hC (fun σ1 f1 hp1 => ?_) (fun σ1 p1 d1 f1 hp1 hG1 hC1 => ?_))
    · skip
      dsimp only [Option.toList, List.cons_append, List.nil_append]
      refine a_zret eX10_line_13 rfl (by first | exact Or.inl rfl | exact Or.inr rfl | omega) rfl ⟨Nat.zero_le _, Nat.zero_le _⟩ ?_
      exact hk0 σ1 f1 (by unfold stP; rw [cif_y hT3]; exact hp1)
    · skip
      dsimp only [Option.toList, List.cons_append, List.nil_append]
      refine a_zret eX10_line_13 rfl (by first | exact Or.inl rfl | exact Or.inr rfl | omega) rfl ⟨Nat.zero_le _, Nat.zero_le _⟩ ?_
      exact hk1 σ1 p1 d1 f1 (by unfold stP; rw [cif_y hT3]; exact hp1) hG1 hC1
  · skip
    dsimp only [Option.toList, List.cons_append, List.nil_append]
    refine a_if_eq 14 eX10_line_6 (by decide) (by omega) (fun _ => ?_) (fun h => absurd h (by decide))
    refine a_ald0 eX10_line_14 ?_
    refine a_ldcS (i := 1) (tx := "let") eX10_line_15 (List.mem_of_getElem? (i := 6) rfl) ?_
    refine a_cV1 eX10_line_17 lk_X10_174 mV_X10_isWord sh_171 ⟨_, rfl, rfl⟩ mt_X10_isWord rfl rfl rfl rfl rfl (c_X10_isWord (i := 1) hR (by decide) hq hC (fun hT17 => ?_) (fun hF17 => ?_))
    · skip
      dsimp only [Option.toList, List.cons_append, List.nil_append]
      refine a_if_eq 28 eX10_line_20 (by decide) (by omega) (fun h => absurd h (by decide)) (fun _ => ?_)
      refine a_ald0 eX10_line_23 ?_
      refine a_cV0 eX10_line_24 lk_X10_217 mV_X10_letLine sh_171 ⟨_, rfl, rfl⟩ mt_X10_letLine rfl rfl rfl rfl (c_X10_letLine hR hT wT hG wG hq hC (fun σ1 f1 hp1 => ?_) (fun σ1 p1 d1 f1 hp1 hG1 hC1 => ?_))
      · skip
        dsimp only [Option.toList, List.cons_append, List.nil_append]
        refine a_zret eX10_line_27 rfl (by first | exact Or.inl rfl | exact Or.inr rfl | omega) rfl ⟨Nat.zero_le _, Nat.zero_le _⟩ ?_
        exact hk0 σ1 f1 (by unfold stP; rw [cif_n hF3, cif_y hT17]; exact hp1)
      · skip
        dsimp only [Option.toList, List.cons_append, List.nil_append]
        refine a_zret eX10_line_27 rfl (by first | exact Or.inl rfl | exact Or.inr rfl | omega) rfl ⟨Nat.zero_le _, Nat.zero_le _⟩ ?_
        exact hk1 σ1 p1 d1 f1 (by unfold stP; rw [cif_n hF3, cif_y hT17]; exact hp1) hG1 hC1
    · skip
      dsimp only [Option.toList, List.cons_append, List.nil_append]
      refine a_if_eq 28 eX10_line_20 (by decide) (by omega) (fun _ => ?_) (fun h => absurd h (by decide))
      refine a_ald0 eX10_line_28 ?_
      refine a_ldcS (i := 2) (tx := "fare") eX10_line_29 (List.mem_of_getElem? (i := 7) rfl) ?_
      refine a_cV1 eX10_line_31 lk_X10_174 mV_X10_isWord sh_171 ⟨_, rfl, rfl⟩ mt_X10_isWord rfl rfl rfl rfl rfl (c_X10_isWord (i := 2) hR (by decide) hq hC (fun hT31 => ?_) (fun hF31 => ?_))
      · skip
        dsimp only [Option.toList, List.cons_append, List.nil_append]
        refine a_if_eq 42 eX10_line_34 (by decide) (by omega) (fun h => absurd h (by decide)) (fun _ => ?_)
        refine a_ald0 eX10_line_37 ?_
        refine a_cV0 eX10_line_38 lk_X10_220 mV_X10_fareLine sh_171 ⟨_, rfl, rfl⟩ mt_X10_fareLine rfl rfl rfl rfl (c_X10_fareLine hR hT wT hG wG hq hC (fun σ1 f1 hp1 => ?_) (fun σ1 p1 d1 f1 hp1 hG1 hC1 => ?_))
        · skip
          dsimp only [Option.toList, List.cons_append, List.nil_append]
          refine a_zret eX10_line_41 rfl (by first | exact Or.inl rfl | exact Or.inr rfl | omega) rfl ⟨Nat.zero_le _, Nat.zero_le _⟩ ?_
          exact hk0 σ1 f1 (by unfold stP; rw [cif_n hF3, cif_n hF17, cif_y hT31]; exact hp1)
        · skip
          dsimp only [Option.toList, List.cons_append, List.nil_append]
          refine a_zret eX10_line_41 rfl (by first | exact Or.inl rfl | exact Or.inr rfl | omega) rfl ⟨Nat.zero_le _, Nat.zero_le _⟩ ?_
          exact hk1 σ1 p1 d1 f1 (by unfold stP; rw [cif_n hF3, cif_n hF17, cif_y hT31]; exact hp1) hG1 hC1
      · skip
        dsimp only [Option.toList, List.cons_append, List.nil_append]
        refine a_if_eq 42 eX10_line_34 (by decide) (by omega) (fun _ => ?_) (fun h => absurd h (by decide))
        refine a_ald0 eX10_line_42 ?_
        refine a_ldcS (i := 3) (tx := "short") eX10_line_43 (List.mem_of_getElem? (i := 8) rfl) ?_
        refine a_cV1 eX10_line_45 lk_X10_174 mV_X10_isWord sh_171 ⟨_, rfl, rfl⟩ mt_X10_isWord rfl rfl rfl rfl rfl (c_X10_isWord (i := 3) hR (by decide) hq hC (fun hT45 => ?_) (fun hF45 => ?_))
        · skip
          dsimp only [Option.toList, List.cons_append, List.nil_append]
          refine a_if_eq 56 eX10_line_48 (by decide) (by omega) (fun h => absurd h (by decide)) (fun _ => ?_)
          refine a_ald0 eX10_line_51 ?_
          refine a_cV0 eX10_line_52 lk_X10_223 mV_X10_shortLine sh_171 ⟨_, rfl, rfl⟩ mt_X10_shortLine rfl rfl rfl rfl (c_X10_shortLine hR hT wT hG wG hq hC (fun σ1 f1 hp1 => ?_) (fun σ1 p1 d1 f1 hp1 hG1 hC1 => ?_))
          · skip
            dsimp only [Option.toList, List.cons_append, List.nil_append]
            refine a_zret eX10_line_55 rfl (by first | exact Or.inl rfl | exact Or.inr rfl | omega) rfl ⟨Nat.zero_le _, Nat.zero_le _⟩ ?_
            exact hk0 σ1 f1 (by unfold stP; rw [cif_n hF3, cif_n hF17, cif_n hF31, cif_y hT45]; exact hp1)
          · skip
            dsimp only [Option.toList, List.cons_append, List.nil_append]
            refine a_zret eX10_line_55 rfl (by first | exact Or.inl rfl | exact Or.inr rfl | omega) rfl ⟨Nat.zero_le _, Nat.zero_le _⟩ ?_
            exact hk1 σ1 p1 d1 f1 (by unfold stP; rw [cif_n hF3, cif_n hF17, cif_n hF31, cif_y hT45]; exact hp1) hG1 hC1
        · skip
          dsimp only [Option.toList, List.cons_append, List.nil_append]
          refine a_if_eq 56 eX10_line_48 (by decide) (by omega) (fun _ => ?_) (fun h => absurd h (by decide))
          refine a_ald0 eX10_line_56 ?_
          refine a_ldcS (i := 4) (tx := "coin") eX10_line_57 (List.mem_of_getElem? (i := 9) rfl) ?_
          refine a_cV1 eX10_line_59 lk_X10_174 mV_X10_isWord sh_171 ⟨_, rfl, rfl⟩ mt_X10_isWord rfl rfl rfl rfl rfl (c_X10_isWord (i := 4) hR (by decide) hq hC (fun hT59 => ?_) (fun hF59 => ?_))
          · skip
            dsimp only [Option.toList, List.cons_append, List.nil_append]
            refine a_if_eq 76 eX10_line_62 (by decide) (by omega) (fun h => absurd h (by decide)) (fun _ => ?_)
            refine a_ald0 eX10_line_65 ?_
            refine a_cV0 eX10_line_66 lk_X10_226 mV_X10_coinLine sh_171 ⟨_, rfl, rfl⟩ mt_X10_coinLine rfl rfl rfl rfl (c_X10_coinLine hR hT wT hG wG hq hC (fun σ1 f1 hp1 => ?_) (fun σ1 p1 d1 f1 hp1 hG1 hC1 => ?_))
            · skip
              dsimp only [Option.toList, List.cons_append, List.nil_append]
              refine a_if_eq 76 eX10_line_69 (by decide) (by omega) (fun _ => ?_) (fun h => absurd h (by decide))
              refine a_iconst eX10_line_76 ?_
              refine a_zret eX10_line_77 rfl (by first | exact Or.inl rfl | exact Or.inr rfl | omega) rfl ⟨Nat.zero_le _, Nat.zero_le _⟩ ?_
              first
                | exact hk0 σ1 f1 (by unfold stP; rw [cif_n hF3, cif_n hF17, cif_n hF31, cif_n hF45, cif_y hT59]; exact hp1)
                | (refine hk0 σ (frTxM_rf σ) ?_
                   unfold stP
                   rw [cif_n hF3, cif_n hF17, cif_n hF31, cif_n hF45, cif_n hF59, hC.2.1])
            · skip
              dsimp only [Option.toList, List.cons_append, List.nil_append]
              refine a_if_eq 76 eX10_line_69 (by decide) (by omega) (fun h => absurd h (by decide)) (fun _ => ?_)
              refine a_iconst eX10_line_72 ?_
              refine a_goto 77 eX10_line_73 (by decide) ?_
              refine a_zret eX10_line_77 rfl (by first | exact Or.inl rfl | exact Or.inr rfl | omega) rfl ⟨Nat.zero_le _, Nat.zero_le _⟩ ?_
              exact hk1 σ1 p1 d1 f1 (by unfold stP; rw [cif_n hF3, cif_n hF17, cif_n hF31, cif_n hF45, cif_y hT59]; exact hp1) hG1 hC1
          · skip
            dsimp only [Option.toList, List.cons_append, List.nil_append]
            refine a_if_eq 76 eX10_line_62 (by decide) (by omega) (fun _ => ?_) (fun h => absurd h (by decide))
            refine a_iconst eX10_line_76 ?_
            refine a_zret eX10_line_77 rfl (by first | exact Or.inl rfl | exact Or.inr rfl | omega) rfl ⟨Nat.zero_le _, Nat.zero_le _⟩ ?_
            first
              | exact hk0 σ1 f1 (by unfold stP; rw [cif_n hF3, cif_n hF17, cif_n hF31, cif_n hF45, cif_y hT59]; exact hp1)
              | (refine hk0 σ (frTxM_rf σ) ?_
                 unfold stP
                 rw [cif_n hF3, cif_n hF17, cif_n hF31, cif_n hF45, cif_n hF59, hC.2.1])

set_option maxHeartbeats 4000000 in
set_option maxRecDepth 100000 in
theorem lp_ft {l : Launch} {σ : aw_S} {Post : Option Value → aw_S → Prop} {tw cs : Bool} (hR : σ.2.2 = RF tw cs) {B : Int → Int} {nn : Int} (hT : txM σ B nn) (wT : wfTx B nn) (hk : ∀ σ', frTxM σ σ' → ((flt B nn).1 = -1 → drM σ' B (flt B nn).2) → Post (some (.int (jI (flt B nn).1))) σ')  : ∀ (n : Nat) (f : Nat) (d : mS) (q : Int) (σ1 : aw_S), (f ≤ n) → (nn + 1 ≤ (f : Int) + q) → (0 ≤ q ∧ q ≤ nn) → (frTxM σ σ1) → (tkM σ1 B nn q) → (drM σ1 B d) → (wfDr B nn d) → (flF B nn f d q = flt B nn) → AW l yX10_fault cX10_fault 1 (some .int) 11 234 0 0 SH Post SH 0 0 (σ1) 38 [some (.ref 171)] [] := by
  intro n
  induction n with
  | zero =>
    intro f d q σ1 hm hf hq f1 hC hG wG hfl
    have hR0 : σ1.2.2 = RF tw cs := by rw [f1.2.2]; exact hR
    have hR := hR0
    have hT1 := txM_T f1 hT
    have w1 := wG.1
    have w9 := wG.2.2.2.2.2.2.2.2.1.1
    have u1 := wT.1
    have w6 := wG.2.2.2.2.2.1
    obtain ⟨k1, k2, k3, k4, k5⟩ := id hC
    have b0 := tok_b (B := B) hq
    have h35 : (if tkd B nn q = 5 then 0 else tkd B nn q) = 1 ↔ tkd B nn q = 1 := by split <;> omega
    have h32 : (if tkd B nn q = 5 then 0 else tkd B nn q) = 2 ↔ tkd B nn q = 2 := by split <;> omega
    have h33 : (if tkd B nn q = 5 then 0 else tkd B nn q) = 3 ↔ tkd B nn q = 3 := by split <;> omega
    have h3b : 0 ≤ (if tkd B nn q = 5 then 0 else tkd B nn q) ∧ (if tkd B nn q = 5 then 0 else tkd B nn q) ≤ 4 := by split <;> omega
    obtain ⟨K3, hK3⟩ : ∃ K, K = (if tkd B nn q = 5 then 0 else tkd B nn q) := ⟨_, rfl⟩
    rw [← hK3] at k3 h35 h32 h33 h3b
    have h30 : K3 = 0 ↔ tkd B nn q = 5 := by rw [hK3]; split <;> omega
    refine a_ald0 eX10_fault_38 ?_
    refine a_getI 3 eX10_fault_39 fl_X10_142 rfl rfl sh_171 ?_
    refine a_eqtop (y0 := K3) (by exact k3) ?_
    refine a_if_eq 57 eX10_fault_42 (by decide) (by omega) (fun hT42 => ?_) (fun hF42 => ?_)
    · skip
      have ht5 := h30.mp (by omega)
      have hf10 : σ1.1 176 0 = (if d 0 10 = 1 then d 8 0 else -1) := by
        split
        · exact (hG.2.2.1.2 (by omega)).1
        · exact hG.2.2.1.1 (by omega)
      refine a_ald0 eX10_fault_57 ?_
      refine a_getI 6 eX10_fault_58 fl_X10_185 rfl rfl sh_171 ?_
      refine a_eqtop (y0 := d 0 0) (by exact hG.1.1) ?_
      refine a_if_eq 74 eX10_fault_61 (by decide) (by omega) (fun hT61 => ?_) (fun hF61 => ?_)
      · skip
        refine a_ald0 eX10_fault_74 ?_
        refine a_getI 4 eX10_fault_75 fl_X10_135 rfl rfl sh_171 ?_
        refine a_eqtop (y0 := nn) (by rw [k2]; omega) ?_
        refine a_goto 82 eX10_fault_78 (by decide) ?_
        refine a_iret eX10_fault_82 rfl rfl ⟨Nat.zero_le _, Nat.zero_le _⟩ ?_
        obtain ⟨f', rfl⟩ : ∃ f', f = f' + 1 := ⟨f - 1, by omega⟩
        rw [flF_e ht5, cif_n (by first | omega | (split at hF71 <;> omega))] at hfl
        rw [← hfl] at hk
        exact hk σ1 f1 (fun z => absurd z (by show nn ≠ -1; omega))
      · skip
        refine a_ald0 eX10_fault_64 ?_
        refine a_getR 11 176 eX10_fault_65 fl_X10_24 rfl rfl sh_171 ((congrFun (congrFun hR _) _).trans rf_171_11) ?_
        refine a_iconst eX10_fault_68 ?_
        refine a_iald eX10_fault_69 sh_176 rfl (by omega) ?_
        refine a_eqtop (y0 := (if d 0 10 = 1 then d 8 0 else -1)) (by exact hf10) ?_
        refine a_iconst eX10_fault_70 ?_
        refine a_icmp_ne 81 eX10_fault_71 (by decide) (by split <;> omega) (fun hT71 => ?_) (fun hF71 => ?_)
        · skip
          refine a_iconst eX10_fault_81 ?_
          refine a_iret eX10_fault_82 rfl rfl ⟨Nat.zero_le _, Nat.zero_le _⟩ ?_
          obtain ⟨f', rfl⟩ : ∃ f', f = f' + 1 := ⟨f - 1, by omega⟩
          rw [flF_e ht5, cif_y (by split at hT71 <;> omega)] at hfl
          rw [← hfl] at hk
          exact hk σ1 f1 (fun _ => hG)
        · skip
          refine a_ald0 eX10_fault_74 ?_
          refine a_getI 4 eX10_fault_75 fl_X10_135 rfl rfl sh_171 ?_
          refine a_eqtop (y0 := nn) (by rw [k2]; omega) ?_
          refine a_goto 82 eX10_fault_78 (by decide) ?_
          refine a_iret eX10_fault_82 rfl rfl ⟨Nat.zero_le _, Nat.zero_le _⟩ ?_
          obtain ⟨f', rfl⟩ : ∃ f', f = f' + 1 := ⟨f - 1, by omega⟩
          rw [flF_e ht5, cif_n (by first | omega | (split at hF71 <;> omega))] at hfl
          rw [← hfl] at hk
          exact hk σ1 f1 (fun z => absurd z (by show nn ≠ -1; omega))
    · skip
      exfalso; omega
  | succ n ih =>
    intro f d q σ1 hm hf hq f1 hC hG wG hfl
    have hR0 : σ1.2.2 = RF tw cs := by rw [f1.2.2]; exact hR
    have hR := hR0
    have hT1 := txM_T f1 hT
    have w1 := wG.1
    have w9 := wG.2.2.2.2.2.2.2.2.1.1
    have u1 := wT.1
    have w6 := wG.2.2.2.2.2.1
    obtain ⟨k1, k2, k3, k4, k5⟩ := id hC
    have b0 := tok_b (B := B) hq
    have h35 : (if tkd B nn q = 5 then 0 else tkd B nn q) = 1 ↔ tkd B nn q = 1 := by split <;> omega
    have h32 : (if tkd B nn q = 5 then 0 else tkd B nn q) = 2 ↔ tkd B nn q = 2 := by split <;> omega
    have h33 : (if tkd B nn q = 5 then 0 else tkd B nn q) = 3 ↔ tkd B nn q = 3 := by split <;> omega
    have h3b : 0 ≤ (if tkd B nn q = 5 then 0 else tkd B nn q) ∧ (if tkd B nn q = 5 then 0 else tkd B nn q) ≤ 4 := by split <;> omega
    obtain ⟨K3, hK3⟩ : ∃ K, K = (if tkd B nn q = 5 then 0 else tkd B nn q) := ⟨_, rfl⟩
    rw [← hK3] at k3 h35 h32 h33 h3b
    have h30 : K3 = 0 ↔ tkd B nn q = 5 := by rw [hK3]; split <;> omega
    refine a_ald0 eX10_fault_38 ?_
    refine a_getI 3 eX10_fault_39 fl_X10_142 rfl rfl sh_171 ?_
    refine a_eqtop (y0 := K3) (by exact k3) ?_
    refine a_if_eq 57 eX10_fault_42 (by decide) (by omega) (fun hT42 => ?_) (fun hF42 => ?_)
    · skip
      have ht5 := h30.mp (by omega)
      have hf10 : σ1.1 176 0 = (if d 0 10 = 1 then d 8 0 else -1) := by
        split
        · exact (hG.2.2.1.2 (by omega)).1
        · exact hG.2.2.1.1 (by omega)
      refine a_ald0 eX10_fault_57 ?_
      refine a_getI 6 eX10_fault_58 fl_X10_185 rfl rfl sh_171 ?_
      refine a_eqtop (y0 := d 0 0) (by exact hG.1.1) ?_
      refine a_if_eq 74 eX10_fault_61 (by decide) (by omega) (fun hT61 => ?_) (fun hF61 => ?_)
      · skip
        refine a_ald0 eX10_fault_74 ?_
        refine a_getI 4 eX10_fault_75 fl_X10_135 rfl rfl sh_171 ?_
        refine a_eqtop (y0 := nn) (by rw [k2]; omega) ?_
        refine a_goto 82 eX10_fault_78 (by decide) ?_
        refine a_iret eX10_fault_82 rfl rfl ⟨Nat.zero_le _, Nat.zero_le _⟩ ?_
        obtain ⟨f', rfl⟩ : ∃ f', f = f' + 1 := ⟨f - 1, by omega⟩
        rw [flF_e ht5, cif_n (by first | omega | (split at hF71 <;> omega))] at hfl
        rw [← hfl] at hk
        exact hk σ1 f1 (fun z => absurd z (by show nn ≠ -1; omega))
      · skip
        refine a_ald0 eX10_fault_64 ?_
        refine a_getR 11 176 eX10_fault_65 fl_X10_24 rfl rfl sh_171 ((congrFun (congrFun hR _) _).trans rf_171_11) ?_
        refine a_iconst eX10_fault_68 ?_
        refine a_iald eX10_fault_69 sh_176 rfl (by omega) ?_
        refine a_eqtop (y0 := (if d 0 10 = 1 then d 8 0 else -1)) (by exact hf10) ?_
        refine a_iconst eX10_fault_70 ?_
        refine a_icmp_ne 81 eX10_fault_71 (by decide) (by split <;> omega) (fun hT71 => ?_) (fun hF71 => ?_)
        · skip
          refine a_iconst eX10_fault_81 ?_
          refine a_iret eX10_fault_82 rfl rfl ⟨Nat.zero_le _, Nat.zero_le _⟩ ?_
          obtain ⟨f', rfl⟩ : ∃ f', f = f' + 1 := ⟨f - 1, by omega⟩
          rw [flF_e ht5, cif_y (by split at hT71 <;> omega)] at hfl
          rw [← hfl] at hk
          exact hk σ1 f1 (fun _ => hG)
        · skip
          refine a_ald0 eX10_fault_74 ?_
          refine a_getI 4 eX10_fault_75 fl_X10_135 rfl rfl sh_171 ?_
          refine a_eqtop (y0 := nn) (by rw [k2]; omega) ?_
          refine a_goto 82 eX10_fault_78 (by decide) ?_
          refine a_iret eX10_fault_82 rfl rfl ⟨Nat.zero_le _, Nat.zero_le _⟩ ?_
          obtain ⟨f', rfl⟩ : ∃ f', f = f' + 1 := ⟨f - 1, by omega⟩
          rw [flF_e ht5, cif_n (by first | omega | (split at hF71 <;> omega))] at hfl
          rw [← hfl] at hk
          exact hk σ1 f1 (fun z => absurd z (by show nn ≠ -1; omega))
    · skip
      have hn5 : tkd B nn q ≠ 5 := fun z => by have := h30.mpr z; omega
      refine a_ald0 eX10_fault_45 ?_
      refine a_cV0 eX10_fault_46 lk_X10_229 mV_X10_line sh_171 ⟨_, rfl, rfl⟩ mt_X10_line rfl rfl rfl rfl (c_X10_line hR hT1 wT hG wG hq hC (fun σ3 f3 hp3 => ?_) (fun σ3 p3 d3 f3 hp3 hG3 hC3 => ?_))
      · skip
        dsimp only [Option.toList, List.cons_append, List.nil_append]
        have hR3 : σ3.2.2 = RF tw cs := by rw [f3.2.2]; exact hR
        have hR := hR3
        refine a_if_ne 38 eX10_fault_49 (by decide) (by omega) (fun h => absurd h (by decide)) (fun _ => ?_)
        refine a_ald0 eX10_fault_52 ?_
        refine a_getI 4 eX10_fault_53 fl_X10_135 rfl rfl sh_171 ?_
        refine a_iret eX10_fault_56 rfl rfl ⟨Nat.zero_le _, Nat.zero_le _⟩ ?_
        obtain ⟨f', rfl⟩ : ∃ f', f = f' + 1 := ⟨f - 1, by omega⟩
        rw [flF_f hn5 hp3] at hfl
        rw [← hfl] at hk
        refine hk σ3 (frTxM_tr f1 f3) (fun z => ?_)
        exfalso
        have hst := stP_l (B := B) (n := nn) (d := d) (q := q) hq hp3
        have z' : σ3.1 171 4 = -1 := z
        omega
      · skip
        dsimp only [Option.toList, List.cons_append, List.nil_append]
        have hR3 : σ3.2.2 = RF tw cs := by rw [f3.2.2]; exact hR
        have hR := hR3
        refine a_if_ne 38 eX10_fault_49 (by decide) (by omega) (fun _ => ?_) (fun h => absurd h (by decide))
        obtain ⟨f', rfl⟩ : ∃ f', f = f' + 1 := ⟨f - 1, by omega⟩
        rw [flF_s hn5 hp3] at hfl
        have hpp := stP_p (B := B) hq (by omega) hp3
        exact ih f' d3 p3 σ3 (by omega) (by omega) (by omega) (frTxM_tr f1 f3) hC3 hG3 (stP_wf hq wG hp3) hfl

set_option maxHeartbeats 4000000 in
set_option maxRecDepth 100000 in
theorem c_X10_fault {l : Launch} {σ : aw_S} {Post : Option Value → aw_S → Prop} {tw cs : Bool} (hR : σ.2.2 = RF tw cs) {B : Int → Int} {nn : Int} (hT : txM σ B nn) (wT : wfTx B nn) (hk : ∀ σ', frTxM σ σ' → ((flt B nn).1 = -1 → drM σ' B (flt B nn).2) → Post (some (.int (jI (flt B nn).1))) σ')  : AE l yX10_fault cX10_fault 1 (some .int) 11 234 0 0 SH SH σ [.ref 171] Post := by
  show AW l yX10_fault cX10_fault 1 (some .int) 11 234 0 0 SH Post SH 0 0 σ 0 [some (.ref 171)] []
  have u1 := wT.1
  have hR0 := hR
  refine a_ald0 eX10_fault_0 ?_
  refine a_iconst eX10_fault_1 ?_
  refine a_putI 6 eX10_fault_2 fl_X10_185 rfl rfl sh_171 (fun q h => Or.inl (by cases h; rfl)) ?_
  refine a_ald0 eX10_fault_5 ?_
  refine a_iconst eX10_fault_6 ?_
  refine a_putI 9 eX10_fault_7 fl_X10_208 rfl rfl sh_171 (fun q h => Or.inl (by cases h; rfl)) ?_
  refine a_ald0 eX10_fault_10 ?_
  refine a_getR 11 176 eX10_fault_11 fl_X10_24 rfl rfl sh_171 ((congrFun (congrFun hR _) _).trans rf_171_11) ?_
  refine a_iconst eX10_fault_14 ?_
  refine a_iconst eX10_fault_15 ?_
  refine a_iast eX10_fault_16 sh_176 rfl (by omega) ?_
  refine a_ald0 eX10_fault_17 ?_
  refine a_getR 12 177 eX10_fault_18 fl_X10_27 rfl rfl sh_171 ((congrFun (congrFun hR _) _).trans rf_171_12) ?_
  refine a_iconst eX10_fault_21 ?_
  refine a_iconst eX10_fault_22 ?_
  refine a_iast eX10_fault_23 sh_177 rfl (by omega) ?_
  refine a_ald0 eX10_fault_24 ?_
  refine a_iconst eX10_fault_25 ?_
  refine a_putI 13 eX10_fault_26 fl_X10_211 rfl rfl sh_171 (fun q h => Or.inl (by cases h; rfl)) ?_
  refine a_ald0 eX10_fault_29 ?_
  refine a_iconst eX10_fault_30 ?_
  refine a_putI 2 eX10_fault_31 fl_X10_132 rfl rfl sh_171 (fun q h => Or.inl (by cases h; rfl)) ?_
  refine AW.ex (fun s => (frTxM σ s ∧ s.1 171 2 = 0) ∧ (s.1 171 6 = 0 ∧ s.1 171 9 = 0 ∧ s.1 176 0 = -1 ∧ s.1 177 0 = -1 ∧ s.1 171 13 = -1)) ⟨⟨⟨fun b j z1 z2 => ?_, fun _ _ _ _ => rfl, rfl⟩, rd_si_eq⟩, ?_, ?_, ?_, ?_, ?_⟩ (fun σ2 h2 => ?_)
  · rw [rd_si, if_neg (by omega), rd_si, if_neg (by omega), rd_si, if_neg (by omega), rd_si, if_neg (by omega), rd_si, if_neg (by omega), rd_si, if_neg (by omega)]
  · rw [rd_si_ni (by omega), rd_si_ni (by omega), rd_si_ne (by omega), rd_si_ne (by omega), rd_si_ni (by omega), rd_si_eq]
  · rw [rd_si_ni (by omega), rd_si_ni (by omega), rd_si_ne (by omega), rd_si_ne (by omega), rd_si_eq]
  · rw [rd_si_ne (by omega), rd_si_ne (by omega), rd_si_ne (by omega), rd_si_eq]
  · rw [rd_si_ne (by omega), rd_si_ne (by omega), rd_si_eq]
  · rw [rd_si_ni (by omega), rd_si_eq]
  obtain ⟨⟨f2, h22⟩, y6, y9, y176, y177, y13⟩ := h2
  have hR2 : σ2.2.2 = RF tw cs := by rw [f2.2.2]; exact hR
  have hR := hR2
  have hT2 := txM_T f2 hT
  have e : ∀ b j : Int, ¬ (b = 0 ∧ j = 2) → dr0 b j = 0 := fun b j z => if_neg z
  have hG2 : drM σ2 B dr0 := by
    refine ⟨⟨by rw [e 0 0 (by omega)]; exact y6, fun r r1 r2 => by rw [e 0 0 (by omega)] at r2; omega⟩, ⟨by rw [e 0 1 (by omega)]; exact y9, fun r r1 r2 => by rw [e 0 1 (by omega)] at r2; omega⟩, ⟨fun _ => y176, fun z => by rw [e 0 10 (by omega)] at z; omega⟩, ⟨fun _ => y177, fun z => by rw [e 0 11 (by omega)] at z; omega⟩, ⟨fun _ => y13, fun z => by rw [e 0 12 (by omega)] at z; omega⟩, fun r r1 r2 => by rw [e 0 0 (by omega)] at r2; omega⟩
  refine a_ald0 eX10_fault_34 ?_
  refine a_cV0 eX10_fault_35 lk_X10_195 mV_X10_leads sh_171 ⟨_, rfl, rfl⟩ mt_X10_leads rfl rfl rfl rfl (c_X10_leads hR hT2 wT (q := 0) (by omega) h22 (fun σ3 f3 hC3 => ?_))
  dsimp only [Option.toList, List.cons_append, List.nil_append]
  have hR3 : σ3.2.2 = RF tw cs := by rw [f3.2.2]; exact hR
  exact lp_ft hR0 hT wT hk _ (nn.toNat + 1) dr0 0 σ3 (Nat.le_refl _) (by omega) (by omega) (frTxM_tr f2 (frNM_T (frNM_K f3))) hC3 (drM_N (frNM_K f3) hG2) wf_dr0 rfl

set_option maxHeartbeats 4000000 in
set_option maxRecDepth 100000 in
theorem lp_c2 {l : Launch} {σ : aw_S} {Post : Option Value → aw_S → Prop} {tw cs : Bool} (hR : σ.2.2 = RF tw cs) (hk : ∀ σ2 l1, fr1 179 σ σ2 → (∀ k : Int, 0 ≤ k → k < 32 → σ2.1 179 k = σ.1 175 k) → AW l yX10_city cX10_city 2 (some .int) 12 254 0 0 SH Post SH 0 0 (σ2) 85 [some (.ref 171), l1] [])  : ∀ (n : Nat) (i : Int) (σ1 : aw_S), ((32 - i).toNat ≤ n) → (0 ≤ i ∧ i ≤ 32) → (fr1 179 σ σ1) → (∀ k : Int, 0 ≤ k → k < i → σ1.1 179 k = σ.1 175 k) → AW l yX10_city cX10_city 2 (some .int) 12 254 0 0 SH Post SH 0 0 (σ1) 61 [some (.ref 171), some (.int (jI i))] [] := by
  intro n
  induction n with
  | zero =>
    intro i σ1 hm hi f1 hz
    have hR : σ1.2.2 = RF tw cs := by rw [f1.2]; exact hR
    refine a_ild1 eX10_city_61 ?_
    refine a_bipush eX10_city_62 (by decide) ?_
    refine a_icmp_ge 85 eX10_city_64 (by decide) (by omega) (fun hT64 => ?_) (fun hF64 => ?_)
    · skip
      exact hk σ1 _ f1 (fun k k1 k2 => hz k k1 (by omega))
    · skip
      exfalso; omega
  | succ n ih =>
    intro i σ1 hm hi f1 hz
    have hR : σ1.2.2 = RF tw cs := by rw [f1.2]; exact hR
    refine a_ild1 eX10_city_61 ?_
    refine a_bipush eX10_city_62 (by decide) ?_
    refine a_icmp_ge 85 eX10_city_64 (by decide) (by omega) (fun hT64 => ?_) (fun hF64 => ?_)
    · skip
      exact hk σ1 _ f1 (fun k k1 k2 => hz k k1 (by omega))
    · skip
      refine a_ald0 eX10_city_67 ?_
      refine a_getR 17 179 eX10_city_68 fl_X10_33 rfl rfl sh_171 ((congrFun (congrFun hR _) _).trans rf_171_17) ?_
      refine a_ild1 eX10_city_71 ?_
      refine a_ald0 eX10_city_72 ?_
      refine a_getR 10 175 eX10_city_73 fl_X10_21 rfl rfl sh_171 ((congrFun (congrFun hR _) _).trans rf_171_10) ?_
      refine a_ild1 eX10_city_76 ?_
      refine a_iald eX10_city_77 sh_175 rfl (by omega) ?_
      refine a_iast eX10_city_78 sh_179 rfl (by omega) ?_
      refine a_iinc1 eX10_city_79 (by decide) aw_n2r ?_
      refine a_goto 61 eX10_city_82 (by decide) ?_
      refine ih (i + 1) _ (by omega) (by omega) ⟨fun b j z => by rw [rd_si_ne z]; exact f1.1 b j z, f1.2⟩ (fun k k1 k2 => ?_)
      by_cases q : k = i
      · rw [q, rd_si_eq]; exact f1.1 _ _ (by omega)
      · rw [rd_si_ni q]; exact hz k k1 (by omega)

set_option maxHeartbeats 4000000 in
set_option maxRecDepth 100000 in
theorem lp_c3 {l : Launch} {σ : aw_S} {Post : Option Value → aw_S → Prop} {tw cs : Bool} (hR : σ.2.2 = RF tw cs) (hk : ∀ σ2 l1, fr1 180 σ σ2 → (∀ k : Int, 0 ≤ k → k < 4 → σ2.1 180 k = σ.1 176 k) → AW l yX10_city cX10_city 2 (some .int) 12 254 0 0 SH Post SH 0 0 (σ2) 110 [some (.ref 171), l1] [])  : ∀ (n : Nat) (i : Int) (σ1 : aw_S), ((4 - i).toNat ≤ n) → (0 ≤ i ∧ i ≤ 4) → (fr1 180 σ σ1) → (∀ k : Int, 0 ≤ k → k < i → σ1.1 180 k = σ.1 176 k) → AW l yX10_city cX10_city 2 (some .int) 12 254 0 0 SH Post SH 0 0 (σ1) 87 [some (.ref 171), some (.int (jI i))] [] := by
  intro n
  induction n with
  | zero =>
    intro i σ1 hm hi f1 hz
    have hR : σ1.2.2 = RF tw cs := by rw [f1.2]; exact hR
    refine a_ild1 eX10_city_87 ?_
    refine a_iconst eX10_city_88 ?_
    refine a_icmp_ge 110 eX10_city_89 (by decide) (by omega) (fun hT89 => ?_) (fun hF89 => ?_)
    · skip
      exact hk σ1 _ f1 (fun k k1 k2 => hz k k1 (by omega))
    · skip
      exfalso; omega
  | succ n ih =>
    intro i σ1 hm hi f1 hz
    have hR : σ1.2.2 = RF tw cs := by rw [f1.2]; exact hR
    refine a_ild1 eX10_city_87 ?_
    refine a_iconst eX10_city_88 ?_
    refine a_icmp_ge 110 eX10_city_89 (by decide) (by omega) (fun hT89 => ?_) (fun hF89 => ?_)
    · skip
      exact hk σ1 _ f1 (fun k k1 k2 => hz k k1 (by omega))
    · skip
      refine a_ald0 eX10_city_92 ?_
      refine a_getR 18 180 eX10_city_93 fl_X10_36 rfl rfl sh_171 ((congrFun (congrFun hR _) _).trans rf_171_18) ?_
      refine a_ild1 eX10_city_96 ?_
      refine a_ald0 eX10_city_97 ?_
      refine a_getR 11 176 eX10_city_98 fl_X10_24 rfl rfl sh_171 ((congrFun (congrFun hR _) _).trans rf_171_11) ?_
      refine a_ild1 eX10_city_101 ?_
      refine a_iald eX10_city_102 sh_176 rfl (by omega) ?_
      refine a_iast eX10_city_103 sh_180 rfl (by omega) ?_
      refine a_iinc1 eX10_city_104 (by decide) aw_n2r ?_
      refine a_goto 87 eX10_city_107 (by decide) ?_
      refine ih (i + 1) _ (by omega) (by omega) ⟨fun b j z => by rw [rd_si_ne z]; exact f1.1 b j z, f1.2⟩ (fun k k1 k2 => ?_)
      by_cases q : k = i
      · rw [q, rd_si_eq]; exact f1.1 _ _ (by omega)
      · rw [rd_si_ni q]; exact hz k k1 (by omega)

set_option maxHeartbeats 4000000 in
set_option maxRecDepth 100000 in
theorem lp_c1 {l : Launch} {σ : aw_S} {Post : Option Value → aw_S → Prop} {tw cs : Bool} (hR : σ.2.2 = RF tw cs) (hk : ∀ σ2 l1, ((∀ (b : Nat) (j : Int), b ≠ 178 → b ≠ 187 → σ2.1 b j = σ.1 b j) ∧ σ2.2 = σ.2) → (∀ k : Int, 0 ≤ k → k < 18 → σ2.1 178 k = σ.1 174 k ∧ σ2.1 187 k = 0) → AW l yX10_city cX10_city 2 (some .int) 12 254 0 0 SH Post SH 0 0 (σ2) 59 [some (.ref 171), l1] [])  : ∀ (n : Nat) (i : Int) (σ1 : aw_S), ((18 - i).toNat ≤ n) → (0 ≤ i ∧ i ≤ 18) → (((∀ (b : Nat) (j : Int), b ≠ 178 → b ≠ 187 → σ1.1 b j = σ.1 b j) ∧ σ1.2 = σ.2)) → (∀ k : Int, 0 ≤ k → k < i → σ1.1 178 k = σ.1 174 k ∧ σ1.1 187 k = 0) → AW l yX10_city cX10_city 2 (some .int) 12 254 0 0 SH Post SH 0 0 (σ1) 28 [some (.ref 171), some (.int (jI i))] [] := by
  intro n
  induction n with
  | zero =>
    intro i σ1 hm hi f1 hz
    have hR : σ1.2.2 = RF tw cs := by rw [f1.2]; exact hR
    refine a_ild1 eX10_city_28 ?_
    refine a_bipush eX10_city_29 (by decide) ?_
    refine a_icmp_ge 59 eX10_city_31 (by decide) (by omega) (fun hT31 => ?_) (fun hF31 => ?_)
    · skip
      exact hk σ1 _ f1 (fun k k1 k2 => hz k k1 (by omega))
    · skip
      exfalso; omega
  | succ n ih =>
    intro i σ1 hm hi f1 hz
    have hR : σ1.2.2 = RF tw cs := by rw [f1.2]; exact hR
    refine a_ild1 eX10_city_28 ?_
    refine a_bipush eX10_city_29 (by decide) ?_
    refine a_icmp_ge 59 eX10_city_31 (by decide) (by omega) (fun hT31 => ?_) (fun hF31 => ?_)
    · skip
      exact hk σ1 _ f1 (fun k k1 k2 => hz k k1 (by omega))
    · skip
      refine a_ald0 eX10_city_34 ?_
      refine a_getR 15 178 eX10_city_35 fl_X10_30 rfl rfl sh_171 ((congrFun (congrFun hR _) _).trans rf_171_15) ?_
      refine a_ild1 eX10_city_38 ?_
      refine a_ald0 eX10_city_39 ?_
      refine a_getR 8 174 eX10_city_40 fl_X10_17 rfl rfl sh_171 ((congrFun (congrFun hR _) _).trans rf_171_8) ?_
      refine a_ild1 eX10_city_43 ?_
      refine a_iald eX10_city_44 sh_174 rfl (by omega) ?_
      refine a_iast eX10_city_45 sh_178 rfl (by omega) ?_
      refine a_ald0 eX10_city_46 ?_
      refine a_getR 29 187 eX10_city_47 fl_X10_57 rfl rfl sh_171 ((congrFun (congrFun hR _) _).trans rf_171_29) ?_
      refine a_ild1 eX10_city_50 ?_
      refine a_iconst eX10_city_51 ?_
      refine a_iast eX10_city_52 sh_187 rfl (by omega) ?_
      refine a_iinc1 eX10_city_53 (by decide) aw_n2r ?_
      refine a_goto 28 eX10_city_56 (by decide) ?_
      refine ih (i + 1) _ (by omega) (by omega) ⟨fun b j z1 z2 => by rw [rd_si_ne z2, rd_si_ne z1]; exact f1.1 b j z1 z2, f1.2⟩ (fun k k1 k2 => ?_)
      by_cases q : k = i
      · rw [q, rd_si_ne (by omega), rd_si_eq, rd_si_eq]; exact ⟨f1.1 _ _ (by omega) (by omega), rfl⟩
      · rw [rd_si_ne (by omega), rd_si_ni q, rd_si_ni q, rd_si_ne (by omega)]; exact hz k k1 (by omega)

set_option maxHeartbeats 4000000 in
set_option maxRecDepth 100000 in
theorem lp_c4 {l : Launch} {σ : aw_S} {Post : Option Value → aw_S → Prop} {tw cs : Bool} (hR : σ.2.2 = RF tw cs) (hk : ∀ σ2 l1, ((∀ (b : Nat) (j : Int), b ≠ 184 → b ≠ 186 → σ2.1 b j = σ.1 b j) ∧ σ2.2 = σ.2) → (∀ k : Int, 0 ≤ k → k < 6 → σ2.1 184 k = 0 ∧ σ2.1 186 k = 0) → AW l yX10_city cX10_city 2 (some .int) 12 254 0 0 SH Post SH 0 0 (σ2) 230 [some (.ref 171), l1] [])  : ∀ (n : Nat) (i : Int) (σ1 : aw_S), ((6 - i).toNat ≤ n) → (0 ≤ i ∧ i ≤ 6) → (((∀ (b : Nat) (j : Int), b ≠ 184 → b ≠ 186 → σ1.1 b j = σ.1 b j) ∧ σ1.2 = σ.2)) → (∀ k : Int, 0 ≤ k → k < i → σ1.1 184 k = 0 ∧ σ1.1 186 k = 0) → AW l yX10_city cX10_city 2 (some .int) 12 254 0 0 SH Post SH 0 0 (σ1) 204 [some (.ref 171), some (.int (jI i))] [] := by
  intro n
  induction n with
  | zero =>
    intro i σ1 hm hi f1 hz
    have hR : σ1.2.2 = RF tw cs := by rw [f1.2]; exact hR
    refine a_ild1 eX10_city_204 ?_
    refine a_bipush eX10_city_205 (by decide) ?_
    refine a_icmp_ge 230 eX10_city_207 (by decide) (by omega) (fun hT207 => ?_) (fun hF207 => ?_)
    · skip
      exact hk σ1 _ f1 (fun k k1 k2 => hz k k1 (by omega))
    · skip
      exfalso; omega
  | succ n ih =>
    intro i σ1 hm hi f1 hz
    have hR : σ1.2.2 = RF tw cs := by rw [f1.2]; exact hR
    refine a_ild1 eX10_city_204 ?_
    refine a_bipush eX10_city_205 (by decide) ?_
    refine a_icmp_ge 230 eX10_city_207 (by decide) (by omega) (fun hT207 => ?_) (fun hF207 => ?_)
    · skip
      exact hk σ1 _ f1 (fun k k1 k2 => hz k k1 (by omega))
    · skip
      refine a_ald0 eX10_city_210 ?_
      refine a_getR 25 184 eX10_city_211 fl_X10_48 rfl rfl sh_171 ((congrFun (congrFun hR _) _).trans rf_171_25) ?_
      refine a_ild1 eX10_city_214 ?_
      refine a_iconst eX10_city_215 ?_
      refine a_iast eX10_city_216 sh_184 rfl (by omega) ?_
      refine a_ald0 eX10_city_217 ?_
      refine a_getR 28 186 eX10_city_218 fl_X10_54 rfl rfl sh_171 ((congrFun (congrFun hR _) _).trans rf_171_28) ?_
      refine a_ild1 eX10_city_221 ?_
      refine a_iconst eX10_city_222 ?_
      refine a_iast eX10_city_223 sh_186 rfl (by omega) ?_
      refine a_iinc1 eX10_city_224 (by decide) aw_n2r ?_
      refine a_goto 204 eX10_city_227 (by decide) ?_
      refine ih (i + 1) _ (by omega) (by omega) ⟨fun b j z1 z2 => by rw [rd_si_ne z2, rd_si_ne z1]; exact f1.1 b j z1 z2, f1.2⟩ (fun k k1 k2 => ?_)
      by_cases q : k = i
      · rw [q, rd_si_ne (by omega), rd_si_eq, rd_si_eq]; exact ⟨rfl, rfl⟩
      · rw [rd_si_ne (by omega), rd_si_ni q, rd_si_ni q, rd_si_ne (by omega)]; exact hz k k1 (by omega)

set_option maxHeartbeats 4000000 in
set_option maxRecDepth 100000 in
theorem lp_c5 {l : Launch} {σ : aw_S} {Post : Option Value → aw_S → Prop} {tw cs : Bool} (hR : σ.2.2 = RF tw cs) (hk : ∀ σ2 l1, fr1 192 σ σ2 → (∀ k : Int, 0 ≤ k → k < 3 → σ2.1 192 k = 0) → AW l yX10_city cX10_city 2 (some .int) 12 254 0 0 SH Post SH 0 0 (σ2) 250 [some (.ref 171), l1] [])  : ∀ (n : Nat) (i : Int) (σ1 : aw_S), ((3 - i).toNat ≤ n) → (0 ≤ i ∧ i ≤ 3) → (fr1 192 σ σ1) → (∀ k : Int, 0 ≤ k → k < i → σ1.1 192 k = 0) → AW l yX10_city cX10_city 2 (some .int) 12 254 0 0 SH Post SH 0 0 (σ1) 232 [some (.ref 171), some (.int (jI i))] [] := by
  intro n
  induction n with
  | zero =>
    intro i σ1 hm hi f1 hz
    have hR : σ1.2.2 = RF tw cs := by rw [f1.2]; exact hR
    refine a_ild1 eX10_city_232 ?_
    refine a_iconst eX10_city_233 ?_
    refine a_icmp_ge 250 eX10_city_234 (by decide) (by omega) (fun hT234 => ?_) (fun hF234 => ?_)
    · skip
      exact hk σ1 _ f1 (fun k k1 k2 => hz k k1 (by omega))
    · skip
      exfalso; omega
  | succ n ih =>
    intro i σ1 hm hi f1 hz
    have hR : σ1.2.2 = RF tw cs := by rw [f1.2]; exact hR
    refine a_ild1 eX10_city_232 ?_
    refine a_iconst eX10_city_233 ?_
    refine a_icmp_ge 250 eX10_city_234 (by decide) (by omega) (fun hT234 => ?_) (fun hF234 => ?_)
    · skip
      exact hk σ1 _ f1 (fun k k1 k2 => hz k k1 (by omega))
    · skip
      refine a_ald0 eX10_city_237 ?_
      refine a_getR 35 192 eX10_city_238 fl_X10_72 rfl rfl sh_171 ((congrFun (congrFun hR _) _).trans rf_171_35) ?_
      refine a_ild1 eX10_city_241 ?_
      refine a_iconst eX10_city_242 ?_
      refine a_zast eX10_city_243 sh_192 rfl (by omega) ?_
      refine a_iinc1 eX10_city_244 (by decide) aw_n2r ?_
      refine a_goto 232 eX10_city_247 (by decide) ?_
      refine ih (i + 1) _ (by omega) (by omega) ⟨fun b j z => by rw [rd_si_ne z]; exact f1.1 b j z, f1.2⟩ (fun k k1 k2 => ?_)
      by_cases q : k = i
      · rw [q, rd_si_eq]; rfl
      · rw [rd_si_ni q]; exact hz k k1 (by omega)

/-- what a new city has changed in the reference -/
def frCtM (σ σ' : aw_S) : Prop := (∀ (b : Nat) (j : Int), ¬ (b = 171 ∧ ((1 ≤ j ∧ j ≤ 4) ∨ j = 6 ∨ j = 9 ∨ j = 13 ∨ j = 44 ∨ j = 14 ∨ j = 16 ∨ j = 20 ∨ j = 21 ∨ j = 22 ∨ j = 26 ∨ j = 30)) → ¬ (174 ≤ b ∧ b ≤ 181) → b ≠ 184 → b ≠ 186 → b ≠ 187 → b ≠ 192 → σ'.1 b j = σ.1 b j) ∧ σ'.2.2 = σ.2.2
def newM (σ : aw_S) (d : mS) : Prop := (σ.1 171 14 = d 0 0 ∧ (∀ r : Int, 0 ≤ r → r < d 0 0 → σ.1 178 (3 * r) = d 1 r ∧ σ.1 178 (3 * r + 1) = d 2 r ∧ σ.1 178 (3 * r + 2) = d 3 r)) ∧ (σ.1 171 16 = d 0 1 ∧ (∀ k : Int, 0 ≤ k → k < d 0 1 → σ.1 179 (4 * k) = d 4 k ∧ σ.1 179 (4 * k + 1) = d 5 k ∧ σ.1 179 (4 * k + 2) = d 6 k ∧ σ.1 179 (4 * k + 3) = d 7 k)) ∧ ((σ.1 180 0 = d 8 0 ∧ σ.1 180 1 = d 8 1 ∧ σ.1 180 2 = d 8 2 ∧ σ.1 180 3 = d 8 3) ∧ σ.1 171 20 = d 0 2) ∧ (σ.1 181 0 = d 9 0 ∧ σ.1 181 1 = d 9 1) ∧
  (σ.1 171 1 = 0 ∧ (σ.1 171 21 = 0 ∧ σ.1 171 22 = 0 ∧ σ.1 171 26 = 0) ∧ (∀ r : Int, 0 ≤ r → r < 6 → σ.1 184 r = 0 ∧ σ.1 186 r = 0) ∧ (∀ j : Int, 0 ≤ j → j < 18 → σ.1 187 j = 0) ∧ σ.1 171 30 = 0 ∧ (∀ k : Int, 0 ≤ k → k < 3 → σ.1 192 k = 0))
set_option maxHeartbeats 4000000 in
set_option maxRecDepth 100000 in
theorem c_X10_city {l : Launch} {σ : aw_S} {Post : Option Value → aw_S → Prop} {tw cs : Bool} (hR : σ.2.2 = RF tw cs) {B : Int → Int} {nn : Int} (hT : txM σ B nn) (wT : wfTx B nn) (hk0 : (flt B nn).1 ≠ -1 → ∀ σ', frTxM σ σ' → Post (some (.int (jI (-1)))) σ') (hk1 : (flt B nn).1 = -1 → ∀ σ', frCtM σ σ' → newM σ' (flt B nn).2 → Post (some (.int (jI ((flt B nn).2 0 0)))) σ')  : AE l yX10_city cX10_city 2 (some .int) 12 254 0 0 SH SH σ [.ref 171] Post := by
  show AW l yX10_city cX10_city 2 (some .int) 12 254 0 0 SH Post SH 0 0 σ 0 [some (.ref 171), none] []
  have u1 := wT.1
  refine a_ald0 eX10_city_0 ?_
  refine a_cV0 eX10_city_1 lk_X10_232 mV_X10_fault sh_171 ⟨_, rfl, rfl⟩ mt_X10_fault rfl rfl rfl rfl (c_X10_fault hR hT wT (fun σ1 f1 h1 => ?_))
  dsimp only [Option.toList, List.cons_append, List.nil_append]
  have hfb := flF_g (B := B) (n := nn) (nn.toNat + 1) dr0 0 (by omega) wf_dr0
  have hfb2 : -1 ≤ (flt B nn).1 ∧ (flt B nn).1 ≤ nn := hfb.2
  have hR1 : σ1.2.2 = RF tw cs := by rw [f1.2.2]; exact hR
  have hR := hR1
  refine a_iconst eX10_city_4 ?_
  refine a_icmp_eq 10 eX10_city_5 (by decide) (by omega) (fun hT5 => ?_) (fun hF5 => ?_)
  · skip
    have hG1 := h1 (by omega)
    have hwf : wfDr B nn (flt B nn).2 ∧ 0 < (flt B nn).2 0 0 ∧ (flt B nn).2 0 10 = 1 := hfb.1 (show (flt B nn).1 = -1 by omega)
    obtain ⟨wG, hd0, hd10⟩ := hwf
    obtain ⟨d, ed⟩ : ∃ d, d = (flt B nn).2 := ⟨_, rfl⟩
    rw [← ed] at hG1 wG hd0 hd10 hk1
    obtain ⟨⟨g1, g2⟩, ⟨g3, g4⟩, g5, g6, g7, g8⟩ := id hG1
    obtain ⟨w1, w2, w3, w4, w5, w6, w7, w8, w9, w10, w11⟩ := id wG
    have hw101 := w10.1
    have hw102 := w10.2.1
    have hw103 := w10.2.2
    refine a_ald0 eX10_city_10 ?_
    refine a_ald0 eX10_city_11 ?_
    refine a_getI 6 eX10_city_12 fl_X10_185 rfl rfl sh_171 ?_
    refine a_eqtop (y0 := d 0 0) (by exact g1) ?_
    refine a_putI 14 eX10_city_15 fl_X10_235 rfl rfl sh_171 (fun q h => Or.inl (by cases h; rfl)) ?_
    refine a_ald0 eX10_city_18 ?_
    refine a_ald0 eX10_city_19 ?_
    refine a_getI 9 eX10_city_20 fl_X10_208 rfl rfl sh_171 ?_
    refine a_eqtop (y0 := d 0 1) (by rw [rd_si_ni (by omega)]; exact g3) ?_
    refine a_putI 16 eX10_city_23 fl_X10_238 rfl rfl sh_171 (fun q h => Or.inl (by cases h; rfl)) ?_
    refine a_iconst eX10_city_26 ?_
    refine a_ist1 eX10_city_27 (by decide) aw_n2r ?_
    refine AW.ex (fun s => ((∀ (b : Nat) (j : Int), ¬ (b = 171 ∧ (j = 14 ∨ j = 16)) → s.1 b j = σ1.1 b j) ∧ s.2 = σ1.2) ∧ s.1 171 14 = d 0 0 ∧ s.1 171 16 = d 0 1) ⟨⟨fun b j z => by rw [rd_si, if_neg (by omega), rd_si, if_neg (by omega)], rfl⟩, by rw [rd_si_ni (by omega), rd_si_eq], rd_si_eq⟩ (fun σ2 h2 => ?_)
    obtain ⟨⟨f2, z2⟩, y14, y16⟩ := h2
    have hR2 : σ2.2.2 = RF tw cs := by rw [z2]; exact hR
    refine lp_c1 hR2 (fun σ3 l3 f3 y3 => ?_) _ 0 σ2 (Nat.le_refl _) (by omega) ⟨fun _ _ _ _ => rfl, rfl⟩ (fun k k1 k2 => by omega)
    have hR3 : σ3.2.2 = RF tw cs := by rw [f3.2]; exact hR2
    have hR := hR3
    refine a_iconst eX10_city_59 ?_
    refine a_ist1 eX10_city_60 (by decide) aw_n2r ?_
    refine lp_c2 hR3 (fun σ4 l4 f4 y4 => ?_) _ 0 σ3 (Nat.le_refl _) (by omega) ⟨fun _ _ _ => rfl, rfl⟩ (fun k k1 k2 => by omega)
    have hR4 : σ4.2.2 = RF tw cs := by rw [f4.2]; exact hR3
    have hR := hR4
    refine a_iconst eX10_city_85 ?_
    refine a_ist1 eX10_city_86 (by decide) aw_n2r ?_
    refine lp_c3 hR4 (fun σ5 l5 f5 y5 => ?_) _ 0 σ4 (Nat.le_refl _) (by omega) ⟨fun _ _ _ => rfl, rfl⟩ (fun k k1 k2 => by omega)
    have hR5 : σ5.2.2 = RF tw cs := by rw [f5.2]; exact hR4
    have hR := hR5
    have up5 : ∀ (b : Nat) (j : Int), ¬ (b = 171 ∧ (j = 14 ∨ j = 16)) → ¬ (178 ≤ b ∧ b ≤ 180) → b ≠ 187 → σ5.1 b j = σ1.1 b j := fun b j z1 z2 z3 => by rw [f5.1 b j (by omega), f4.1 b j (by omega), f3.1 b j (by omega) z3]; exact f2 b j z1
    have hs0 : σ5.1 177 0 = (if d 0 11 = 1 then d 9 0 else -1) := by
      rw [up5 _ _ (by omega) (by omega) (by omega)]
      split
      · exact (g6.2 (by omega)).1
      · exact g6.1 (by omega)
    have hs1 : d 0 11 = 1 → σ5.1 177 1 = d 9 1 := fun z => by rw [up5 _ _ (by omega) (by omega) (by omega)]; exact (g6.2 z).2
    have hs13 : σ5.1 171 13 = (if d 0 12 = 1 then d 0 2 else -1) := by
      rw [up5 _ _ (by omega) (by omega) (by omega)]
      split
      · exact g7.2 (by omega)
      · exact g7.1 (by omega)
    have kfin : ∀ σ6 : aw_S, ((∀ (b : Nat) (j : Int), ¬ (b = 171 ∧ (j = 20 ∨ j = 21 ∨ j = 22 ∨ j = 26 ∨ j = 30)) → b ≠ 181 → σ6.1 b j = σ5.1 b j) ∧ σ6.2 = σ5.2) ∧ (σ6.1 181 0 = d 9 0 ∧ σ6.1 181 1 = d 9 1) ∧ σ6.1 171 20 = d 0 2 ∧ (σ6.1 171 21 = 0 ∧ σ6.1 171 22 = 0 ∧ σ6.1 171 26 = 0) ∧ σ6.1 171 30 = 0 → AW l yX10_city cX10_city 2 (some .int) 12 254 0 0 SH Post SH 0 0 (σ6) 204 [some (.ref 171), some (.int (jI 0))] [] := fun σ6 h6 => by
      obtain ⟨⟨f6, z6⟩, y181, y20, y21, y30⟩ := h6
      have hR6 : σ6.2.2 = RF tw cs := by rw [z6]; exact hR5
      refine lp_c4 hR6 (fun σ7 l7 f7 y7 => ?_) _ 0 σ6 (Nat.le_refl _) (by omega) ⟨fun _ _ _ _ => rfl, rfl⟩ (fun k k1 k2 => by omega)
      have hR7 : σ7.2.2 = RF tw cs := by rw [f7.2]; exact hR6
      have hR := hR7
      refine a_iconst eX10_city_230 ?_
      refine a_ist1 eX10_city_231 (by decide) aw_n2r ?_
      refine lp_c5 hR7 (fun σ8 l8 f8 y8 => ?_) _ 0 σ7 (Nat.le_refl _) (by omega) ⟨fun _ _ _ => rfl, rfl⟩ (fun k k1 k2 => by omega)
      have hR8 : σ8.2.2 = RF tw cs := by rw [f8.2]; exact hR7
      have hR := hR8
      have up8 : ∀ (b : Nat) (j : Int), ¬ (b = 171 ∧ (j = 20 ∨ j = 21 ∨ j = 22 ∨ j = 26 ∨ j = 30)) → b ≠ 181 → b ≠ 184 → b ≠ 186 → b ≠ 192 → σ8.1 b j = σ5.1 b j := fun b j z1 z2 z3 z4 z5 => by rw [f8.1 b j z5, f7.1 b j z3 z4]; exact f6 b j z1 z2
      have up6 : ∀ (b : Nat) (j : Int), b ≠ 184 → b ≠ 186 → b ≠ 192 → σ8.1 b j = σ6.1 b j := fun b j z3 z4 z5 => by rw [f8.1 b j z5, f7.1 b j z3 z4]
      have e14 : σ8.1 171 14 = d 0 0 := by rw [up8 _ _ (by omega) (by omega) (by omega) (by omega) (by omega), f5.1 _ _ (by omega), f4.1 _ _ (by omega), f3.1 _ _ (by omega) (by omega)]; exact y14
      have e16 : σ8.1 171 16 = d 0 1 := by rw [up8 _ _ (by omega) (by omega) (by omega) (by omega) (by omega), f5.1 _ _ (by omega), f4.1 _ _ (by omega), f3.1 _ _ (by omega) (by omega)]; exact y16
      have r178 : ∀ k : Int, 0 ≤ k → k < 18 → σ8.1 178 k = σ1.1 174 k ∧ σ8.1 187 k = 0 := fun k k1 k2 => by
        rw [up8 _ _ (by omega) (by omega) (by omega) (by omega) (by omega), up8 187 _ (by omega) (by omega) (by omega) (by omega) (by omega), f5.1 _ _ (by omega), f5.1 187 _ (by omega), f4.1 _ _ (by omega), f4.1 187 _ (by omega), ← f2 174 k (by omega)]
        exact y3 k k1 k2
      have r179 : ∀ k : Int, 0 ≤ k → k < 32 → σ8.1 179 k = σ1.1 175 k := fun k k1 k2 => by
        rw [up8 _ _ (by omega) (by omega) (by omega) (by omega) (by omega), f5.1 _ _ (by omega), y4 k k1 k2, f3.1 _ _ (by omega) (by omega)]
        exact f2 _ _ (by omega)
      have r180 : ∀ k : Int, 0 ≤ k → k < 4 → σ8.1 180 k = σ1.1 176 k := fun k k1 k2 => by
        rw [up8 _ _ (by omega) (by omega) (by omega) (by omega) (by omega), y5 k k1 k2, f4.1 _ _ (by omega), f3.1 _ _ (by omega) (by omega)]
        exact f2 _ _ (by omega)
      refine a_ald0 eX10_city_250 ?_
      refine a_iconst eX10_city_251 ?_
      refine a_putI 1 eX10_city_252 fl_X10_124 rfl rfl sh_171 (fun q h => Or.inl (by cases h; rfl)) ?_
      refine a_ald0 eX10_city_255 ?_
      refine a_getI 14 eX10_city_256 fl_X10_235 rfl rfl sh_171 ?_
      refine a_iret eX10_city_259 rfl rfl ⟨Nat.zero_le _, Nat.zero_le _⟩ ?_
      rw [show (aw_si σ8 171 1 0).1 171 14 = d 0 0 by rw [rd_si_ni (by omega)]; exact e14]
      refine hk1 (by omega) _ ⟨fun b j z1 z2 z3 z4 z5 z6 => ?_, ?_⟩ ⟨⟨?_, fun r r1 r2 => ?_⟩, ⟨?_, fun k k1 k2 => ?_⟩, ⟨?_, ?_⟩, ?_, rd_si_eq, ?_, fun r r1 r2 => ?_, fun j j1 j2 => ?_, ?_, fun k k1 k2 => ?_⟩
      · rw [rd_si, if_neg (by omega), up8 b j (by omega) (by omega) z3 z4 z6, up5 b j (by omega) (by omega) z5]
        exact f1.1 b j (by omega) (by omega)
      · show σ8.2.2 = _
        rw [f8.2, f7.2, z6, f5.2, f4.2, f3.2, z2]
        exact f1.2.2
      · rw [rd_si_ni (by omega)]; exact e14
      · rw [rd_si_ne (by omega), rd_si_ne (by omega), rd_si_ne (by omega), (r178 _ (by omega) (by omega)).1, (r178 _ (by omega) (by omega)).1, (r178 _ (by omega) (by omega)).1]
        exact g2 r r1 r2
      · rw [rd_si_ni (by omega)]; exact e16
      · rw [rd_si_ne (by omega), rd_si_ne (by omega), rd_si_ne (by omega), rd_si_ne (by omega), r179 _ (by omega) (by omega), r179 _ (by omega) (by omega), r179 _ (by omega) (by omega), r179 _ (by omega) (by omega)]
        exact g4 k k1 k2
      · rw [rd_si_ne (by omega), rd_si_ne (by omega), rd_si_ne (by omega), rd_si_ne (by omega), r180 _ (by omega) (by omega), r180 _ (by omega) (by omega), r180 _ (by omega) (by omega), r180 _ (by omega) (by omega)]
        exact g5.2 hd10
      · rw [rd_si_ni (by omega), up6 _ _ (by omega) (by omega) (by omega)]; exact y20
      · rw [rd_si_ne (by omega), rd_si_ne (by omega), up6 _ _ (by omega) (by omega) (by omega), up6 181 1 (by omega) (by omega) (by omega)]; exact y181
      · rw [rd_si_ni (by omega), rd_si_ni (by omega), rd_si_ni (by omega), up6 _ _ (by omega) (by omega) (by omega), up6 171 22 (by omega) (by omega) (by omega), up6 171 26 (by omega) (by omega) (by omega)]; exact y21
      · rw [rd_si_ne (by omega), rd_si_ne (by omega), f8.1 _ _ (by omega), f8.1 186 _ (by omega)]; exact y7 r r1 r2
      · rw [rd_si_ne (by omega)]; exact (r178 j j1 j2).2
      · rw [rd_si_ni (by omega), up6 _ _ (by omega) (by omega) (by omega)]; exact y30
      · rw [rd_si_ne (by omega)]; exact y8 k k1 k2
    refine a_ald0 eX10_city_110 ?_
    refine a_getR 19 181 eX10_city_111 fl_X10_39 rfl rfl sh_171 ((congrFun (congrFun hR _) _).trans rf_171_19) ?_
    refine a_iconst eX10_city_114 ?_
    refine a_ald0 eX10_city_115 ?_
    refine a_getR 12 177 eX10_city_116 fl_X10_27 rfl rfl sh_171 ((congrFun (congrFun hR _) _).trans rf_171_12) ?_
    refine a_iconst eX10_city_119 ?_
    refine a_iald eX10_city_120 sh_177 rfl (by omega) ?_
    refine a_eqtop (y0 := (if d 0 11 = 1 then d 9 0 else -1)) (by exact hs0) ?_
    refine a_iconst eX10_city_121 ?_
    refine a_icmp_ne 129 eX10_city_122 (by decide) (by split <;> omega) (fun hT122 => ?_) (fun hF122 => ?_)
    · skip
      refine a_ald0 eX10_city_129 ?_
      refine a_getR 12 177 eX10_city_130 fl_X10_27 rfl rfl sh_171 ((congrFun (congrFun hR _) _).trans rf_171_12) ?_
      refine a_iconst eX10_city_133 ?_
      refine a_iald eX10_city_134 sh_177 rfl (by omega) ?_
      refine a_eqtop (y0 := d 9 0) (by rw [hs0]; split at hT122 <;> (try split) <;> omega) ?_
      refine a_iast eX10_city_135 sh_181 rfl (by omega) ?_
      refine a_ald0 eX10_city_136 ?_
      refine a_getR 19 181 eX10_city_137 fl_X10_39 rfl rfl sh_171 ((congrFun (congrFun hR _) _).trans rf_171_19) ?_
      refine a_iconst eX10_city_140 ?_
      refine a_ald0 eX10_city_141 ?_
      refine a_getR 12 177 eX10_city_142 fl_X10_27 rfl rfl sh_171 ((congrFun (congrFun hR _) _).trans rf_171_12) ?_
      refine a_iconst eX10_city_145 ?_
      refine a_iald eX10_city_146 sh_177 rfl (by omega) ?_
      refine a_eqtop (y0 := (if d 0 11 = 1 then d 9 0 else -1)) (by rw [rd_si_ne (by omega)]; exact hs0) ?_
      refine a_iconst eX10_city_147 ?_
      refine a_icmp_ne 155 eX10_city_148 (by decide) (by split <;> omega) (fun hT148 => ?_) (fun hF148 => ?_)
      · skip
        refine a_ald0 eX10_city_155 ?_
        refine a_getR 12 177 eX10_city_156 fl_X10_27 rfl rfl sh_171 ((congrFun (congrFun hR _) _).trans rf_171_12) ?_
        refine a_iconst eX10_city_159 ?_
        refine a_iald eX10_city_160 sh_177 rfl (by omega) ?_
        refine a_eqtop (y0 := d 9 1) (by rw [rd_si_ne (by omega)]; exact hs1 (by split at hT148 <;> omega)) ?_
        refine a_iast eX10_city_161 sh_181 rfl (by omega) ?_
        refine a_ald0 eX10_city_162 ?_
        refine a_ald0 eX10_city_163 ?_
        refine a_getI 13 eX10_city_164 fl_X10_211 rfl rfl sh_171 ?_
        refine a_eqtop (y0 := (if d 0 12 = 1 then d 0 2 else -1)) (by rw [rd_si_ne (by omega), rd_si_ne (by omega)]; exact hs13) ?_
        refine a_iconst eX10_city_167 ?_
        refine a_icmp_ne 175 eX10_city_168 (by decide) (by split <;> omega) (fun hT168 => ?_) (fun hF168 => ?_)
        · skip
          refine a_ald0 eX10_city_175 ?_
          refine a_getI 13 eX10_city_176 fl_X10_211 rfl rfl sh_171 ?_
          refine a_eqtop (y0 := d 0 2) (by rw [rd_si_ne (by omega), rd_si_ne (by omega), hs13]; split at hT168 <;> (try split) <;> omega) ?_
          refine a_putI 20 eX10_city_179 fl_X10_241 rfl rfl sh_171 (fun q h => Or.inl (by cases h; rfl)) ?_
          refine a_ald0 eX10_city_182 ?_
          refine a_iconst eX10_city_183 ?_
          refine a_putI 21 eX10_city_184 fl_X10_243 rfl rfl sh_171 (fun q h => Or.inl (by cases h; rfl)) ?_
          refine a_ald0 eX10_city_187 ?_
          refine a_iconst eX10_city_188 ?_
          refine a_putI 22 eX10_city_189 fl_X10_246 rfl rfl sh_171 (fun q h => Or.inl (by cases h; rfl)) ?_
          refine a_ald0 eX10_city_192 ?_
          refine a_iconst eX10_city_193 ?_
          refine a_putI 26 eX10_city_194 fl_X10_249 rfl rfl sh_171 (fun q h => Or.inl (by cases h; rfl)) ?_
          refine a_ald0 eX10_city_197 ?_
          refine a_iconst eX10_city_198 ?_
          refine a_putI 30 eX10_city_199 fl_X10_252 rfl rfl sh_171 (fun q h => Or.inl (by cases h; rfl)) ?_
          refine a_iconst eX10_city_202 ?_
          refine a_ist1 eX10_city_203 (by decide) aw_n2r ?_
          refine AW.ex (fun s => ((∀ (b : Nat) (j : Int), ¬ (b = 171 ∧ (j = 20 ∨ j = 21 ∨ j = 22 ∨ j = 26 ∨ j = 30)) → b ≠ 181 → s.1 b j = σ5.1 b j) ∧ s.2 = σ5.2) ∧ (s.1 181 0 = d 9 0 ∧ s.1 181 1 = d 9 1) ∧ s.1 171 20 = d 0 2 ∧ (s.1 171 21 = 0 ∧ s.1 171 22 = 0 ∧ s.1 171 26 = 0) ∧ s.1 171 30 = 0) ⟨⟨fun b j z1 z2 => ?_, rfl⟩, ⟨?_, ?_⟩, ?_, ⟨?_, ?_, ?_⟩, rd_si_eq⟩ (fun σ6 h6 => ?_)
          · rw [rd_si, if_neg (by omega), rd_si, if_neg (by omega), rd_si, if_neg (by omega), rd_si, if_neg (by omega), rd_si, if_neg (by omega), rd_si_ne z2, rd_si_ne z2]
          · rw [rd_si_ne (by omega), rd_si_ne (by omega), rd_si_ne (by omega), rd_si_ne (by omega), rd_si_ne (by omega), rd_si_ni (by omega), rd_si_eq]
          · rw [rd_si_ne (by omega), rd_si_ne (by omega), rd_si_ne (by omega), rd_si_ne (by omega), rd_si_ne (by omega), rd_si_eq]
          · rw [rd_si_ni (by omega), rd_si_ni (by omega), rd_si_ni (by omega), rd_si_ni (by omega), rd_si_eq]
          · rw [rd_si_ni (by omega), rd_si_ni (by omega), rd_si_ni (by omega), rd_si_eq]
          · rw [rd_si_ni (by omega), rd_si_ni (by omega), rd_si_eq]
          · rw [rd_si_ni (by omega), rd_si_eq]
          exact kfin σ6 h6
        · skip
          refine a_iconst eX10_city_171 ?_
          refine a_goto 179 eX10_city_172 (by decide) ?_
          refine a_eqtop (y0 := d 0 2) (by have := hw103; split at hF168 <;> omega) ?_
          refine a_putI 20 eX10_city_179 fl_X10_241 rfl rfl sh_171 (fun q h => Or.inl (by cases h; rfl)) ?_
          refine a_ald0 eX10_city_182 ?_
          refine a_iconst eX10_city_183 ?_
          refine a_putI 21 eX10_city_184 fl_X10_243 rfl rfl sh_171 (fun q h => Or.inl (by cases h; rfl)) ?_
          refine a_ald0 eX10_city_187 ?_
          refine a_iconst eX10_city_188 ?_
          refine a_putI 22 eX10_city_189 fl_X10_246 rfl rfl sh_171 (fun q h => Or.inl (by cases h; rfl)) ?_
          refine a_ald0 eX10_city_192 ?_
          refine a_iconst eX10_city_193 ?_
          refine a_putI 26 eX10_city_194 fl_X10_249 rfl rfl sh_171 (fun q h => Or.inl (by cases h; rfl)) ?_
          refine a_ald0 eX10_city_197 ?_
          refine a_iconst eX10_city_198 ?_
          refine a_putI 30 eX10_city_199 fl_X10_252 rfl rfl sh_171 (fun q h => Or.inl (by cases h; rfl)) ?_
          refine a_iconst eX10_city_202 ?_
          refine a_ist1 eX10_city_203 (by decide) aw_n2r ?_
          refine AW.ex (fun s => ((∀ (b : Nat) (j : Int), ¬ (b = 171 ∧ (j = 20 ∨ j = 21 ∨ j = 22 ∨ j = 26 ∨ j = 30)) → b ≠ 181 → s.1 b j = σ5.1 b j) ∧ s.2 = σ5.2) ∧ (s.1 181 0 = d 9 0 ∧ s.1 181 1 = d 9 1) ∧ s.1 171 20 = d 0 2 ∧ (s.1 171 21 = 0 ∧ s.1 171 22 = 0 ∧ s.1 171 26 = 0) ∧ s.1 171 30 = 0) ⟨⟨fun b j z1 z2 => ?_, rfl⟩, ⟨?_, ?_⟩, ?_, ⟨?_, ?_, ?_⟩, rd_si_eq⟩ (fun σ6 h6 => ?_)
          · rw [rd_si, if_neg (by omega), rd_si, if_neg (by omega), rd_si, if_neg (by omega), rd_si, if_neg (by omega), rd_si, if_neg (by omega), rd_si_ne z2, rd_si_ne z2]
          · rw [rd_si_ne (by omega), rd_si_ne (by omega), rd_si_ne (by omega), rd_si_ne (by omega), rd_si_ne (by omega), rd_si_ni (by omega), rd_si_eq]
          · rw [rd_si_ne (by omega), rd_si_ne (by omega), rd_si_ne (by omega), rd_si_ne (by omega), rd_si_ne (by omega), rd_si_eq]
          · rw [rd_si_ni (by omega), rd_si_ni (by omega), rd_si_ni (by omega), rd_si_ni (by omega), rd_si_eq]
          · rw [rd_si_ni (by omega), rd_si_ni (by omega), rd_si_ni (by omega), rd_si_eq]
          · rw [rd_si_ni (by omega), rd_si_ni (by omega), rd_si_eq]
          · rw [rd_si_ni (by omega), rd_si_eq]
          exact kfin σ6 h6
      · skip
        refine a_iconst eX10_city_151 ?_
        refine a_goto 161 eX10_city_152 (by decide) ?_
        refine a_eqtop (y0 := d 9 1) (by have := hw101; split at hF148 <;> omega) ?_
        refine a_iast eX10_city_161 sh_181 rfl (by omega) ?_
        refine a_ald0 eX10_city_162 ?_
        refine a_ald0 eX10_city_163 ?_
        refine a_getI 13 eX10_city_164 fl_X10_211 rfl rfl sh_171 ?_
        refine a_eqtop (y0 := (if d 0 12 = 1 then d 0 2 else -1)) (by rw [rd_si_ne (by omega), rd_si_ne (by omega)]; exact hs13) ?_
        refine a_iconst eX10_city_167 ?_
        refine a_icmp_ne 175 eX10_city_168 (by decide) (by split <;> omega) (fun hT168 => ?_) (fun hF168 => ?_)
        · skip
          refine a_ald0 eX10_city_175 ?_
          refine a_getI 13 eX10_city_176 fl_X10_211 rfl rfl sh_171 ?_
          refine a_eqtop (y0 := d 0 2) (by rw [rd_si_ne (by omega), rd_si_ne (by omega), hs13]; split at hT168 <;> (try split) <;> omega) ?_
          refine a_putI 20 eX10_city_179 fl_X10_241 rfl rfl sh_171 (fun q h => Or.inl (by cases h; rfl)) ?_
          refine a_ald0 eX10_city_182 ?_
          refine a_iconst eX10_city_183 ?_
          refine a_putI 21 eX10_city_184 fl_X10_243 rfl rfl sh_171 (fun q h => Or.inl (by cases h; rfl)) ?_
          refine a_ald0 eX10_city_187 ?_
          refine a_iconst eX10_city_188 ?_
          refine a_putI 22 eX10_city_189 fl_X10_246 rfl rfl sh_171 (fun q h => Or.inl (by cases h; rfl)) ?_
          refine a_ald0 eX10_city_192 ?_
          refine a_iconst eX10_city_193 ?_
          refine a_putI 26 eX10_city_194 fl_X10_249 rfl rfl sh_171 (fun q h => Or.inl (by cases h; rfl)) ?_
          refine a_ald0 eX10_city_197 ?_
          refine a_iconst eX10_city_198 ?_
          refine a_putI 30 eX10_city_199 fl_X10_252 rfl rfl sh_171 (fun q h => Or.inl (by cases h; rfl)) ?_
          refine a_iconst eX10_city_202 ?_
          refine a_ist1 eX10_city_203 (by decide) aw_n2r ?_
          refine AW.ex (fun s => ((∀ (b : Nat) (j : Int), ¬ (b = 171 ∧ (j = 20 ∨ j = 21 ∨ j = 22 ∨ j = 26 ∨ j = 30)) → b ≠ 181 → s.1 b j = σ5.1 b j) ∧ s.2 = σ5.2) ∧ (s.1 181 0 = d 9 0 ∧ s.1 181 1 = d 9 1) ∧ s.1 171 20 = d 0 2 ∧ (s.1 171 21 = 0 ∧ s.1 171 22 = 0 ∧ s.1 171 26 = 0) ∧ s.1 171 30 = 0) ⟨⟨fun b j z1 z2 => ?_, rfl⟩, ⟨?_, ?_⟩, ?_, ⟨?_, ?_, ?_⟩, rd_si_eq⟩ (fun σ6 h6 => ?_)
          · rw [rd_si, if_neg (by omega), rd_si, if_neg (by omega), rd_si, if_neg (by omega), rd_si, if_neg (by omega), rd_si, if_neg (by omega), rd_si_ne z2, rd_si_ne z2]
          · rw [rd_si_ne (by omega), rd_si_ne (by omega), rd_si_ne (by omega), rd_si_ne (by omega), rd_si_ne (by omega), rd_si_ni (by omega), rd_si_eq]
          · rw [rd_si_ne (by omega), rd_si_ne (by omega), rd_si_ne (by omega), rd_si_ne (by omega), rd_si_ne (by omega), rd_si_eq]
          · rw [rd_si_ni (by omega), rd_si_ni (by omega), rd_si_ni (by omega), rd_si_ni (by omega), rd_si_eq]
          · rw [rd_si_ni (by omega), rd_si_ni (by omega), rd_si_ni (by omega), rd_si_eq]
          · rw [rd_si_ni (by omega), rd_si_ni (by omega), rd_si_eq]
          · rw [rd_si_ni (by omega), rd_si_eq]
          exact kfin σ6 h6
        · skip
          refine a_iconst eX10_city_171 ?_
          refine a_goto 179 eX10_city_172 (by decide) ?_
          refine a_eqtop (y0 := d 0 2) (by have := hw103; split at hF168 <;> omega) ?_
          refine a_putI 20 eX10_city_179 fl_X10_241 rfl rfl sh_171 (fun q h => Or.inl (by cases h; rfl)) ?_
          refine a_ald0 eX10_city_182 ?_
          refine a_iconst eX10_city_183 ?_
          refine a_putI 21 eX10_city_184 fl_X10_243 rfl rfl sh_171 (fun q h => Or.inl (by cases h; rfl)) ?_
          refine a_ald0 eX10_city_187 ?_
          refine a_iconst eX10_city_188 ?_
          refine a_putI 22 eX10_city_189 fl_X10_246 rfl rfl sh_171 (fun q h => Or.inl (by cases h; rfl)) ?_
          refine a_ald0 eX10_city_192 ?_
          refine a_iconst eX10_city_193 ?_
          refine a_putI 26 eX10_city_194 fl_X10_249 rfl rfl sh_171 (fun q h => Or.inl (by cases h; rfl)) ?_
          refine a_ald0 eX10_city_197 ?_
          refine a_iconst eX10_city_198 ?_
          refine a_putI 30 eX10_city_199 fl_X10_252 rfl rfl sh_171 (fun q h => Or.inl (by cases h; rfl)) ?_
          refine a_iconst eX10_city_202 ?_
          refine a_ist1 eX10_city_203 (by decide) aw_n2r ?_
          refine AW.ex (fun s => ((∀ (b : Nat) (j : Int), ¬ (b = 171 ∧ (j = 20 ∨ j = 21 ∨ j = 22 ∨ j = 26 ∨ j = 30)) → b ≠ 181 → s.1 b j = σ5.1 b j) ∧ s.2 = σ5.2) ∧ (s.1 181 0 = d 9 0 ∧ s.1 181 1 = d 9 1) ∧ s.1 171 20 = d 0 2 ∧ (s.1 171 21 = 0 ∧ s.1 171 22 = 0 ∧ s.1 171 26 = 0) ∧ s.1 171 30 = 0) ⟨⟨fun b j z1 z2 => ?_, rfl⟩, ⟨?_, ?_⟩, ?_, ⟨?_, ?_, ?_⟩, rd_si_eq⟩ (fun σ6 h6 => ?_)
          · rw [rd_si, if_neg (by omega), rd_si, if_neg (by omega), rd_si, if_neg (by omega), rd_si, if_neg (by omega), rd_si, if_neg (by omega), rd_si_ne z2, rd_si_ne z2]
          · rw [rd_si_ne (by omega), rd_si_ne (by omega), rd_si_ne (by omega), rd_si_ne (by omega), rd_si_ne (by omega), rd_si_ni (by omega), rd_si_eq]
          · rw [rd_si_ne (by omega), rd_si_ne (by omega), rd_si_ne (by omega), rd_si_ne (by omega), rd_si_ne (by omega), rd_si_eq]
          · rw [rd_si_ni (by omega), rd_si_ni (by omega), rd_si_ni (by omega), rd_si_ni (by omega), rd_si_eq]
          · rw [rd_si_ni (by omega), rd_si_ni (by omega), rd_si_ni (by omega), rd_si_eq]
          · rw [rd_si_ni (by omega), rd_si_ni (by omega), rd_si_eq]
          · rw [rd_si_ni (by omega), rd_si_eq]
          exact kfin σ6 h6
    · skip
      refine a_iconst eX10_city_125 ?_
      refine a_goto 135 eX10_city_126 (by decide) ?_
      refine a_eqtop (y0 := d 9 0) (by have := hw101; split at hF122 <;> omega) ?_
      refine a_iast eX10_city_135 sh_181 rfl (by omega) ?_
      refine a_ald0 eX10_city_136 ?_
      refine a_getR 19 181 eX10_city_137 fl_X10_39 rfl rfl sh_171 ((congrFun (congrFun hR _) _).trans rf_171_19) ?_
      refine a_iconst eX10_city_140 ?_
      refine a_ald0 eX10_city_141 ?_
      refine a_getR 12 177 eX10_city_142 fl_X10_27 rfl rfl sh_171 ((congrFun (congrFun hR _) _).trans rf_171_12) ?_
      refine a_iconst eX10_city_145 ?_
      refine a_iald eX10_city_146 sh_177 rfl (by omega) ?_
      refine a_eqtop (y0 := (if d 0 11 = 1 then d 9 0 else -1)) (by rw [rd_si_ne (by omega)]; exact hs0) ?_
      refine a_iconst eX10_city_147 ?_
      refine a_icmp_ne 155 eX10_city_148 (by decide) (by split <;> omega) (fun hT148 => ?_) (fun hF148 => ?_)
      · skip
        refine a_ald0 eX10_city_155 ?_
        refine a_getR 12 177 eX10_city_156 fl_X10_27 rfl rfl sh_171 ((congrFun (congrFun hR _) _).trans rf_171_12) ?_
        refine a_iconst eX10_city_159 ?_
        refine a_iald eX10_city_160 sh_177 rfl (by omega) ?_
        refine a_eqtop (y0 := d 9 1) (by rw [rd_si_ne (by omega)]; exact hs1 (by split at hT148 <;> omega)) ?_
        refine a_iast eX10_city_161 sh_181 rfl (by omega) ?_
        refine a_ald0 eX10_city_162 ?_
        refine a_ald0 eX10_city_163 ?_
        refine a_getI 13 eX10_city_164 fl_X10_211 rfl rfl sh_171 ?_
        refine a_eqtop (y0 := (if d 0 12 = 1 then d 0 2 else -1)) (by rw [rd_si_ne (by omega), rd_si_ne (by omega)]; exact hs13) ?_
        refine a_iconst eX10_city_167 ?_
        refine a_icmp_ne 175 eX10_city_168 (by decide) (by split <;> omega) (fun hT168 => ?_) (fun hF168 => ?_)
        · skip
          refine a_ald0 eX10_city_175 ?_
          refine a_getI 13 eX10_city_176 fl_X10_211 rfl rfl sh_171 ?_
          refine a_eqtop (y0 := d 0 2) (by rw [rd_si_ne (by omega), rd_si_ne (by omega), hs13]; split at hT168 <;> (try split) <;> omega) ?_
          refine a_putI 20 eX10_city_179 fl_X10_241 rfl rfl sh_171 (fun q h => Or.inl (by cases h; rfl)) ?_
          refine a_ald0 eX10_city_182 ?_
          refine a_iconst eX10_city_183 ?_
          refine a_putI 21 eX10_city_184 fl_X10_243 rfl rfl sh_171 (fun q h => Or.inl (by cases h; rfl)) ?_
          refine a_ald0 eX10_city_187 ?_
          refine a_iconst eX10_city_188 ?_
          refine a_putI 22 eX10_city_189 fl_X10_246 rfl rfl sh_171 (fun q h => Or.inl (by cases h; rfl)) ?_
          refine a_ald0 eX10_city_192 ?_
          refine a_iconst eX10_city_193 ?_
          refine a_putI 26 eX10_city_194 fl_X10_249 rfl rfl sh_171 (fun q h => Or.inl (by cases h; rfl)) ?_
          refine a_ald0 eX10_city_197 ?_
          refine a_iconst eX10_city_198 ?_
          refine a_putI 30 eX10_city_199 fl_X10_252 rfl rfl sh_171 (fun q h => Or.inl (by cases h; rfl)) ?_
          refine a_iconst eX10_city_202 ?_
          refine a_ist1 eX10_city_203 (by decide) aw_n2r ?_
          refine AW.ex (fun s => ((∀ (b : Nat) (j : Int), ¬ (b = 171 ∧ (j = 20 ∨ j = 21 ∨ j = 22 ∨ j = 26 ∨ j = 30)) → b ≠ 181 → s.1 b j = σ5.1 b j) ∧ s.2 = σ5.2) ∧ (s.1 181 0 = d 9 0 ∧ s.1 181 1 = d 9 1) ∧ s.1 171 20 = d 0 2 ∧ (s.1 171 21 = 0 ∧ s.1 171 22 = 0 ∧ s.1 171 26 = 0) ∧ s.1 171 30 = 0) ⟨⟨fun b j z1 z2 => ?_, rfl⟩, ⟨?_, ?_⟩, ?_, ⟨?_, ?_, ?_⟩, rd_si_eq⟩ (fun σ6 h6 => ?_)
          · rw [rd_si, if_neg (by omega), rd_si, if_neg (by omega), rd_si, if_neg (by omega), rd_si, if_neg (by omega), rd_si, if_neg (by omega), rd_si_ne z2, rd_si_ne z2]
          · rw [rd_si_ne (by omega), rd_si_ne (by omega), rd_si_ne (by omega), rd_si_ne (by omega), rd_si_ne (by omega), rd_si_ni (by omega), rd_si_eq]
          · rw [rd_si_ne (by omega), rd_si_ne (by omega), rd_si_ne (by omega), rd_si_ne (by omega), rd_si_ne (by omega), rd_si_eq]
          · rw [rd_si_ni (by omega), rd_si_ni (by omega), rd_si_ni (by omega), rd_si_ni (by omega), rd_si_eq]
          · rw [rd_si_ni (by omega), rd_si_ni (by omega), rd_si_ni (by omega), rd_si_eq]
          · rw [rd_si_ni (by omega), rd_si_ni (by omega), rd_si_eq]
          · rw [rd_si_ni (by omega), rd_si_eq]
          exact kfin σ6 h6
        · skip
          refine a_iconst eX10_city_171 ?_
          refine a_goto 179 eX10_city_172 (by decide) ?_
          refine a_eqtop (y0 := d 0 2) (by have := hw103; split at hF168 <;> omega) ?_
          refine a_putI 20 eX10_city_179 fl_X10_241 rfl rfl sh_171 (fun q h => Or.inl (by cases h; rfl)) ?_
          refine a_ald0 eX10_city_182 ?_
          refine a_iconst eX10_city_183 ?_
          refine a_putI 21 eX10_city_184 fl_X10_243 rfl rfl sh_171 (fun q h => Or.inl (by cases h; rfl)) ?_
          refine a_ald0 eX10_city_187 ?_
          refine a_iconst eX10_city_188 ?_
          refine a_putI 22 eX10_city_189 fl_X10_246 rfl rfl sh_171 (fun q h => Or.inl (by cases h; rfl)) ?_
          refine a_ald0 eX10_city_192 ?_
          refine a_iconst eX10_city_193 ?_
          refine a_putI 26 eX10_city_194 fl_X10_249 rfl rfl sh_171 (fun q h => Or.inl (by cases h; rfl)) ?_
          refine a_ald0 eX10_city_197 ?_
          refine a_iconst eX10_city_198 ?_
          refine a_putI 30 eX10_city_199 fl_X10_252 rfl rfl sh_171 (fun q h => Or.inl (by cases h; rfl)) ?_
          refine a_iconst eX10_city_202 ?_
          refine a_ist1 eX10_city_203 (by decide) aw_n2r ?_
          refine AW.ex (fun s => ((∀ (b : Nat) (j : Int), ¬ (b = 171 ∧ (j = 20 ∨ j = 21 ∨ j = 22 ∨ j = 26 ∨ j = 30)) → b ≠ 181 → s.1 b j = σ5.1 b j) ∧ s.2 = σ5.2) ∧ (s.1 181 0 = d 9 0 ∧ s.1 181 1 = d 9 1) ∧ s.1 171 20 = d 0 2 ∧ (s.1 171 21 = 0 ∧ s.1 171 22 = 0 ∧ s.1 171 26 = 0) ∧ s.1 171 30 = 0) ⟨⟨fun b j z1 z2 => ?_, rfl⟩, ⟨?_, ?_⟩, ?_, ⟨?_, ?_, ?_⟩, rd_si_eq⟩ (fun σ6 h6 => ?_)
          · rw [rd_si, if_neg (by omega), rd_si, if_neg (by omega), rd_si, if_neg (by omega), rd_si, if_neg (by omega), rd_si, if_neg (by omega), rd_si_ne z2, rd_si_ne z2]
          · rw [rd_si_ne (by omega), rd_si_ne (by omega), rd_si_ne (by omega), rd_si_ne (by omega), rd_si_ne (by omega), rd_si_ni (by omega), rd_si_eq]
          · rw [rd_si_ne (by omega), rd_si_ne (by omega), rd_si_ne (by omega), rd_si_ne (by omega), rd_si_ne (by omega), rd_si_eq]
          · rw [rd_si_ni (by omega), rd_si_ni (by omega), rd_si_ni (by omega), rd_si_ni (by omega), rd_si_eq]
          · rw [rd_si_ni (by omega), rd_si_ni (by omega), rd_si_ni (by omega), rd_si_eq]
          · rw [rd_si_ni (by omega), rd_si_ni (by omega), rd_si_eq]
          · rw [rd_si_ni (by omega), rd_si_eq]
          exact kfin σ6 h6
      · skip
        refine a_iconst eX10_city_151 ?_
        refine a_goto 161 eX10_city_152 (by decide) ?_
        refine a_eqtop (y0 := d 9 1) (by have := hw101; split at hF148 <;> omega) ?_
        refine a_iast eX10_city_161 sh_181 rfl (by omega) ?_
        refine a_ald0 eX10_city_162 ?_
        refine a_ald0 eX10_city_163 ?_
        refine a_getI 13 eX10_city_164 fl_X10_211 rfl rfl sh_171 ?_
        refine a_eqtop (y0 := (if d 0 12 = 1 then d 0 2 else -1)) (by rw [rd_si_ne (by omega), rd_si_ne (by omega)]; exact hs13) ?_
        refine a_iconst eX10_city_167 ?_
        refine a_icmp_ne 175 eX10_city_168 (by decide) (by split <;> omega) (fun hT168 => ?_) (fun hF168 => ?_)
        · skip
          refine a_ald0 eX10_city_175 ?_
          refine a_getI 13 eX10_city_176 fl_X10_211 rfl rfl sh_171 ?_
          refine a_eqtop (y0 := d 0 2) (by rw [rd_si_ne (by omega), rd_si_ne (by omega), hs13]; split at hT168 <;> (try split) <;> omega) ?_
          refine a_putI 20 eX10_city_179 fl_X10_241 rfl rfl sh_171 (fun q h => Or.inl (by cases h; rfl)) ?_
          refine a_ald0 eX10_city_182 ?_
          refine a_iconst eX10_city_183 ?_
          refine a_putI 21 eX10_city_184 fl_X10_243 rfl rfl sh_171 (fun q h => Or.inl (by cases h; rfl)) ?_
          refine a_ald0 eX10_city_187 ?_
          refine a_iconst eX10_city_188 ?_
          refine a_putI 22 eX10_city_189 fl_X10_246 rfl rfl sh_171 (fun q h => Or.inl (by cases h; rfl)) ?_
          refine a_ald0 eX10_city_192 ?_
          refine a_iconst eX10_city_193 ?_
          refine a_putI 26 eX10_city_194 fl_X10_249 rfl rfl sh_171 (fun q h => Or.inl (by cases h; rfl)) ?_
          refine a_ald0 eX10_city_197 ?_
          refine a_iconst eX10_city_198 ?_
          refine a_putI 30 eX10_city_199 fl_X10_252 rfl rfl sh_171 (fun q h => Or.inl (by cases h; rfl)) ?_
          refine a_iconst eX10_city_202 ?_
          refine a_ist1 eX10_city_203 (by decide) aw_n2r ?_
          refine AW.ex (fun s => ((∀ (b : Nat) (j : Int), ¬ (b = 171 ∧ (j = 20 ∨ j = 21 ∨ j = 22 ∨ j = 26 ∨ j = 30)) → b ≠ 181 → s.1 b j = σ5.1 b j) ∧ s.2 = σ5.2) ∧ (s.1 181 0 = d 9 0 ∧ s.1 181 1 = d 9 1) ∧ s.1 171 20 = d 0 2 ∧ (s.1 171 21 = 0 ∧ s.1 171 22 = 0 ∧ s.1 171 26 = 0) ∧ s.1 171 30 = 0) ⟨⟨fun b j z1 z2 => ?_, rfl⟩, ⟨?_, ?_⟩, ?_, ⟨?_, ?_, ?_⟩, rd_si_eq⟩ (fun σ6 h6 => ?_)
          · rw [rd_si, if_neg (by omega), rd_si, if_neg (by omega), rd_si, if_neg (by omega), rd_si, if_neg (by omega), rd_si, if_neg (by omega), rd_si_ne z2, rd_si_ne z2]
          · rw [rd_si_ne (by omega), rd_si_ne (by omega), rd_si_ne (by omega), rd_si_ne (by omega), rd_si_ne (by omega), rd_si_ni (by omega), rd_si_eq]
          · rw [rd_si_ne (by omega), rd_si_ne (by omega), rd_si_ne (by omega), rd_si_ne (by omega), rd_si_ne (by omega), rd_si_eq]
          · rw [rd_si_ni (by omega), rd_si_ni (by omega), rd_si_ni (by omega), rd_si_ni (by omega), rd_si_eq]
          · rw [rd_si_ni (by omega), rd_si_ni (by omega), rd_si_ni (by omega), rd_si_eq]
          · rw [rd_si_ni (by omega), rd_si_ni (by omega), rd_si_eq]
          · rw [rd_si_ni (by omega), rd_si_eq]
          exact kfin σ6 h6
        · skip
          refine a_iconst eX10_city_171 ?_
          refine a_goto 179 eX10_city_172 (by decide) ?_
          refine a_eqtop (y0 := d 0 2) (by have := hw103; split at hF168 <;> omega) ?_
          refine a_putI 20 eX10_city_179 fl_X10_241 rfl rfl sh_171 (fun q h => Or.inl (by cases h; rfl)) ?_
          refine a_ald0 eX10_city_182 ?_
          refine a_iconst eX10_city_183 ?_
          refine a_putI 21 eX10_city_184 fl_X10_243 rfl rfl sh_171 (fun q h => Or.inl (by cases h; rfl)) ?_
          refine a_ald0 eX10_city_187 ?_
          refine a_iconst eX10_city_188 ?_
          refine a_putI 22 eX10_city_189 fl_X10_246 rfl rfl sh_171 (fun q h => Or.inl (by cases h; rfl)) ?_
          refine a_ald0 eX10_city_192 ?_
          refine a_iconst eX10_city_193 ?_
          refine a_putI 26 eX10_city_194 fl_X10_249 rfl rfl sh_171 (fun q h => Or.inl (by cases h; rfl)) ?_
          refine a_ald0 eX10_city_197 ?_
          refine a_iconst eX10_city_198 ?_
          refine a_putI 30 eX10_city_199 fl_X10_252 rfl rfl sh_171 (fun q h => Or.inl (by cases h; rfl)) ?_
          refine a_iconst eX10_city_202 ?_
          refine a_ist1 eX10_city_203 (by decide) aw_n2r ?_
          refine AW.ex (fun s => ((∀ (b : Nat) (j : Int), ¬ (b = 171 ∧ (j = 20 ∨ j = 21 ∨ j = 22 ∨ j = 26 ∨ j = 30)) → b ≠ 181 → s.1 b j = σ5.1 b j) ∧ s.2 = σ5.2) ∧ (s.1 181 0 = d 9 0 ∧ s.1 181 1 = d 9 1) ∧ s.1 171 20 = d 0 2 ∧ (s.1 171 21 = 0 ∧ s.1 171 22 = 0 ∧ s.1 171 26 = 0) ∧ s.1 171 30 = 0) ⟨⟨fun b j z1 z2 => ?_, rfl⟩, ⟨?_, ?_⟩, ?_, ⟨?_, ?_, ?_⟩, rd_si_eq⟩ (fun σ6 h6 => ?_)
          · rw [rd_si, if_neg (by omega), rd_si, if_neg (by omega), rd_si, if_neg (by omega), rd_si, if_neg (by omega), rd_si, if_neg (by omega), rd_si_ne z2, rd_si_ne z2]
          · rw [rd_si_ne (by omega), rd_si_ne (by omega), rd_si_ne (by omega), rd_si_ne (by omega), rd_si_ne (by omega), rd_si_ni (by omega), rd_si_eq]
          · rw [rd_si_ne (by omega), rd_si_ne (by omega), rd_si_ne (by omega), rd_si_ne (by omega), rd_si_ne (by omega), rd_si_eq]
          · rw [rd_si_ni (by omega), rd_si_ni (by omega), rd_si_ni (by omega), rd_si_ni (by omega), rd_si_eq]
          · rw [rd_si_ni (by omega), rd_si_ni (by omega), rd_si_ni (by omega), rd_si_eq]
          · rw [rd_si_ni (by omega), rd_si_ni (by omega), rd_si_eq]
          · rw [rd_si_ni (by omega), rd_si_eq]
          exact kfin σ6 h6
  · skip
    refine a_iconst eX10_city_8 ?_
    refine a_iret eX10_city_9 rfl rfl ⟨Nat.zero_le _, Nat.zero_le _⟩ ?_
    exact hk0 (by omega) σ1 f1
