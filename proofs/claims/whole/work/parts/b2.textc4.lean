theorem drC_lt {a : Nat} (ha : isCity a) {σ σ' : aw_S} {B : Int → Int} {n : Int} {d : mS} {p rk : Int} (hG : drC σ a d) (h8 : 0 ≤ d 0 1 ∧ d 0 1 < 8) (hrk : 0 ≤ rk ∧ rk < 6)
    (hf : ∀ (b : Nat) (j : Int), ¬ (b = 1 ∧ (8 ≤ j ∧ j ≤ 11)) → ¬ (j = d 0 1 ∧ (b = a + 5 ∨ b = a + 6 ∨ b = a + 7)) → ¬ (b = a + 4 ∧ j = rk) → ¬ (b = a ∧ j = 4) → σ'.1 b j = σ.1 b j)
    (v0 : σ'.1 a 4 = d 0 1 + 1) (v4 : σ'.1 (a + 4) rk = (((σ.1 (a + 4) rk).toNat ||| 2 ^ (d 0 1).toNat : Nat) : Int)) (v5 : σ'.1 (a + 5) (d 0 1) = nv B n (te B n p)) (v6 : σ'.1 (a + 6) (d 0 1) = nv B n (te B n (te B n p))) (v7 : σ'.1 (a + 7) (d 0 1) = nv B n (te B n (te B n (te B n p)))) : drC σ' a (ltD B n d p rk) := by
  obtain ⟨⟨g1, g2⟩, ⟨g3, g4⟩, g5, g6, g7, g8, g9, g10⟩ := hG
  have h13 : a = 3 ∨ a = 13 := ha
  have o : ∀ b j : Int, ¬ (b = 0 ∧ j = 1) → ¬ (j = d 0 1 ∧ (4 ≤ b ∧ b ≤ 7)) → ltD B n d p rk b j = d b j := fun b j z1 z2 => by
    unfold ltD
    rw [up_ne (by omega), up_ne (by omega), up_ne (by omega), up_ne (by omega), up_ne (by omega)]
  have e0 : ltD B n d p rk 0 1 = d 0 1 + 1 := up_eq
  have e7 : ltD B n d p rk 7 (d 0 1) = nv B n (te B n (te B n (te B n p))) := by unfold ltD; rw [up_ne (by omega), up_eq]
  have e6 : ltD B n d p rk 6 (d 0 1) = nv B n (te B n (te B n p)) := by unfold ltD; rw [up_ne (by omega), up_ne (by omega), up_eq]
  have e5 : ltD B n d p rk 5 (d 0 1) = nv B n (te B n p) := by unfold ltD; rw [up_ne (by omega), up_ne (by omega), up_ne (by omega), up_eq]
  have e4 : ltD B n d p rk 4 (d 0 1) = rk := by unfold ltD; rw [up_ne (by omega), up_ne (by omega), up_ne (by omega), up_ne (by omega), up_eq]
  refine ⟨⟨?_, fun r r1 r2 => ?_⟩, ⟨?_, fun k k1 k2 => ?_⟩, fun r r1 r2 => ?_, fun z => ?_, ⟨?_, ?_⟩, ?_, ⟨?_, ?_, ?_⟩, fun r r1 r2 => ?_⟩
  · rw [hf a 0 (by omega) (by omega) (by omega) (by omega), o 0 0 (by omega) (by omega)]; exact g1
  · rw [o 0 0 (by omega) (by omega)] at r2
    rw [hf (a + 1) r (by omega) (by omega) (by omega) (by omega), hf (a + 2) r (by omega) (by omega) (by omega) (by omega), hf (a + 3) r (by omega) (by omega) (by omega) (by omega), o 1 r (by omega) (by omega), o 2 r (by omega) (by omega), o 3 r (by omega) (by omega)]; exact g2 r r1 r2
  · rw [v0, e0]
  · rw [e0] at k2
    by_cases q : k = d 0 1
    · rw [q, v5, v6, v7, e5, e6, e7]; exact ⟨rfl, rfl, rfl⟩
    · rw [hf (a + 5) k (by omega) (by omega) (by omega) (by omega), hf (a + 6) k (by omega) (by omega) (by omega) (by omega), hf (a + 7) k (by omega) (by omega) (by omega) (by omega), o 5 k (by omega) (by omega), o 6 k (by omega) (by omega), o 7 k (by omega) (by omega)]; exact g4 k k1 (by omega)
  · have g := g5 r r1 r2
    have hb : ∀ k : Nat, ((k : Int) < ltD B n d p rk 0 1 ∧ ltD B n d p rk 4 (k : Int) = r) ↔ (((k : Int) < d 0 1 ∧ d 4 (k : Int) = r) ∨ (r = rk ∧ (k : Int) = d 0 1)) := fun k => by
      rw [e0]
      by_cases q : (k : Int) = d 0 1
      · rw [q, e4]; omega
      · rw [o 4 (k : Int) (by omega) (by omega)]; omega
    by_cases q : r = rk
    · subst q
      rw [v4]
      have hlt : (σ.1 (a + 4) r).toNat ||| 2 ^ (d 0 1).toNat < 2 ^ 8 := Nat.or_lt_two_pow (by omega) (Nat.pow_lt_pow_right (by decide) (by omega))
      refine ⟨⟨Int.natCast_nonneg _, by omega⟩, aw_mb (fun k => ?_)⟩
      rw [Int.toNat_natCast, bt_or_pow, Bool.or_eq_true, aw_ub g.2 k, decide_eq_true_iff, hb k]
      constructor
      · rintro (z | z)
        · exact Or.inl z
        · exact Or.inr ⟨rfl, by omega⟩
      · rintro (z | z)
        · exact Or.inl z
        · exact Or.inr (by omega)
    · rw [hf (a + 4) r (by omega) (by omega) (by omega) (by omega)]
      refine ⟨g.1, aw_mb (fun k => ?_)⟩
      rw [aw_ub g.2 k, hb k]
      constructor
      · exact fun z => Or.inl z
      · rintro (z | z)
        · exact z
        · exact absurd z.1 q
  · rw [o 0 10 (by omega) (by omega)] at z
    rw [hf a 9 (by omega) (by omega) (by omega) (by omega), hf a 10 (by omega) (by omega) (by omega) (by omega), hf a 11 (by omega) (by omega) (by omega) (by omega), hf a 12 (by omega) (by omega) (by omega) (by omega), o 8 0 (by omega) (by omega), o 8 1 (by omega) (by omega), o 8 2 (by omega) (by omega), o 8 3 (by omega) (by omega)]; exact g6 z
  · rw [hf a 13 (by omega) (by omega) (by omega) (by omega), o 9 0 (by omega) (by omega)]; exact g7.1
  · rw [hf a 14 (by omega) (by omega) (by omega) (by omega), o 9 1 (by omega) (by omega)]; exact g7.2
  · rw [hf a 15 (by omega) (by omega) (by omega) (by omega), o 0 2 (by omega) (by omega)]; exact g8
  · rw [hf 1 5 (by omega) (by omega) (by omega) (by omega), o 0 10 (by omega) (by omega)]; exact g9.1
  · rw [hf 1 6 (by omega) (by omega) (by omega) (by omega), o 0 11 (by omega) (by omega)]; exact g9.2.1
  · rw [hf 1 7 (by omega) (by omega) (by omega) (by omega), o 0 12 (by omega) (by omega)]; exact g9.2.2
  · rw [o 0 0 (by omega) (by omega)] at r2
    rw [hf 11 r (by omega) (by omega) (by omega) (by omega), hf 12 r (by omega) (by omega) (by omega) (by omega), o 20 r (by omega) (by omega), o 21 r (by omega) (by omega)]; exact g10 r r1 r2
set_option maxHeartbeats 4000000 in
set_option maxRecDepth 100000 in
theorem c_X4_readLet {l : Launch} {σ : aw_S} {Post : Option Value → aw_S → Prop} {tw cs : Bool} (hR : σ.2.2 = RF tw cs) {a : Nat} (ha : isCity a) (hrd : RF tw cs 1 2 = some a) {B : Int → Int} {nn : Int} (hT : txC σ B nn) (wT : wfTx B nn) {d : mS} {q : Int} (hG : drC σ a d) (wG : wfDr B nn d) (hq : 0 ≤ q ∧ q ≤ nn) (hC : tkC σ B nn q) (hk0 : ∀ σ', frTx a σ σ' → ltP B nn d (ts B nn q) (te B nn q) (cif (tkd B nn (te B nn q) = 1) (rnk B nn d (te B nn q)) (-1)) = .inl (σ'.1 1 9) → Post (some (.int (jI 0))) σ') (hk1 : ∀ σ' d', frTx a σ σ' → ltP B nn d (ts B nn q) (te B nn q) (cif (tkd B nn (te B nn q) = 1) (rnk B nn d (te B nn q)) (-1)) = .inr (σ'.1 1 8, d') → drC σ' a d' → Post (some (.int (jI 1))) σ')  : AE l yX4_readLet cX4_readLet 3 (some .boolean) 3 63 0 0 SH SH σ [.ref 1] Post := by
  show AW l yX4_readLet cX4_readLet 3 (some .boolean) 3 63 0 0 SH Post SH 0 0 σ 0 [some (.ref 1), none, none] []
  obtain ⟨⟨g1, g2⟩, ⟨g3, g4⟩, g5, g6, g7, g8, g9, g10⟩ := id hG
  obtain ⟨w1, w2, w3, w4, w5, w6, w7, w8, w9, w10, w11⟩ := id wG
  have ha2 : a ≤ 13 := by rcases ha with rfl | rfl <;> omega
  have ha3 : 3 ≤ a := by rcases ha with rfl | rfl <;> omega
  have h13 : a = 3 ∨ a = 13 := ha
  have u1 := wT.1
  have b0 := tok_b (B := B) hq
  have c1 := tok_b (B := B) (n := nn) (q := te B nn q) (by omega)
  have c2 := tok_b (B := B) (n := nn) (q := te B nn (te B nn q)) (by omega)
  have c3 := tok_b (B := B) (n := nn) (q := te B nn (te B nn (te B nn q))) (by omega)
  have c4 := tok_b (B := B) (n := nn) (q := te B nn (te B nn (te B nn (te B nn q)))) (by omega)
  have c5 := tok_b (B := B) (n := nn) (q := te B nn (te B nn (te B nn (te B nn (te B nn q))))) (by omega)
  refine a_ald0 eX4_readLet_0 ?_
  refine a_getR 2 a eX4_readLet_1 fl_X4_18 rfl rfl sh_1 ((congrFun (congrFun hR _) _).trans hrd) ?_
  refine a_getI 4 eX4_readLet_4 fl_X4_128 rfl rfl (sh_city ha) ?_
  refine a_eqtop (y0 := d 0 1) (by exact g3) ?_
  refine a_ist1 eX4_readLet_7 (by decide) aw_n2r ?_
  refine a_ild1 eX4_readLet_8 ?_
  refine a_bipush eX4_readLet_9 (by decide) ?_
  refine a_icmp_lt 16 eX4_readLet_11 (by decide) (by omega) (fun hT11 => ?_) (fun hF11 => ?_)
  · skip
    refine a_ald0 eX4_readLet_16 ?_
    refine a_cV0 eX4_readLet_17 lk_X4_49 mV_X4_readToken sh_1 ⟨_, rfl, rfl⟩ mt_X4_readToken rfl rfl rfl rfl (c_X4_readToken hR hT wT (q := te B nn q) (by omega) hC.1 (fun σ1 f1 hC1 => ?_))
    dsimp only [Option.toList, List.cons_append, List.nil_append]
    have hR1 : σ1.2.2 = RF tw cs := by rw [f1.2]; exact hR
    have hR := hR1
    have hT1 := txC_K f1 hT
    have fR1 : frRk a (d 0 0) σ σ1 := frRk_K ⟨fun _ _ _ _ => rfl, rfl⟩ f1
    have hG1 := drC_R ha fR1 hG
    refine a_ald0 eX4_readLet_20 ?_
    refine a_getI 10 eX4_readLet_21 fl_X4_52 rfl rfl sh_1 ?_
    refine a_eqtop (y0 := tkd B nn (te B nn q)) (by exact hC1.2.2) ?_
    refine a_iconst eX4_readLet_24 ?_
    refine a_icmp_ne 35 eX4_readLet_25 (by decide) (by omega) (fun hT25 => ?_) (fun hF25 => ?_)
    · skip
      refine a_iconst eX4_readLet_35 ?_
      refine a_ist2 eX4_readLet_36 (by decide) aw_n2i ?_
      refine a_ild2 eX4_readLet_37 ?_
      refine a_iconst eX4_readLet_38 ?_
      refine a_icmp_eq 51 eX4_readLet_39 (by decide) (by omega) (fun _ => ?_) (fun h => absurd h (by decide))
      refine a_iconst eX4_readLet_51 ?_
      refine a_zret eX4_readLet_52 rfl (by first | exact Or.inl rfl | exact Or.inr rfl | omega) rfl ⟨Nat.zero_le _, Nat.zero_le _⟩ ?_
      refine hk0 σ1 (frTx_K f1) ?_
      unfold ltP
      rw [cif_n (by omega), cif_y (cif_n (by omega)), hC1.2.1]
    · skip
      refine a_ald0 eX4_readLet_28 ?_
      refine a_cV0 eX4_readLet_29 lk_X4_101 mV_X4_rankNamed sh_1 ⟨_, rfl, rfl⟩ mt_X4_rankNamed rfl rfl rfl rfl (c_X4_rankNamed hR ha hrd hT1 wT hG1 wG (q := te B nn q) (by omega) hC1 ?_)
      dsimp only [Option.toList, List.cons_append, List.nil_append]
      have hrb := rnk_b (B := B) (n := nn) (d := d) (q := te B nn q)
      obtain ⟨rk, erk⟩ : ∃ r, r = rnk B nn d (te B nn q) := ⟨_, rfl⟩
      have hRK : (cif (tkd B nn (te B nn q) = 1) (rnk B nn d (te B nn q)) (-1)) = rk := (cif_y (by omega)).trans erk.symm
      rw [← erk] at hrb ⊢
      refine a_goto 36 eX4_readLet_32 (by decide) ?_
      refine a_ist2 eX4_readLet_36 (by decide) aw_n2i ?_
      refine a_ild2 eX4_readLet_37 ?_
      refine a_iconst eX4_readLet_38 ?_
      refine a_icmp_eq 51 eX4_readLet_39 (by decide) (by omega) (fun hT39 => ?_) (fun hF39 => ?_)
      · skip
        refine a_iconst eX4_readLet_51 ?_
        refine a_zret eX4_readLet_52 rfl (by first | exact Or.inl rfl | exact Or.inr rfl | omega) rfl ⟨Nat.zero_le _, Nat.zero_le _⟩ ?_
        refine hk0 σ1 (frTx_K f1) ?_
        unfold ltP
        rw [cif_n (by omega), hRK, cif_y (by omega), hC1.2.1]
      · skip
        refine a_ald0 eX4_readLet_42 ?_
        refine a_iconst eX4_readLet_43 ?_
        refine a_iconst eX4_readLet_44 ?_
        refine a_cV2 eX4_readLet_45 lk_X4_105 mV_X4_readNumberWithin sh_1 ⟨_, rfl, rfl⟩ mt_X4_readNumberWithin rfl rfl rfl rfl rfl rfl (c_X4_readNumberWithin hR hT1 wT (q := te B nn (te B nn q)) (by omega) hC1.1 (by omega) (fun σ2 f2 hC2 v2 hT45 => ?_) (fun σ2 f2 hC2 hF45 => ?_))
        · skip
          dsimp only [Option.toList, List.cons_append, List.nil_append]
          have hR2 : σ2.2.2 = RF tw cs := by rw [f2.2]; exact hR
          have hR := hR2
          refine a_if_ne 53 eX4_readLet_48 (by decide) (by omega) (fun _ => ?_) (fun h => absurd h (by decide))
          have hb4 := (g5 rk (by omega) (by omega)).1
          have e4 : σ2.1 (a + 4) rk = σ.1 (a + 4) rk := (f2.1 _ _ (by omega)).trans (f1.1 _ _ (by omega))
          refine a_ald0 eX4_readLet_53 ?_
          refine a_getR 2 a eX4_readLet_54 fl_X4_18 rfl rfl sh_1 ((congrFun (congrFun hR _) _).trans hrd) ?_
          refine a_getR 5 (a + 4) eX4_readLet_57 fl_X4_131 rfl rfl (sh_city ha) ((congrFun (congrFun hR _) _).trans (rf_city_5 ha)) ?_
          refine a_ild2 eX4_readLet_60 ?_
          refine a_dup2 eX4_readLet_61 rfl rfl ?_
          refine a_iald eX4_readLet_62 (sh_city_4 ha) rfl (by omega) ?_
          refine a_eqtop (y0 := (((σ.1 (a + 4) rk).toNat : Nat) : Int)) (by rw [e4]; omega) ?_
          refine a_iconst eX4_readLet_63 ?_
          refine a_ild1 eX4_readLet_64 ?_
          refine a_ishl (1 * 2 ^ (d 0 1).toNat) eX4_readLet_65 (jI_shl (by decide) (by omega) (aw_pow8 (by omega))) ?_
          refine a_ior (((σ.1 (a + 4) rk).toNat ||| 2 ^ (d 0 1).toNat : Nat) : Int) eX4_readLet_66 (aw_or_pow _ (by omega)) ?_
          refine a_iast eX4_readLet_67 (sh_city_4 ha) rfl (by omega) ?_
          refine a_ald0 eX4_readLet_68 ?_
          refine a_getR 2 a eX4_readLet_69 fl_X4_18 rfl rfl sh_1 ((congrFun (congrFun hR _) _).trans hrd) ?_
          refine a_getR 6 (a + 5) eX4_readLet_72 fl_X4_134 rfl rfl (sh_city ha) ((congrFun (congrFun hR _) _).trans (rf_city_6 ha)) ?_
          refine a_ild1 eX4_readLet_75 ?_
          refine a_ald0 eX4_readLet_76 ?_
          refine a_getI 11 eX4_readLet_77 fl_X4_109 rfl rfl sh_1 ?_
          refine a_eqtop (y0 := nv B nn (te B nn (te B nn q))) (by rw [rd_si_ne (by omega)]; exact v2) ?_
          refine a_iast eX4_readLet_80 (sh_city_5 ha) rfl (by omega) ?_
          refine AW.ex (fun s => ((∀ (b : Nat) (j : Int), ¬ (b = 1 ∧ (8 ≤ j ∧ j ≤ 11)) → ¬ (j = d 0 1 ∧ (b = a + 5 ∨ b = a + 6 ∨ b = a + 7)) → ¬ (b = a + 4 ∧ j = rk) → s.1 b j = σ.1 b j) ∧ s.2 = σ.2) ∧ s.1 1 8 = te B nn (te B nn (te B nn q)) ∧ s.1 (a + 4) rk = (((σ.1 (a + 4) rk).toNat ||| 2 ^ (d 0 1).toNat : Nat) : Int) ∧ s.1 (a + 5) (d 0 1) = nv B nn (te B nn (te B nn q))) ⟨⟨fun b j z1 z2 z3 => by rw [rd_si, if_neg (by omega), rd_si, if_neg (by omega), f2.1 b j z1]; exact f1.1 b j z1, f2.2.trans f1.2⟩, by rw [rd_si_ne (by omega), rd_si_ne (by omega)]; exact hC2.1, by rw [rd_si_ne (by omega), rd_si_eq], rd_si_eq⟩ (fun σ3 h3 => ?_)
          obtain ⟨⟨fo, fz⟩, h38, w0, w1⟩ := h3
          have fT3 : frTx a σ σ3 := ⟨fun b j z1 z2 z3 z4 => fo b j (by omega) (by omega) (by omega), fz⟩
          have hR3 : σ3.2.2 = RF tw cs := by rw [fz, ← f1.2]; exact hR1
          have hR := hR3
          have hT3 := txC_T ha fT3 hT
          refine a_ald0 eX4_readLet_81 ?_
          refine a_iconst eX4_readLet_82 ?_
          refine a_bipush eX4_readLet_83 (by decide) ?_
          refine a_cV2 eX4_readLet_85 lk_X4_105 mV_X4_readNumberWithin sh_1 ⟨_, rfl, rfl⟩ mt_X4_readNumberWithin rfl rfl rfl rfl rfl rfl (c_X4_readNumberWithin hR hT3 wT (q := te B nn (te B nn (te B nn q))) (by omega) h38 (by omega) (fun σ4 f4 hC4 v4 hT85 => ?_) (fun σ4 f4 hC4 hF85 => ?_))
          · skip
            dsimp only [Option.toList, List.cons_append, List.nil_append]
            have hR4 : σ4.2.2 = RF tw cs := by rw [f4.2]; exact hR
            have hR := hR4
            have fT4 := frTx_tr fT3 (frTx_K f4)
            refine a_if_ne 93 eX4_readLet_88 (by decide) (by omega) (fun _ => ?_) (fun h => absurd h (by decide))
            refine a_ald0 eX4_readLet_93 ?_
            refine a_getR 2 a eX4_readLet_94 fl_X4_18 rfl rfl sh_1 ((congrFun (congrFun hR _) _).trans hrd) ?_
            refine a_getR 7 (a + 6) eX4_readLet_97 fl_X4_137 rfl rfl (sh_city ha) ((congrFun (congrFun hR _) _).trans (rf_city_7 ha)) ?_
            refine a_ild1 eX4_readLet_100 ?_
            refine a_ald0 eX4_readLet_101 ?_
            refine a_getI 11 eX4_readLet_102 fl_X4_109 rfl rfl sh_1 ?_
            refine a_eqtop (y0 := nv B nn (te B nn (te B nn (te B nn q)))) (by exact v4) ?_
            refine a_iast eX4_readLet_105 (sh_city_6 ha) rfl (by omega) ?_
            have hn4 := id hT85
            unfold isnum at hn4
            refine AW.ex (fun s => ((∀ (b : Nat) (j : Int), ¬ (b = 1 ∧ (8 ≤ j ∧ j ≤ 11)) → ¬ (j = d 0 1 ∧ (b = a + 5 ∨ b = a + 6 ∨ b = a + 7)) → ¬ (b = a + 4 ∧ j = rk) → s.1 b j = σ.1 b j) ∧ s.2 = σ.2) ∧ s.1 1 8 = te B nn (te B nn (te B nn (te B nn q))) ∧ s.1 (a + 4) rk = (((σ.1 (a + 4) rk).toNat ||| 2 ^ (d 0 1).toNat : Nat) : Int) ∧ s.1 (a + 5) (d 0 1) = nv B nn (te B nn (te B nn q)) ∧ s.1 (a + 6) (d 0 1) = nv B nn (te B nn (te B nn (te B nn q)))) ⟨⟨fun b j z1 z2 z3 => by rw [rd_si, if_neg (by omega), f4.1 b j z1]; exact fo b j z1 z2 z3, f4.2.trans fz⟩, by rw [rd_si_ne (by omega)]; exact hC4.1, by rw [rd_si_ne (by omega), f4.1 _ _ (by omega)]; exact w0, by rw [rd_si_ne (by omega), f4.1 _ _ (by omega)]; exact w1, rd_si_eq⟩ (fun σ5 h5 => ?_)
            obtain ⟨⟨fo, fz⟩, h58, w0, w1, w2⟩ := h5
            have fT5 : frTx a σ σ5 := ⟨fun b j z1 z2 z3 z4 => fo b j (by omega) (by omega) (by omega), fz⟩
            have hR5 : σ5.2.2 = RF tw cs := by rw [fz, ← f1.2]; exact hR1
            have hR := hR5
            have hT5 := txC_T ha fT5 hT
            refine a_ald0 eX4_readLet_106 ?_
            refine a_ald0 eX4_readLet_107 ?_
            refine a_getR 2 a eX4_readLet_108 fl_X4_18 rfl rfl sh_1 ((congrFun (congrFun hR _) _).trans hrd) ?_
            refine a_getR 7 (a + 6) eX4_readLet_111 fl_X4_137 rfl rfl (sh_city ha) ((congrFun (congrFun hR _) _).trans (rf_city_7 ha)) ?_
            refine a_ild1 eX4_readLet_114 ?_
            refine a_iald eX4_readLet_115 (sh_city_6 ha) rfl (by omega) ?_
            refine a_eqtop (y0 := nv B nn (te B nn (te B nn (te B nn q)))) (by exact w2) ?_
            refine a_bipush eX4_readLet_116 (by decide) ?_
            refine a_cV2 eX4_readLet_118 lk_X4_105 mV_X4_readNumberWithin sh_1 ⟨_, rfl, rfl⟩ mt_X4_readNumberWithin rfl rfl rfl rfl rfl rfl (c_X4_readNumberWithin hR hT5 wT (q := te B nn (te B nn (te B nn (te B nn q)))) (by omega) h58 (by omega) (fun σ6 f6 hC6 v6 hT118 => ?_) (fun σ6 f6 hC6 hF118 => ?_))
            · skip
              dsimp only [Option.toList, List.cons_append, List.nil_append]
              have hR6 : σ6.2.2 = RF tw cs := by rw [f6.2]; exact hR
              have hR := hR6
              have fT6 := frTx_tr fT5 (frTx_K f6)
              refine a_if_ne 126 eX4_readLet_121 (by decide) (by omega) (fun _ => ?_) (fun h => absurd h (by decide))
              refine a_ald0 eX4_readLet_126 ?_
              refine a_getR 2 a eX4_readLet_127 fl_X4_18 rfl rfl sh_1 ((congrFun (congrFun hR _) _).trans hrd) ?_
              refine a_getR 8 (a + 7) eX4_readLet_130 fl_X4_140 rfl rfl (sh_city ha) ((congrFun (congrFun hR _) _).trans (rf_city_8 ha)) ?_
              refine a_ild1 eX4_readLet_133 ?_
              refine a_ald0 eX4_readLet_134 ?_
              refine a_getI 11 eX4_readLet_135 fl_X4_109 rfl rfl sh_1 ?_
              refine a_eqtop (y0 := nv B nn (te B nn (te B nn (te B nn (te B nn q))))) (by exact v6) ?_
              refine a_iast eX4_readLet_138 (sh_city_7 ha) rfl (by omega) ?_
              refine a_ald0 eX4_readLet_139 ?_
              refine a_getR 2 a eX4_readLet_140 fl_X4_18 rfl rfl sh_1 ((congrFun (congrFun hR _) _).trans hrd) ?_
              refine a_dup eX4_readLet_143 rfl ?_
              refine a_getI 4 eX4_readLet_144 fl_X4_128 rfl rfl (sh_city ha) ?_
              refine a_eqtop (y0 := d 0 1) (by rw [rd_si_ne (by omega), f6.1 _ _ (by omega), fo _ _ (by omega) (by omega) (by omega)]; exact g3) ?_
              refine a_iconst eX4_readLet_147 ?_
              refine a_iadd eX4_readLet_148 ?_
              refine a_putI 4 eX4_readLet_149 fl_X4_128 rfl rfl (sh_city ha) (fun q h => Or.inl (by cases h; rfl)) ?_
              refine AW.ex (fun s => ((∀ (b : Nat) (j : Int), ¬ (b = 1 ∧ (8 ≤ j ∧ j ≤ 11)) → ¬ (j = d 0 1 ∧ (b = a + 5 ∨ b = a + 6 ∨ b = a + 7)) → ¬ (b = a + 4 ∧ j = rk) → ¬ (b = a ∧ j = 4) → s.1 b j = σ.1 b j) ∧ s.2 = σ.2) ∧ s.1 1 8 = te B nn (te B nn (te B nn (te B nn (te B nn q)))) ∧ (s.1 (a + 4) rk = (((σ.1 (a + 4) rk).toNat ||| 2 ^ (d 0 1).toNat : Nat) : Int) ∧ s.1 (a + 5) (d 0 1) = nv B nn (te B nn (te B nn q)) ∧ s.1 (a + 6) (d 0 1) = nv B nn (te B nn (te B nn (te B nn q))) ∧ s.1 (a + 7) (d 0 1) = nv B nn (te B nn (te B nn (te B nn (te B nn q))))) ∧ s.1 a 4 = d 0 1 + 1) ⟨⟨fun b j z1 z2 z3 z4 => ?_, f6.2.trans fz⟩, ?_, ⟨?_, ?_, ?_, ?_⟩, rd_si_eq⟩ (fun σ7 h7 => ?_)
              · rw [rd_si, if_neg (by omega), rd_si, if_neg (by omega), f6.1 b j z1]; exact fo b j z1 z2 z3
              · rw [rd_si_ne (by omega), rd_si_ne (by omega)]; exact hC6.1
              · rw [rd_si_ne (by omega), rd_si_ne (by omega), f6.1 _ _ (by omega)]; exact w0
              · rw [rd_si_ne (by omega), rd_si_ne (by omega), f6.1 _ _ (by omega)]; exact w1
              · rw [rd_si_ne (by omega), rd_si_ne (by omega), f6.1 _ _ (by omega)]; exact w2
              · rw [rd_si_ne (by omega), rd_si_eq]
              obtain ⟨⟨fo, fz⟩, h78, ⟨w0, w1, w2, w3'⟩, v0⟩ := h7
              have fT7 : frTx a σ σ7 := ⟨fun b j z1 z2 z3 z4 => fo b j (by omega) (by omega) (by omega) (by omega), fz⟩
              have hR7 : σ7.2.2 = RF tw cs := by rw [fz, ← f1.2]; exact hR1
              have hR := hR7
              have hT7 := txC_T ha fT7 hT
              refine a_ald0 eX4_readLet_152 ?_
              refine a_cV0 eX4_readLet_153 lk_X4_125 mV_X4_readStop sh_1 ⟨_, rfl, rfl⟩ mt_X4_readStop rfl rfl rfl rfl (c_X4_readStop hR hT7 wT (q := te B nn (te B nn (te B nn (te B nn (te B nn q))))) (by omega) h78 (fun σ9 f9 hC9 hT153 => ?_) (fun σ9 f9 hC9 hF153 => ?_))
              · skip
                dsimp only [Option.toList, List.cons_append, List.nil_append]
                refine a_zret eX4_readLet_156 rfl (by first | exact Or.inl rfl | exact Or.inr rfl | omega) rfl ⟨Nat.zero_le _, Nat.zero_le _⟩ ?_
                refine hk1 σ9 (ltD B nn d (te B nn q) rk) (frTx_tr fT7 (frTx_K f9)) ?_ (drC_lt ha hG (by omega) (by omega) (fun b j z1 z2 z3 z4 => (f9.1 b j z1).trans (fo b j z1 z2 z3 z4)) ?_ ?_ ?_ ?_ ?_)
                · unfold ltP
                  rw [cif_n (by omega), hRK, cif_n (by omega), cif_n (fun z => z hT45), cif_n (fun z => z hT85), cif_n (fun z => z hT118), cif_n (fun z => z hT153), hC9.1]
                · rw [f9.1 _ _ (by omega)]; exact v0
                · rw [f9.1 _ _ (by omega)]; exact w0
                · rw [f9.1 _ _ (by omega)]; exact w1
                · rw [f9.1 _ _ (by omega)]; exact w2
                · rw [f9.1 _ _ (by omega)]; exact w3'
              · skip
                dsimp only [Option.toList, List.cons_append, List.nil_append]
                refine a_zret eX4_readLet_156 rfl (by first | exact Or.inl rfl | exact Or.inr rfl | omega) rfl ⟨Nat.zero_le _, Nat.zero_le _⟩ ?_
                refine hk0 σ9 (frTx_tr fT7 (frTx_K f9)) ?_
                unfold ltP
                rw [cif_n (by omega), hRK, cif_n (by omega), cif_n (fun z => z hT45), cif_n (fun z => z hT85), cif_n (fun z => z hT118), cif_y hF153, hC9.2.1]
            · skip
              dsimp only [Option.toList, List.cons_append, List.nil_append]
              have hR6 : σ6.2.2 = RF tw cs := by rw [f6.2]; exact hR
              have hR := hR6
              have fT6 := frTx_tr fT5 (frTx_K f6)
              refine a_if_ne 126 eX4_readLet_121 (by decide) (by omega) (fun h => absurd h (by decide)) (fun _ => ?_)
              refine a_iconst eX4_readLet_124 ?_
              refine a_zret eX4_readLet_125 rfl (by first | exact Or.inl rfl | exact Or.inr rfl | omega) rfl ⟨Nat.zero_le _, Nat.zero_le _⟩ ?_
              refine hk0 σ6 fT6 ?_
              unfold ltP
              rw [cif_n (by omega), hRK, cif_n (by omega), cif_n (fun z => z hT45), cif_n (fun z => z hT85), cif_y hF118, hC6.2.1]
          · skip
            dsimp only [Option.toList, List.cons_append, List.nil_append]
            have hR4 : σ4.2.2 = RF tw cs := by rw [f4.2]; exact hR
            have hR := hR4
            have fT4 := frTx_tr fT3 (frTx_K f4)
            refine a_if_ne 93 eX4_readLet_88 (by decide) (by omega) (fun h => absurd h (by decide)) (fun _ => ?_)
            refine a_iconst eX4_readLet_91 ?_
            refine a_zret eX4_readLet_92 rfl (by first | exact Or.inl rfl | exact Or.inr rfl | omega) rfl ⟨Nat.zero_le _, Nat.zero_le _⟩ ?_
            refine hk0 σ4 fT4 ?_
            unfold ltP
            rw [cif_n (by omega), hRK, cif_n (by omega), cif_n (fun z => z hT45), cif_y hF85, hC4.2.1]
        · skip
          dsimp only [Option.toList, List.cons_append, List.nil_append]
          have hR2 : σ2.2.2 = RF tw cs := by rw [f2.2]; exact hR
          have hR := hR2
          refine a_if_ne 53 eX4_readLet_48 (by decide) (by omega) (fun h => absurd h (by decide)) (fun _ => ?_)
          refine a_iconst eX4_readLet_51 ?_
          refine a_zret eX4_readLet_52 rfl (by first | exact Or.inl rfl | exact Or.inr rfl | omega) rfl ⟨Nat.zero_le _, Nat.zero_le _⟩ ?_
          refine hk0 σ2 (frTx_tr (frTx_K f1) (frTx_K f2)) ?_
          unfold ltP
          rw [cif_n (by omega), hRK, cif_n (by omega), cif_y hF45, hC2.2.1]
  · skip
    refine a_iconst eX4_readLet_14 ?_
    refine a_zret eX4_readLet_15 rfl (by first | exact Or.inl rfl | exact Or.inr rfl | omega) rfl ⟨Nat.zero_le _, Nat.zero_le _⟩ ?_
    refine hk0 σ (frTx_rf a σ) ?_
    unfold ltP
    rw [cif_y (by omega), hC.2.1]

set_option maxHeartbeats 4000000 in
set_option maxRecDepth 100000 in
theorem c_X4_readStatement {l : Launch} {σ : aw_S} {Post : Option Value → aw_S → Prop} {tw cs : Bool} (hR : σ.2.2 = RF tw cs) {a : Nat} (ha : isCity a) (hrd : RF tw cs 1 2 = some a) {B : Int → Int} {nn : Int} (hT : txC σ B nn) (wT : wfTx B nn) {d : mS} {q : Int} (hG : drC σ a d) (wG : wfDr B nn d) (hq : 0 ≤ q ∧ q ≤ nn) (hC : tkC σ B nn q) (hk0 : ∀ σ', frTx a σ σ' → stP B nn d q = .inl (σ'.1 1 9) → Post (some (.int (jI 0))) σ') (hk1 : ∀ σ' d', frTx a σ σ' → stP B nn d q = .inr (σ'.1 1 8, d') → drC σ' a d' → Post (some (.int (jI 1))) σ')  : AE l yX4_readStatement cX4_readStatement 1 (some .boolean) 8 169 0 0 SH SH σ [.ref 1] Post := by
  show AW l yX4_readStatement cX4_readStatement 1 (some .boolean) 8 169 0 0 SH Post SH 0 0 σ 0 [some (.ref 1)] []
  refine a_ald0 eX4_readStatement_0 ?_
  refine a_ldcS (i := 0) (tx := "rank") eX4_readStatement_1 (List.mem_of_getElem? (i := 0) rfl) ?_
  refine a_cV1 eX4_readStatement_3 lk_X4_71 mV_X4_isWord sh_1 ⟨_, rfl, rfl⟩ mt_X4_isWord rfl rfl rfl rfl rfl (c_X4_isWord (i := 0) hR hT wT (by decide) hq hC (fun hT3 => ?_) (fun hF3 => ?_))
  · skip
    dsimp only [Option.toList, List.cons_append, List.nil_append]
    refine a_if_eq 14 eX4_readStatement_6 (by decide) (by omega) (fun h => absurd h (by decide)) (fun _ => ?_)
    refine a_ald0 eX4_readStatement_9 ?_
    refine a_cV0 eX4_readStatement_10 lk_X4_75 mV_X4_readRank sh_1 ⟨_, rfl, rfl⟩ mt_X4_readRank rfl rfl rfl rfl (c_X4_readRank hR ha hrd hT wT hG wG hq hC (fun σ1 f1 hp1 => ?_) (fun σ1 d1 f1 hp1 hG1 => ?_))
    · skip
      dsimp only [Option.toList, List.cons_append, List.nil_append]
      refine a_zret eX4_readStatement_13 rfl (by first | exact Or.inl rfl | exact Or.inr rfl | omega) rfl ⟨Nat.zero_le _, Nat.zero_le _⟩ ?_
      exact hk0 σ1 f1 (by unfold stP; rw [cif_y hT3]; exact hp1)
    · skip
      dsimp only [Option.toList, List.cons_append, List.nil_append]
      refine a_zret eX4_readStatement_13 rfl (by first | exact Or.inl rfl | exact Or.inr rfl | omega) rfl ⟨Nat.zero_le _, Nat.zero_le _⟩ ?_
      exact hk1 σ1 d1 f1 (by unfold stP; rw [cif_y hT3]; exact hp1) hG1
  · skip
    dsimp only [Option.toList, List.cons_append, List.nil_append]
    refine a_if_eq 14 eX4_readStatement_6 (by decide) (by omega) (fun _ => ?_) (fun h => absurd h (by decide))
    refine a_ald0 eX4_readStatement_14 ?_
    refine a_ldcS (i := 1) (tx := "let") eX4_readStatement_15 (List.mem_of_getElem? (i := 1) rfl) ?_
    refine a_cV1 eX4_readStatement_17 lk_X4_71 mV_X4_isWord sh_1 ⟨_, rfl, rfl⟩ mt_X4_isWord rfl rfl rfl rfl rfl (c_X4_isWord (i := 1) hR hT wT (by decide) hq hC (fun hT17 => ?_) (fun hF17 => ?_))
    · skip
      dsimp only [Option.toList, List.cons_append, List.nil_append]
      refine a_if_eq 28 eX4_readStatement_20 (by decide) (by omega) (fun h => absurd h (by decide)) (fun _ => ?_)
      refine a_ald0 eX4_readStatement_23 ?_
      refine a_cV0 eX4_readStatement_24 lk_X4_80 mV_X4_readLet sh_1 ⟨_, rfl, rfl⟩ mt_X4_readLet rfl rfl rfl rfl (c_X4_readLet hR ha hrd hT wT hG wG hq hC (fun σ1 f1 hp1 => ?_) (fun σ1 d1 f1 hp1 hG1 => ?_))
      · skip
        dsimp only [Option.toList, List.cons_append, List.nil_append]
        refine a_zret eX4_readStatement_27 rfl (by first | exact Or.inl rfl | exact Or.inr rfl | omega) rfl ⟨Nat.zero_le _, Nat.zero_le _⟩ ?_
        exact hk0 σ1 f1 (by unfold stP; rw [cif_n hF3, cif_y hT17]; exact hp1)
      · skip
        dsimp only [Option.toList, List.cons_append, List.nil_append]
        refine a_zret eX4_readStatement_27 rfl (by first | exact Or.inl rfl | exact Or.inr rfl | omega) rfl ⟨Nat.zero_le _, Nat.zero_le _⟩ ?_
        exact hk1 σ1 d1 f1 (by unfold stP; rw [cif_n hF3, cif_y hT17]; exact hp1) hG1
    · skip
      dsimp only [Option.toList, List.cons_append, List.nil_append]
      refine a_if_eq 28 eX4_readStatement_20 (by decide) (by omega) (fun _ => ?_) (fun h => absurd h (by decide))
      refine a_ald0 eX4_readStatement_28 ?_
      refine a_ldcS (i := 2) (tx := "fare") eX4_readStatement_29 (List.mem_of_getElem? (i := 2) rfl) ?_
      refine a_cV1 eX4_readStatement_31 lk_X4_71 mV_X4_isWord sh_1 ⟨_, rfl, rfl⟩ mt_X4_isWord rfl rfl rfl rfl rfl (c_X4_isWord (i := 2) hR hT wT (by decide) hq hC (fun hT31 => ?_) (fun hF31 => ?_))
      · skip
        dsimp only [Option.toList, List.cons_append, List.nil_append]
        refine a_if_eq 42 eX4_readStatement_34 (by decide) (by omega) (fun h => absurd h (by decide)) (fun _ => ?_)
        refine a_ald0 eX4_readStatement_37 ?_
        refine a_cV0 eX4_readStatement_38 lk_X4_85 mV_X4_readFare sh_1 ⟨_, rfl, rfl⟩ mt_X4_readFare rfl rfl rfl rfl (c_X4_readFare hR ha hrd hT wT hG wG hq hC (fun σ1 f1 hp1 => ?_) (fun σ1 d1 f1 hp1 hG1 => ?_))
        · skip
          dsimp only [Option.toList, List.cons_append, List.nil_append]
          refine a_zret eX4_readStatement_41 rfl (by first | exact Or.inl rfl | exact Or.inr rfl | omega) rfl ⟨Nat.zero_le _, Nat.zero_le _⟩ ?_
          exact hk0 σ1 f1 (by unfold stP; rw [cif_n hF3, cif_n hF17, cif_y hT31]; exact hp1)
        · skip
          dsimp only [Option.toList, List.cons_append, List.nil_append]
          refine a_zret eX4_readStatement_41 rfl (by first | exact Or.inl rfl | exact Or.inr rfl | omega) rfl ⟨Nat.zero_le _, Nat.zero_le _⟩ ?_
          exact hk1 σ1 d1 f1 (by unfold stP; rw [cif_n hF3, cif_n hF17, cif_y hT31]; exact hp1) hG1
      · skip
        dsimp only [Option.toList, List.cons_append, List.nil_append]
        refine a_if_eq 42 eX4_readStatement_34 (by decide) (by omega) (fun _ => ?_) (fun h => absurd h (by decide))
        refine a_ald0 eX4_readStatement_42 ?_
        refine a_ldcS (i := 3) (tx := "short") eX4_readStatement_43 (List.mem_of_getElem? (i := 3) rfl) ?_
        refine a_cV1 eX4_readStatement_45 lk_X4_71 mV_X4_isWord sh_1 ⟨_, rfl, rfl⟩ mt_X4_isWord rfl rfl rfl rfl rfl (c_X4_isWord (i := 3) hR hT wT (by decide) hq hC (fun hT45 => ?_) (fun hF45 => ?_))
        · skip
          dsimp only [Option.toList, List.cons_append, List.nil_append]
          refine a_if_eq 56 eX4_readStatement_48 (by decide) (by omega) (fun h => absurd h (by decide)) (fun _ => ?_)
          refine a_ald0 eX4_readStatement_51 ?_
          refine a_cV0 eX4_readStatement_52 lk_X4_90 mV_X4_readShort sh_1 ⟨_, rfl, rfl⟩ mt_X4_readShort rfl rfl rfl rfl (c_X4_readShort hR ha hrd hT wT hG wG hq hC (fun σ1 f1 hp1 => ?_) (fun σ1 d1 f1 hp1 hG1 => ?_))
          · skip
            dsimp only [Option.toList, List.cons_append, List.nil_append]
            refine a_zret eX4_readStatement_55 rfl (by first | exact Or.inl rfl | exact Or.inr rfl | omega) rfl ⟨Nat.zero_le _, Nat.zero_le _⟩ ?_
            exact hk0 σ1 f1 (by unfold stP; rw [cif_n hF3, cif_n hF17, cif_n hF31, cif_y hT45]; exact hp1)
          · skip
            dsimp only [Option.toList, List.cons_append, List.nil_append]
            refine a_zret eX4_readStatement_55 rfl (by first | exact Or.inl rfl | exact Or.inr rfl | omega) rfl ⟨Nat.zero_le _, Nat.zero_le _⟩ ?_
            exact hk1 σ1 d1 f1 (by unfold stP; rw [cif_n hF3, cif_n hF17, cif_n hF31, cif_y hT45]; exact hp1) hG1
        · skip
          dsimp only [Option.toList, List.cons_append, List.nil_append]
          refine a_if_eq 56 eX4_readStatement_48 (by decide) (by omega) (fun _ => ?_) (fun h => absurd h (by decide))
          refine a_ald0 eX4_readStatement_56 ?_
          refine a_ldcS (i := 4) (tx := "coin") eX4_readStatement_57 (List.mem_of_getElem? (i := 4) rfl) ?_
          refine a_cV1 eX4_readStatement_59 lk_X4_71 mV_X4_isWord sh_1 ⟨_, rfl, rfl⟩ mt_X4_isWord rfl rfl rfl rfl rfl (c_X4_isWord (i := 4) hR hT wT (by decide) hq hC (fun hT59 => ?_) (fun hF59 => ?_))
          · skip
            dsimp only [Option.toList, List.cons_append, List.nil_append]
            refine a_if_eq 76 eX4_readStatement_62 (by decide) (by omega) (fun h => absurd h (by decide)) (fun _ => ?_)
            refine a_ald0 eX4_readStatement_65 ?_
            refine a_cV0 eX4_readStatement_66 lk_X4_95 mV_X4_readCoin sh_1 ⟨_, rfl, rfl⟩ mt_X4_readCoin rfl rfl rfl rfl (c_X4_readCoin hR ha hrd hT wT hG wG hq hC (fun σ1 f1 hp1 => ?_) (fun σ1 d1 f1 hp1 hG1 => ?_))
            · skip
              dsimp only [Option.toList, List.cons_append, List.nil_append]
              refine a_if_eq 76 eX4_readStatement_69 (by decide) (by omega) (fun _ => ?_) (fun h => absurd h (by decide))
              refine a_iconst eX4_readStatement_76 ?_
              refine a_zret eX4_readStatement_77 rfl (by first | exact Or.inl rfl | exact Or.inr rfl | omega) rfl ⟨Nat.zero_le _, Nat.zero_le _⟩ ?_
              first
                | exact hk0 σ1 f1 (by unfold stP; rw [cif_n hF3, cif_n hF17, cif_n hF31, cif_n hF45, cif_y hT59]; exact hp1)
                | (refine hk0 σ (frTx_rf a σ) ?_
                   unfold stP
                   rw [cif_n hF3, cif_n hF17, cif_n hF31, cif_n hF45, cif_n hF59, hC.2.1])
            · skip
              dsimp only [Option.toList, List.cons_append, List.nil_append]
              refine a_if_eq 76 eX4_readStatement_69 (by decide) (by omega) (fun h => absurd h (by decide)) (fun _ => ?_)
              refine a_iconst eX4_readStatement_72 ?_
              refine a_goto 77 eX4_readStatement_73 (by decide) ?_
              refine a_zret eX4_readStatement_77 rfl (by first | exact Or.inl rfl | exact Or.inr rfl | omega) rfl ⟨Nat.zero_le _, Nat.zero_le _⟩ ?_
              exact hk1 σ1 d1 f1 (by unfold stP; rw [cif_n hF3, cif_n hF17, cif_n hF31, cif_n hF45, cif_y hT59]; exact hp1) hG1
          · skip
            dsimp only [Option.toList, List.cons_append, List.nil_append]
            refine a_if_eq 76 eX4_readStatement_62 (by decide) (by omega) (fun _ => ?_) (fun h => absurd h (by decide))
            refine a_iconst eX4_readStatement_76 ?_
            refine a_zret eX4_readStatement_77 rfl (by first | exact Or.inl rfl | exact Or.inr rfl | omega) rfl ⟨Nat.zero_le _, Nat.zero_le _⟩ ?_
            first
              | exact hk0 σ1 f1 (by unfold stP; rw [cif_n hF3, cif_n hF17, cif_n hF31, cif_n hF45, cif_y hT59]; exact hp1)
              | (refine hk0 σ (frTx_rf a σ) ?_
                 unfold stP
                 rw [cif_n hF3, cif_n hF17, cif_n hF31, cif_n hF45, cif_n hF59, hC.2.1])

theorem drC_0 {a : Nat} {σ : aw_S} (h0 : σ.1 a 0 = 0 ∧ σ.1 a 4 = 0) (h4 : ∀ r : Int, 0 ≤ r → r < 6 → σ.1 (a + 4) r = 0) (h13 : (σ.1 a 13 = 0 ∧ σ.1 a 14 = 0) ∧ σ.1 a 15 = 1) (h5 : σ.1 1 5 = 0 ∧ σ.1 1 6 = 0 ∧ σ.1 1 7 = 0) : drC σ a dr0 := by
  have e : ∀ b j : Int, ¬ (b = 0 ∧ j = 2) → dr0 b j = 0 := fun b j z => if_neg z
  have e2 : dr0 0 2 = 1 := rfl
  refine ⟨⟨by rw [e 0 0 (by omega)]; exact h0.1, fun r r1 r2 => by rw [e 0 0 (by omega)] at r2; omega⟩, ⟨by rw [e 0 1 (by omega)]; exact h0.2, fun r r1 r2 => by rw [e 0 1 (by omega)] at r2; omega⟩, fun r r1 r2 => ?_, fun z => by rw [e 0 10 (by omega)] at z; omega, ⟨by rw [e 9 0 (by omega)]; exact h13.1.1, by rw [e 9 1 (by omega)]; exact h13.1.2⟩, by rw [e2]; exact h13.2, ⟨by rw [e 0 10 (by omega)]; exact h5.1, by rw [e 0 11 (by omega)]; exact h5.2.1, by rw [e 0 12 (by omega)]; exact h5.2.2⟩, fun r r1 r2 => by rw [e 0 0 (by omega)] at r2; omega⟩
  rw [h4 r r1 r2]
  refine ⟨by omega, aw_mb (fun k => ?_)⟩
  rw [e 0 1 (by omega)]
  constructor
  · intro z
    rw [show (0 : Int).toNat = 0 from rfl, Nat.zero_testBit] at z
    cases z
  · intro z
    omega
set_option maxHeartbeats 4000000 in
set_option maxRecDepth 100000 in
theorem c_X3_clear {l : Launch} {σ : aw_S} {Post : Option Value → aw_S → Prop} {a : Nat} (ha : isCity a) {tw cs : Bool} (hR : σ.2.2 = RF tw cs) (hk : ∀ σ', ((∀ (b : Nat) (j : Int), ¬ (a ≤ b ∧ b ≤ a + 7) → σ'.1 b j = σ.1 b j) ∧ σ'.2 = σ.2) → (σ'.1 a 0 = 0 ∧ σ'.1 a 4 = 0) → (∀ r : Int, 0 ≤ r → r < 6 → σ'.1 (a + 4) r = 0) → ((σ'.1 a 13 = 0 ∧ σ'.1 a 14 = 0) ∧ σ'.1 a 15 = 1) → Post none σ')  : AE l yX3_clear cX3_clear 1 (none : Option Jvm.ClassFile.FieldType) 1 23 0 0 SH SH σ [.ref a] Post := by
  show AW l yX3_clear cX3_clear 1 (none : Option Jvm.ClassFile.FieldType) 1 23 0 0 SH Post SH 0 0 σ 0 [some (.ref a)] []
  refine a_ald0 eX3_clear_0 ?_
  refine a_iconst eX3_clear_1 ?_
  refine a_putI 0 eX3_clear_2 fl_X3_40 rfl rfl (sh_city ha) (fun q h => Or.inl (by cases h; rfl)) ?_
  refine a_ald0 eX3_clear_5 ?_
  refine a_iconst eX3_clear_6 ?_
  refine a_putI 4 eX3_clear_7 fl_X3_43 rfl rfl (sh_city ha) (fun q h => Or.inl (by cases h; rfl)) ?_
  refine a_ald0 eX3_clear_10 ?_
  refine a_getR 5 (a + 4) eX3_clear_11 fl_X3_21 rfl rfl (sh_city ha) ((congrFun (congrFun hR _) _).trans (rf_city_5 ha)) ?_
  refine a_iconst eX3_clear_14 ?_
  refine a_cS2 eX3_clear_15 lk_X3_46 mS_J7_fill_53178 mt_J7_fill_53178 rfl rfl rfl rfl rfl rfl (c_J7_fill_53178 (sh_city_4 ha) rfl ?_)
  dsimp only [Option.toList, List.cons_append, List.nil_append]
  refine a_ald0 eX3_clear_18 ?_
  refine a_iconst eX3_clear_19 ?_
  refine a_putI 13 eX3_clear_20 fl_X3_52 rfl rfl (sh_city ha) (fun q h => Or.inl (by cases h; rfl)) ?_
  refine a_ald0 eX3_clear_23 ?_
  refine a_iconst eX3_clear_24 ?_
  refine a_putI 14 eX3_clear_25 fl_X3_55 rfl rfl (sh_city ha) (fun q h => Or.inl (by cases h; rfl)) ?_
  refine a_ald0 eX3_clear_28 ?_
  refine a_iconst eX3_clear_29 ?_
  refine a_putI 15 eX3_clear_30 fl_X3_37 rfl rfl (sh_city ha) (fun q h => Or.inl (by cases h; rfl)) ?_
  refine a_vret eX3_clear_33 rfl rfl ⟨Nat.zero_le _, Nat.zero_le _⟩ ?_
  refine hk _ ⟨fun b j z => ?_, rfl⟩ ⟨?_, ?_⟩ (fun r r1 r2 => ?_) ⟨⟨?_, ?_⟩, ?_⟩
  · rw [rd_si_ne (by omega), rd_si_ne (by omega), rd_si_ne (by omega), rd_sa_ne (by omega), rd_si_ne (by omega), rd_si_ne (by omega)]
  · rw [rd_si_ni (by omega), rd_si_ni (by omega), rd_si_ni (by omega), rd_sa_ne (by omega), rd_si_ni (by omega), rd_si_eq]
  · rw [rd_si_ni (by omega), rd_si_ni (by omega), rd_si_ni (by omega), rd_sa_ne (by omega), rd_si_eq]
  · rw [rd_si_ne (by omega), rd_si_ne (by omega), rd_si_ne (by omega), rd_sa_eq, if_pos (by omega)]
  · rw [rd_si_ni (by omega), rd_si_ni (by omega), rd_si_eq]
  · rw [rd_si_ni (by omega), rd_si_eq]
  · rw [rd_si_eq]

theorem stP_l {B : Int → Int} {n : Int} {d : mS} {q s : Int} (hq : 0 ≤ q ∧ q ≤ n) (hs : stP B n d q = .inl s) : 0 ≤ s ∧ s ≤ n := by
  have b0 := tok_b (B := B) hq
  have b1 := te_m (B := B) (n := n) (q := te B n q) (by omega)
  have b2 := te_m (B := B) (n := n) (q := te B n (te B n q)) (by omega)
  have b3 := te_m (B := B) (n := n) (q := te B n (te B n (te B n q))) (by omega)
  have b4 := te_m (B := B) (n := n) (q := te B n (te B n (te B n (te B n q)))) (by omega)
  have s1 := (tok_b (B := B) (n := n) (q := te B n q) (by omega)).1
  have s2 := (tok_b (B := B) (n := n) (q := te B n (te B n q)) (by omega)).1
  have s3 := (tok_b (B := B) (n := n) (q := te B n (te B n (te B n q))) (by omega)).1
  have s4 := (tok_b (B := B) (n := n) (q := te B n (te B n (te B n (te B n q)))) (by omega)).1
  have s5 := (tok_b (B := B) (n := n) (q := te B n (te B n (te B n (te B n (te B n q))))) (by omega)).1
  unfold stP rkP ltP faP shP coP cif at hs
  (repeat' split at hs) <;> first | (cases hs; omega) | cases hs
set_option maxHeartbeats 4000000 in
set_option maxRecDepth 100000 in
theorem lp_fp {l : Launch} {σ : aw_S} {Post : Option Value → aw_S → Prop} {tw cs : Bool} (hR : σ.2.2 = RF tw cs) {a : Nat} (ha : isCity a) (hrd : RF tw cs 1 2 = some a) {B : Int → Int} {nn : Int} (hT : txC σ B nn) (wT : wfTx B nn) (hk : ∀ σ', frTx a σ σ' → ((flt B nn).1 = -1 → drC σ' a (flt B nn).2) → Post (some (.int (jI (flt B nn).1))) σ')  : ∀ (n : Nat) (i : Int) (f : Nat) (d : mS) (q : Int) (σ1 : aw_S), (f ≤ n) → (0 ≤ i ∧ (f : Int) = nn + 1 - i) → (i ≤ q ∧ q ≤ nn) → (frTx a σ σ1) → (σ1.1 1 8 = q) → (drC σ1 a d) → (wfDr B nn d) → (flF B nn f d q = flt B nn) → AW l yX4_faultPlace cX4_faultPlace 2 (some .int) 9 189 0 0 SH Post SH 0 0 (σ1) 29 [some (.ref 1), some (.int (jI i))] [] := by
  intro n
  induction n with
  | zero =>
    intro i f d q σ1 hm hi hq f1 hat hG wG hfl
    obtain ⟨t1, t2⟩ := id hT
    have u1 := wT.1
    have hR0 : σ1.2.2 = RF tw cs := by rw [f1.2]; exact hR
    have hR := hR0
    have h13 : a = 3 ∨ a = 13 := ha
    have e1 : σ1.1 1 1 = nn := (txC_T ha f1 hT).1
    have b0 := tok_b (B := B) (n := nn) (q := q) (by omega)
    have hT1 := txC_T ha f1 hT
    refine a_ild1 eX4_faultPlace_29 ?_
    refine a_ald0 eX4_faultPlace_30 ?_
    refine a_getI 1 eX4_faultPlace_31 fl_X4_29 rfl rfl sh_1 ?_
    refine a_eqtop (y0 := nn) (by exact e1) ?_
    refine a_icmp_gt 93 eX4_faultPlace_34 (by decide) (by omega) (fun hT34 => ?_) (fun hF34 => ?_)
    · skip
      refine a_ald0 eX4_faultPlace_93 ?_
      refine a_getI 1 eX4_faultPlace_94 fl_X4_29 rfl rfl sh_1 ?_
      refine a_iret eX4_faultPlace_97 rfl rfl ⟨Nat.zero_le _, Nat.zero_le _⟩ ?_
      exfalso; omega
    · skip
      exfalso; omega
  | succ n ih =>
    intro i f d q σ1 hm hi hq f1 hat hG wG hfl
    obtain ⟨t1, t2⟩ := id hT
    have u1 := wT.1
    have hR0 : σ1.2.2 = RF tw cs := by rw [f1.2]; exact hR
    have hR := hR0
    have h13 : a = 3 ∨ a = 13 := ha
    have e1 : σ1.1 1 1 = nn := (txC_T ha f1 hT).1
    have b0 := tok_b (B := B) (n := nn) (q := q) (by omega)
    have hT1 := txC_T ha f1 hT
    refine a_ild1 eX4_faultPlace_29 ?_
    refine a_ald0 eX4_faultPlace_30 ?_
    refine a_getI 1 eX4_faultPlace_31 fl_X4_29 rfl rfl sh_1 ?_
    refine a_eqtop (y0 := nn) (by exact e1) ?_
    refine a_icmp_gt 93 eX4_faultPlace_34 (by decide) (by omega) (fun hT34 => ?_) (fun hF34 => ?_)
    · skip
      refine a_ald0 eX4_faultPlace_93 ?_
      refine a_getI 1 eX4_faultPlace_94 fl_X4_29 rfl rfl sh_1 ?_
      refine a_iret eX4_faultPlace_97 rfl rfl ⟨Nat.zero_le _, Nat.zero_le _⟩ ?_
      exfalso; omega
    · skip
      refine a_ald0 eX4_faultPlace_37 ?_
      refine a_cV0 eX4_faultPlace_38 lk_X4_49 mV_X4_readToken sh_1 ⟨_, rfl, rfl⟩ mt_X4_readToken rfl rfl rfl rfl (c_X4_readToken hR hT1 wT (q := q) (by omega) hat (fun σ2 f2 hC2 => ?_))
      dsimp only [Option.toList, List.cons_append, List.nil_append]
      have hR2 : σ2.2.2 = RF tw cs := by rw [f2.2]; exact hR
      have hR := hR2
      have f12 := frTx_tr f1 (frTx_K (a := a) f2)
      have hT2 := txC_K f2 hT1
      have hG2 : drC σ2 a d := drC_R ha (frRk_K ⟨fun _ _ _ _ => rfl, rfl⟩ f2) hG
      have w1 := wG.1
      have w9 := wG.2.2.2.2.2.2.2.2.1.1
      refine a_ald0 eX4_faultPlace_41 ?_
      refine a_getI 10 eX4_faultPlace_42 fl_X4_52 rfl rfl sh_1 ?_
      refine a_eqtop (y0 := tkd B nn q) (by exact hC2.2.2) ?_
      refine a_iconst eX4_faultPlace_45 ?_
      refine a_icmp_ne 75 eX4_faultPlace_46 (by decide) (by omega) (fun hT46 => ?_) (fun hF46 => ?_)
      · skip
        refine a_ald0 eX4_faultPlace_75 ?_
        refine a_cV0 eX4_faultPlace_76 lk_X4_58 mV_X4_readStatement sh_1 ⟨_, rfl, rfl⟩ mt_X4_readStatement rfl rfl rfl rfl (c_X4_readStatement hR ha hrd hT2 wT hG2 wG (q := q) (by omega) hC2 (fun σ3 f3 hp3 => ?_) (fun σ3 d3 f3 hp3 hG3 => ?_))
        · skip
          dsimp only [Option.toList, List.cons_append, List.nil_append]
          have hR3 : σ3.2.2 = RF tw cs := by rw [f3.2]; exact hR
          have hR := hR3
          refine a_if_ne 87 eX4_faultPlace_79 (by decide) (by omega) (fun h => absurd h (by decide)) (fun _ => ?_)
          refine a_ald0 eX4_faultPlace_82 ?_
          refine a_getI 9 eX4_faultPlace_83 fl_X4_62 rfl rfl sh_1 ?_
          refine a_iret eX4_faultPlace_86 rfl rfl ⟨Nat.zero_le _, Nat.zero_le _⟩ ?_
          obtain ⟨f', rfl⟩ : ∃ f', f = f' + 1 := ⟨f - 1, by omega⟩
          rw [flF_f (by omega) hp3] at hfl
          rw [← hfl] at hk
          refine hk σ3 (frTx_tr f12 f3) (fun z => ?_)
          exfalso
          have hgl := (flF_g (B := B) (n := nn) (f' + 1) d q (by omega) wG).1
          rw [flF_f (by omega) hp3] at hgl
          have h9 := hgl z
          have hst := stP_l (B := B) (n := nn) (d := d) (q := q) (by omega) hp3
          have z' : σ3.1 1 9 = -1 := z
          omega
        · skip
          dsimp only [Option.toList, List.cons_append, List.nil_append]
          have hR3 : σ3.2.2 = RF tw cs := by rw [f3.2]; exact hR
          have hR := hR3
          refine a_if_ne 87 eX4_faultPlace_79 (by decide) (by omega) (fun _ => ?_) (fun h => absurd h (by decide))
          refine a_iinc1 eX4_faultPlace_87 (by decide) aw_n2r ?_
          refine a_goto 29 eX4_faultPlace_90 (by decide) ?_
          obtain ⟨f', rfl⟩ : ∃ f', f = f' + 1 := ⟨f - 1, by omega⟩
          rw [flF_s (by omega) hp3] at hfl
          have hpp := stP_p (B := B) (by omega) (by omega) hp3
          exact ih (i + 1) f' d3 _ σ3 (by omega) (by omega) (by omega) (frTx_tr f12 f3) rfl hG3 (stP_wf (by omega) wG hp3) hfl
      · skip
        refine a_ald0 eX4_faultPlace_49 ?_
        refine a_getR 2 a eX4_faultPlace_50 fl_X4_18 rfl rfl sh_1 ((congrFun (congrFun hR _) _).trans hrd) ?_
        refine a_getI 0 eX4_faultPlace_53 fl_X4_55 rfl rfl (sh_city ha) ?_
        refine a_eqtop (y0 := d 0 0) (by exact hG2.1.1) ?_
        refine a_if_le 70 eX4_faultPlace_56 (by decide) (by omega) (fun hT56 => ?_) (fun hF56 => ?_)
        · skip
          refine a_ald0 eX4_faultPlace_70 ?_
          refine a_getI 1 eX4_faultPlace_71 fl_X4_29 rfl rfl sh_1 ?_
          refine a_eqtop (y0 := nn) (by exact hT2.1) ?_
          refine a_iret eX4_faultPlace_74 rfl rfl ⟨Nat.zero_le _, Nat.zero_le _⟩ ?_
          obtain ⟨f', rfl⟩ : ∃ f', f = f' + 1 := ⟨f - 1, by omega⟩
          rw [flF_e (by omega), cif_n (by omega)] at hfl
          rw [← hfl] at hk
          exact hk σ2 f12 (fun z => absurd z (by show nn ≠ -1; omega))
        · skip
          refine a_ald0 eX4_faultPlace_59 ?_
          refine a_getI 5 eX4_faultPlace_60 fl_X4_36 rfl rfl sh_1 ?_
          refine a_eqtop (y0 := d 0 10) (by exact hG2.2.2.2.2.2.2.1.1) ?_
          refine a_if_eq 70 eX4_faultPlace_63 (by decide) (by omega) (fun hT63 => ?_) (fun hF63 => ?_)
          · skip
            refine a_ald0 eX4_faultPlace_70 ?_
            refine a_getI 1 eX4_faultPlace_71 fl_X4_29 rfl rfl sh_1 ?_
            refine a_eqtop (y0 := nn) (by exact hT2.1) ?_
            refine a_iret eX4_faultPlace_74 rfl rfl ⟨Nat.zero_le _, Nat.zero_le _⟩ ?_
            obtain ⟨f', rfl⟩ : ∃ f', f = f' + 1 := ⟨f - 1, by omega⟩
            rw [flF_e (by omega), cif_n (by omega)] at hfl
            rw [← hfl] at hk
            exact hk σ2 f12 (fun z => absurd z (by show nn ≠ -1; omega))
          · skip
            refine a_iconst eX4_faultPlace_66 ?_
            refine a_goto 74 eX4_faultPlace_67 (by decide) ?_
            refine a_iret eX4_faultPlace_74 rfl rfl ⟨Nat.zero_le _, Nat.zero_le _⟩ ?_
            obtain ⟨f', rfl⟩ : ∃ f', f = f' + 1 := ⟨f - 1, by omega⟩
            rw [flF_e (by omega), cif_y (by omega)] at hfl
            rw [← hfl] at hk
            exact hk σ2 f12 (fun _ => hG2)

set_option maxHeartbeats 4000000 in
set_option maxRecDepth 100000 in
theorem c_X4_faultPlace {l : Launch} {σ : aw_S} {Post : Option Value → aw_S → Prop} {tw cs : Bool} (hR : σ.2.2 = RF tw cs) {a : Nat} (ha : isCity a) (hrd : RF tw cs 1 2 = some a) {B : Int → Int} {nn : Int} (hT : txC σ B nn) (wT : wfTx B nn) (hk : ∀ σ', frTx a σ σ' → ((flt B nn).1 = -1 → drC σ' a (flt B nn).2) → Post (some (.int (jI (flt B nn).1))) σ')  : AE l yX4_faultPlace cX4_faultPlace 2 (some .int) 9 189 0 0 SH SH σ [.ref 1] Post := by
  show AW l yX4_faultPlace cX4_faultPlace 2 (some .int) 9 189 0 0 SH Post SH 0 0 σ 0 [some (.ref 1), none] []
  have u1 := wT.1
  have h13 : a = 3 ∨ a = 13 := ha
  refine a_ald0 eX4_faultPlace_0 ?_
  refine a_getR 2 a eX4_faultPlace_1 fl_X4_18 rfl rfl sh_1 ((congrFun (congrFun hR _) _).trans hrd) ?_
  refine a_cV0 eX4_faultPlace_4 lk_X4_33 mV_X3_clear (sh_city ha) ⟨_, rfl, rfl⟩ mt_X3_clear rfl rfl rfl rfl (c_X3_clear ha hR (fun σ2 f2 z0 z4 z13 => ?_))
  dsimp only [Option.toList, List.cons_append, List.nil_append]
  have hR2 : σ2.2.2 = RF tw cs := by rw [f2.2]; exact hR
  have hR := hR2
  refine a_ald0 eX4_faultPlace_7 ?_
  refine a_iconst eX4_faultPlace_8 ?_
  refine a_putZ 5 eX4_faultPlace_9 fl_X4_36 rfl rfl (by first | exact Or.inl rfl | exact Or.inr rfl | omega) sh_1 (fun q h => Or.inl (by cases h; rfl)) ?_
  refine a_ald0 eX4_faultPlace_12 ?_
  refine a_iconst eX4_faultPlace_13 ?_
  refine a_putZ 6 eX4_faultPlace_14 fl_X4_40 rfl rfl (by first | exact Or.inl rfl | exact Or.inr rfl | omega) sh_1 (fun q h => Or.inl (by cases h; rfl)) ?_
  refine a_ald0 eX4_faultPlace_17 ?_
  refine a_iconst eX4_faultPlace_18 ?_
  refine a_putZ 7 eX4_faultPlace_19 fl_X4_43 rfl rfl (by first | exact Or.inl rfl | exact Or.inr rfl | omega) sh_1 (fun q h => Or.inl (by cases h; rfl)) ?_
  refine a_ald0 eX4_faultPlace_22 ?_
  refine a_iconst eX4_faultPlace_23 ?_
  refine a_putI 8 eX4_faultPlace_24 fl_X4_46 rfl rfl sh_1 (fun q h => Or.inl (by cases h; rfl)) ?_
  refine a_iconst eX4_faultPlace_27 ?_
  refine a_ist1 eX4_faultPlace_28 (by decide) aw_n2r ?_
  have fS : frTx a σ (aw_si (aw_si (aw_si (aw_si σ2 1 5 0) 1 6 0) 1 7 0) 1 8 0) := ⟨fun b j z1 z2 z3 z4 => by simp only [rd_si]; (repeat rw [if_neg (by omega)]); exact f2.1 b j z4, f2.2⟩
  refine lp_fp (σ := aw_si (aw_si (aw_si (aw_si σ2 1 5 0) 1 6 0) 1 7 0) 1 8 0) (by exact hR) ha hrd (txC_T ha fS hT) wT (fun σ9 f9 h9 => hk σ9 (frTx_tr fS f9) h9) _ 0 (nn.toNat + 1) dr0 0 _ (Nat.le_refl _) (by omega) (by omega) (frTx_rf a _) rd_si_eq (drC_0 ?_ (fun r r1 r2 => ?_) ?_ ⟨?_, ?_, ?_⟩) wf_dr0 rfl
  · rw [rd_si_ne (by omega), rd_si_ne (by omega), rd_si_ne (by omega), rd_si_ne (by omega), rd_si_ne (by omega), rd_si_ne (by omega), rd_si_ne (by omega), rd_si_ne (by omega)]; exact z0
  · rw [rd_si_ne (by omega), rd_si_ne (by omega), rd_si_ne (by omega), rd_si_ne (by omega)]; exact z4 r r1 r2
  · refine ⟨⟨?_, ?_⟩, ?_⟩
    · rw [rd_si_ne (by omega), rd_si_ne (by omega), rd_si_ne (by omega), rd_si_ne (by omega)]; exact z13.1.1
    · rw [rd_si_ne (by omega), rd_si_ne (by omega), rd_si_ne (by omega), rd_si_ne (by omega)]; exact z13.1.2
    · rw [rd_si_ne (by omega), rd_si_ne (by omega), rd_si_ne (by omega), rd_si_ne (by omega)]; exact z13.2
  · rw [rd_si_ni (by omega), rd_si_ni (by omega), rd_si_ni (by omega), rd_si_eq]
  · rw [rd_si_ni (by omega), rd_si_ni (by omega), rd_si_eq]
  · rw [rd_si_ni (by omega), rd_si_eq]
