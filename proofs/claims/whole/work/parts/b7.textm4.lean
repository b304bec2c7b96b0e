theorem drM_rk {σ σ' : aw_S} {B : Int → Int} {n : Int} {d : mS} {p : Int} (hG : drM σ B d) (h0 : 0 ≤ d 0 0)
    (hf : ∀ (b : Nat) (j : Int), ¬ (b = 171 ∧ ((2 ≤ j ∧ j ≤ 4) ∨ j = 44)) → ¬ (b = 174 ∧ (3 * d 0 0 ≤ j ∧ j ≤ 3 * d 0 0 + 2)) → ¬ (b = 171 ∧ j = 6) → σ'.1 b j = σ.1 b j) (hl : ∀ j : Int, j ≠ d 0 0 → σ'.2.1 173 j = σ.2.1 173 j)
    (v0 : σ'.1 171 6 = d 0 0 + 1) (v1 : σ'.1 174 (3 * d 0 0) = nv B n (te B n p)) (v2 : σ'.1 174 (3 * d 0 0 + 1) = nv B n (te B n (te B n p))) (v3 : σ'.1 174 (3 * d 0 0 + 2) = nv B n (te B n (te B n (te B n p)))) (vn : σ'.2.1 173 (d 0 0) = pkv (sgn B (ts B n p)) (te B n p - ts B n p).toNat) : drM σ' B (rkD B n d p) := by
  obtain ⟨⟨g1, g2⟩, ⟨g3, g4⟩, g5, g6, g7, g8⟩ := hG
  have o : ∀ b j : Int, ¬ (b = 0 ∧ j = 0) → ¬ (j = d 0 0 ∧ (b = 1 ∨ b = 2 ∨ b = 3 ∨ b = 20 ∨ b = 21)) → rkD B n d p b j = d b j := fun b j z1 z2 => by
    unfold rkD
    rw [up_ne (by omega), up_ne (by omega), up_ne (by omega), up_ne (by omega), up_ne (by omega), up_ne (by omega)]
  have e0 : rkD B n d p 0 0 = d 0 0 + 1 := up_eq
  have e3 : rkD B n d p 3 (d 0 0) = nv B n (te B n (te B n (te B n p))) := by unfold rkD; rw [up_ne (by omega), up_eq]
  have e2 : rkD B n d p 2 (d 0 0) = nv B n (te B n (te B n p)) := by unfold rkD; rw [up_ne (by omega), up_ne (by omega), up_eq]
  have e1 : rkD B n d p 1 (d 0 0) = nv B n (te B n p) := by unfold rkD; rw [up_ne (by omega), up_ne (by omega), up_ne (by omega), up_eq]
  have e21 : rkD B n d p 21 (d 0 0) = te B n p - ts B n p := by unfold rkD; rw [up_ne (by omega), up_ne (by omega), up_ne (by omega), up_ne (by omega), up_eq]
  have e20 : rkD B n d p 20 (d 0 0) = ts B n p := by unfold rkD; rw [up_ne (by omega), up_ne (by omega), up_ne (by omega), up_ne (by omega), up_ne (by omega), up_eq]
  refine ⟨⟨?_, fun r r1 r2 => ?_⟩, ⟨?_, fun k k1 k2 => ?_⟩, ?_, ?_, ?_, fun r r1 r2 => ?_⟩
  · rw [v0, e0]
  · rw [e0] at r2
    by_cases q : r = d 0 0
    · rw [q, v1, v2, v3, e1, e2, e3]; exact ⟨rfl, rfl, rfl⟩
    · rw [hf 174 _ (by omega) (by omega) (by omega), hf 174 _ (by omega) (by omega) (by omega), hf 174 _ (by omega) (by omega) (by omega), o 1 r (by omega) (by omega), o 2 r (by omega) (by omega), o 3 r (by omega) (by omega)]; exact g2 r r1 (by omega)
  · rw [hf 171 9 (by omega) (by omega) (by omega), o 0 1 (by omega) (by omega)]; exact g3
  · rw [o 0 1 (by omega) (by omega)] at k2
    rw [hf 175 _ (by omega) (by omega) (by omega), hf 175 _ (by omega) (by omega) (by omega), hf 175 _ (by omega) (by omega) (by omega), hf 175 _ (by omega) (by omega) (by omega), o 4 k (by omega) (by omega), o 5 k (by omega) (by omega), o 6 k (by omega) (by omega), o 7 k (by omega) (by omega)]; exact g4 k k1 k2
  · rw [hf 176 _ (by omega) (by omega) (by omega), hf 176 _ (by omega) (by omega) (by omega), hf 176 _ (by omega) (by omega) (by omega), hf 176 _ (by omega) (by omega) (by omega), o 0 10 (by omega) (by omega), o 8 0 (by omega) (by omega), o 8 1 (by omega) (by omega), o 8 2 (by omega) (by omega), o 8 3 (by omega) (by omega)]; exact g5
  · rw [hf 177 _ (by omega) (by omega) (by omega), hf 177 _ (by omega) (by omega) (by omega), o 0 11 (by omega) (by omega), o 9 0 (by omega) (by omega), o 9 1 (by omega) (by omega)]; exact g6
  · rw [hf 171 13 (by omega) (by omega) (by omega), o 0 12 (by omega) (by omega), o 0 2 (by omega) (by omega)]; exact g7
  · rw [e0] at r2
    by_cases q : r = d 0 0
    · rw [q, vn, e20, e21]
    · rw [hl r q, o 20 r (by omega) (by omega), o 21 r (by omega) (by omega)]; exact g8 r r1 (by omega)
theorem drM_lt {σ σ' : aw_S} {B : Int → Int} {n : Int} {d : mS} {p rk : Int} (hG : drM σ B d) (h0 : 0 ≤ d 0 1)
    (hf : ∀ (b : Nat) (j : Int), ¬ (b = 171 ∧ ((2 ≤ j ∧ j ≤ 4) ∨ j = 44)) → ¬ (b = 175 ∧ (4 * d 0 1 ≤ j ∧ j ≤ 4 * d 0 1 + 3)) → ¬ (b = 171 ∧ j = 9) → σ'.1 b j = σ.1 b j) (hl : ∀ j : Int, σ'.2.1 173 j = σ.2.1 173 j)
    (v0 : σ'.1 171 9 = d 0 1 + 1) (v4 : σ'.1 175 (4 * d 0 1) = rk) (v1 : σ'.1 175 (4 * d 0 1 + 1) = nv B n (te B n p)) (v2 : σ'.1 175 (4 * d 0 1 + 2) = nv B n (te B n (te B n p))) (v3 : σ'.1 175 (4 * d 0 1 + 3) = nv B n (te B n (te B n (te B n p)))) : drM σ' B (ltD B n d p rk) := by
  obtain ⟨⟨g1, g2⟩, ⟨g3, g4⟩, g5, g6, g7, g8⟩ := hG
  have o : ∀ b j : Int, ¬ (b = 0 ∧ j = 1) → ¬ (j = d 0 1 ∧ (4 ≤ b ∧ b ≤ 7)) → ltD B n d p rk b j = d b j := fun b j z1 z2 => by
    unfold ltD
    rw [up_ne (by omega), up_ne (by omega), up_ne (by omega), up_ne (by omega), up_ne (by omega)]
  have e0 : ltD B n d p rk 0 1 = d 0 1 + 1 := up_eq
  have e7 : ltD B n d p rk 7 (d 0 1) = nv B n (te B n (te B n (te B n p))) := by unfold ltD; rw [up_ne (by omega), up_eq]
  have e6 : ltD B n d p rk 6 (d 0 1) = nv B n (te B n (te B n p)) := by unfold ltD; rw [up_ne (by omega), up_ne (by omega), up_eq]
  have e5 : ltD B n d p rk 5 (d 0 1) = nv B n (te B n p) := by unfold ltD; rw [up_ne (by omega), up_ne (by omega), up_ne (by omega), up_eq]
  have e4 : ltD B n d p rk 4 (d 0 1) = rk := by unfold ltD; rw [up_ne (by omega), up_ne (by omega), up_ne (by omega), up_ne (by omega), up_eq]
  refine ⟨⟨?_, fun r r1 r2 => ?_⟩, ⟨?_, fun k k1 k2 => ?_⟩, ?_, ?_, ?_, fun r r1 r2 => ?_⟩
  · rw [hf 171 6 (by omega) (by omega) (by omega), o 0 0 (by omega) (by omega)]; exact g1
  · rw [o 0 0 (by omega) (by omega)] at r2
    rw [hf 174 _ (by omega) (by omega) (by omega), hf 174 _ (by omega) (by omega) (by omega), hf 174 _ (by omega) (by omega) (by omega), o 1 r (by omega) (by omega), o 2 r (by omega) (by omega), o 3 r (by omega) (by omega)]; exact g2 r r1 r2
  · rw [v0, e0]
  · rw [e0] at k2
    by_cases q : k = d 0 1
    · rw [q, v4, v1, v2, v3, e4, e5, e6, e7]; exact ⟨rfl, rfl, rfl, rfl⟩
    · rw [hf 175 _ (by omega) (by omega) (by omega), hf 175 _ (by omega) (by omega) (by omega), hf 175 _ (by omega) (by omega) (by omega), hf 175 _ (by omega) (by omega) (by omega), o 4 k (by omega) (by omega), o 5 k (by omega) (by omega), o 6 k (by omega) (by omega), o 7 k (by omega) (by omega)]; exact g4 k k1 (by omega)
  · rw [hf 176 _ (by omega) (by omega) (by omega), hf 176 _ (by omega) (by omega) (by omega), hf 176 _ (by omega) (by omega) (by omega), hf 176 _ (by omega) (by omega) (by omega), o 0 10 (by omega) (by omega), o 8 0 (by omega) (by omega), o 8 1 (by omega) (by omega), o 8 2 (by omega) (by omega), o 8 3 (by omega) (by omega)]; exact g5
  · rw [hf 177 _ (by omega) (by omega) (by omega), hf 177 _ (by omega) (by omega) (by omega), o 0 11 (by omega) (by omega), o 9 0 (by omega) (by omega), o 9 1 (by omega) (by omega)]; exact g6
  · rw [hf 171 13 (by omega) (by omega) (by omega), o 0 12 (by omega) (by omega), o 0 2 (by omega) (by omega)]; exact g7
  · rw [o 0 0 (by omega) (by omega)] at r2
    rw [hl, o 20 r (by omega) (by omega), o 21 r (by omega) (by omega)]; exact g8 r r1 r2
set_option maxHeartbeats 4000000 in
set_option maxRecDepth 100000 in
theorem lp_rl {l : Launch} {σ : aw_S} {Post : Option Value → aw_S → Prop} {tw cs : Bool} (hR : σ.2.2 = RF tw cs) {B : Int → Int} {nn nm : Int} {d : mS} {q : Int} (hG : drM σ B d) (wG : wfDr B nn d) (hq : 0 ≤ q ∧ q ≤ nn) (hC : tkM σ B nn q) (hy : (tkd B nn q = 2 ∧ ptold d (nv B nn q)) → Post (some (.int (jI 0))) σ) (hn : ¬ (tkd B nn q = 2 ∧ ptold d (nv B nn q)) → ∀ l3, AW l yX10_rankLine cX10_rankLine 4 (some .boolean) 9 191 0 0 SH Post SH 0 0 (σ) 84 [some (.ref 171), some (.long (jL nm)), none, l3] [])  : ∀ (n : Nat) (r : Int), ((d 0 0 - r).toNat ≤ n) → (0 ≤ r ∧ r ≤ d 0 0) → (∀ s : Int, 0 ≤ s → s < r → ¬ (tkd B nn q = 2 ∧ d 1 s = nv B nn q)) → AW l yX10_rankLine cX10_rankLine 4 (some .boolean) 9 191 0 0 SH Post SH 0 0 (σ) 43 [some (.ref 171), some (.long (jL nm)), none, some (.int (jI r))] [] := by
  intro n
  induction n with
  | zero =>
    intro r hm hr hno
    obtain ⟨k1, k2, k3, k4, k5⟩ := id hC
    have b0 := tok_b (B := B) hq
    have h35 : (if tkd B nn q = 5 then 0 else tkd B nn q) = 1 ↔ tkd B nn q = 1 := by split <;> omega
    have h32 : (if tkd B nn q = 5 then 0 else tkd B nn q) = 2 ↔ tkd B nn q = 2 := by split <;> omega
    have h33 : (if tkd B nn q = 5 then 0 else tkd B nn q) = 3 ↔ tkd B nn q = 3 := by split <;> omega
    have h3b : 0 ≤ (if tkd B nn q = 5 then 0 else tkd B nn q) ∧ (if tkd B nn q = 5 then 0 else tkd B nn q) ≤ 4 := by split <;> omega
    obtain ⟨K3, hK3⟩ : ∃ K, K = (if tkd B nn q = 5 then 0 else tkd B nn q) := ⟨_, rfl⟩
    rw [← hK3] at k3 h35 h32 h33 h3b
    obtain ⟨⟨g1, g2⟩, ⟨g3, g4⟩, g5, g6, g7, g8⟩ := id hG
    obtain ⟨w1, w2, w3, w4, w5, w6, w7, w8, w9, w10, w11⟩ := id wG
    refine a_ild3 eX10_rankLine_43 ?_
    refine a_ald0 eX10_rankLine_44 ?_
    refine a_getI 6 eX10_rankLine_45 fl_X10_185 rfl rfl sh_171 ?_
    refine a_eqtop (y0 := d 0 0) (by exact g1) ?_
    refine a_icmp_ge 84 eX10_rankLine_48 (by decide) (by omega) (fun hT48 => ?_) (fun hF48 => ?_)
    · skip
      exact hn (fun z => by obtain ⟨z1, s, s1, s2⟩ := z; exact hno s s1.1 (by omega) ⟨z1, s2⟩) _
    · skip
      exfalso; omega
  | succ n ih =>
    intro r hm hr hno
    obtain ⟨k1, k2, k3, k4, k5⟩ := id hC
    have b0 := tok_b (B := B) hq
    have h35 : (if tkd B nn q = 5 then 0 else tkd B nn q) = 1 ↔ tkd B nn q = 1 := by split <;> omega
    have h32 : (if tkd B nn q = 5 then 0 else tkd B nn q) = 2 ↔ tkd B nn q = 2 := by split <;> omega
    have h33 : (if tkd B nn q = 5 then 0 else tkd B nn q) = 3 ↔ tkd B nn q = 3 := by split <;> omega
    have h3b : 0 ≤ (if tkd B nn q = 5 then 0 else tkd B nn q) ∧ (if tkd B nn q = 5 then 0 else tkd B nn q) ≤ 4 := by split <;> omega
    obtain ⟨K3, hK3⟩ : ∃ K, K = (if tkd B nn q = 5 then 0 else tkd B nn q) := ⟨_, rfl⟩
    rw [← hK3] at k3 h35 h32 h33 h3b
    obtain ⟨⟨g1, g2⟩, ⟨g3, g4⟩, g5, g6, g7, g8⟩ := id hG
    obtain ⟨w1, w2, w3, w4, w5, w6, w7, w8, w9, w10, w11⟩ := id wG
    refine a_ild3 eX10_rankLine_43 ?_
    refine a_ald0 eX10_rankLine_44 ?_
    refine a_getI 6 eX10_rankLine_45 fl_X10_185 rfl rfl sh_171 ?_
    refine a_eqtop (y0 := d 0 0) (by exact g1) ?_
    refine a_icmp_ge 84 eX10_rankLine_48 (by decide) (by omega) (fun hT48 => ?_) (fun hF48 => ?_)
    · skip
      exact hn (fun z => by obtain ⟨z1, s, s1, s2⟩ := z; exact hno s s1.1 (by omega) ⟨z1, s2⟩) _
    · skip
      refine a_ald0 eX10_rankLine_51 ?_
      refine a_getI 3 eX10_rankLine_52 fl_X10_142 rfl rfl sh_171 ?_
      refine a_eqtop (y0 := K3) (by exact k3) ?_
      refine a_iconst eX10_rankLine_55 ?_
      refine a_icmp_ne 78 eX10_rankLine_56 (by decide) (by omega) (fun hT56 => ?_) (fun hF56 => ?_)
      · skip
        refine a_iinc3 eX10_rankLine_78 (by decide) aw_n2n ?_
        refine a_goto 43 eX10_rankLine_81 (by decide) ?_
        refine ih (r + 1) (by omega) (by omega) (fun s s1 s2 => ?_)
        by_cases z : s = r
        · rw [z]
          exact fun w => by have := h32.mpr w.1; omega
        · exact hno s s1 (by omega)
      · skip
        have ht2 := h32.mp (by omega)
        have hnb := nv_b hq ht2
        have hw2 := (w2 r (by omega) (by omega)).1
        have hlc := lcm_e (d 1 r) (nv B nn q)
        refine a_ald0 eX10_rankLine_59 ?_
        refine a_getR 8 174 eX10_rankLine_60 fl_X10_17 rfl rfl sh_171 ((congrFun (congrFun hR _) _).trans rf_171_8) ?_
        refine a_iconst eX10_rankLine_63 ?_
        refine a_ild3 eX10_rankLine_64 ?_
        refine a_imul eX10_rankLine_65 ?_
        refine a_iald eX10_rankLine_66 sh_174 rfl (by omega) ?_
        refine a_eqtop (y0 := d 1 r) (by exact (g2 r (by omega) (by omega)).1) ?_
        refine a_i2l eX10_rankLine_67 (by omega) ?_
        refine a_ald0 eX10_rankLine_68 ?_
        refine a_getL 5 eX10_rankLine_69 fl_X10_138 rfl rfl sh_171 ?_
        refine a_eqtopL (y0 := nv B nn q) (by exact k5 ht2) ?_
        refine a_lcmp (lcm (d 1 r) (nv B nn q)) eX10_rankLine_72 (jL_cmp (by omega) (by omega)) ?_
        refine a_if_ne 78 eX10_rankLine_73 (by decide) (by omega) (fun hT73 => ?_) (fun hF73 => ?_)
        · skip
          refine a_iinc3 eX10_rankLine_78 (by decide) aw_n2n ?_
          refine a_goto 43 eX10_rankLine_81 (by decide) ?_
          refine ih (r + 1) (by omega) (by omega) (fun s s1 s2 => ?_)
          by_cases z : s = r
          · rw [z]
            exact fun w => by have := w.2; omega
          · exact hno s s1 (by omega)
        · skip
          refine a_iconst eX10_rankLine_76 ?_
          refine a_zret eX10_rankLine_77 rfl (by first | exact Or.inl rfl | exact Or.inr rfl | omega) rfl ⟨Nat.zero_le _, Nat.zero_le _⟩ ?_
          exact hy ⟨ht2, r, by omega, by omega⟩

set_option maxHeartbeats 4000000 in
set_option maxRecDepth 100000 in
theorem c_X10_rankLine {l : Launch} {σ : aw_S} {Post : Option Value → aw_S → Prop} {tw cs : Bool} (hR : σ.2.2 = RF tw cs) {B : Int → Int} {nn : Int} (hT : txM σ B nn) (wT : wfTx B nn) {d : mS} {q : Int} (hG : drM σ B d) (wG : wfDr B nn d) (hq : 0 ≤ q ∧ q ≤ nn) (hC : tkM σ B nn q) (hk0 : ∀ σ', frTxM σ σ' → rkP B nn d (ts B nn q) (te B nn q) = .inl (σ'.1 171 4) → Post (some (.int (jI 0))) σ') (hk1 : ∀ σ' p' d', frTxM σ σ' → rkP B nn d (ts B nn q) (te B nn q) = .inr (p', d') → drM σ' B d' → tkM σ' B nn p' → Post (some (.int (jI 1))) σ')  : AE l yX10_rankLine cX10_rankLine 4 (some .boolean) 9 191 0 0 SH SH σ [.ref 171] Post := by
  show AW l yX10_rankLine cX10_rankLine 4 (some .boolean) 9 191 0 0 SH Post SH 0 0 σ 0 [some (.ref 171), none, none, none] []
  have hR0 := hR
  obtain ⟨⟨g1, g2⟩, ⟨g3, g4⟩, g5, g6, g7, g8⟩ := id hG
  obtain ⟨w1, w2, w3, w4, w5, w6, w7, w8, w9, w10, w11⟩ := id wG
  have u1 := wT.1
  have b0 := tok_b (B := B) hq
  have c1 := tok_b (B := B) (n := nn) (q := te B nn q) (by omega)
  have c2 := tok_b (B := B) (n := nn) (q := te B nn (te B nn q)) (by omega)
  have c3 := tok_b (B := B) (n := nn) (q := te B nn (te B nn (te B nn q))) (by omega)
  have c4 := tok_b (B := B) (n := nn) (q := te B nn (te B nn (te B nn (te B nn q)))) (by omega)
  have c5 := tok_b (B := B) (n := nn) (q := te B nn (te B nn (te B nn (te B nn (te B nn q))))) (by omega)
  refine a_ald0 eX10_rankLine_0 ?_
  refine a_getI 6 eX10_rankLine_1 fl_X10_185 rfl rfl sh_171 ?_
  refine a_eqtop (y0 := d 0 0) (by exact g1) ?_
  refine a_bipush eX10_rankLine_4 (by decide) ?_
  refine a_icmp_ne 11 eX10_rankLine_6 (by decide) (by omega) (fun hT6 => ?_) (fun hF6 => ?_)
  · skip
    refine a_ald0 eX10_rankLine_11 ?_
    refine a_cV0 eX10_rankLine_12 lk_X10_195 mV_X10_leads sh_171 ⟨_, rfl, rfl⟩ mt_X10_leads rfl rfl rfl rfl (c_X10_leads hR hT wT (q := te B nn q) (by omega) hC.1 (fun σ1 f1 hC1 => ?_))
    dsimp only [Option.toList, List.cons_append, List.nil_append]
    have hR1 : σ1.2.2 = RF tw cs := by rw [f1.2.2]; exact hR
    have hR := hR1
    have hT1 := txM_K f1 hT
    have hG1 := drM_N (frNM_K f1) hG
    refine a_ald0 eX10_rankLine_15 ?_
    refine a_cV0 eX10_rankLine_16 lk_X10_188 mV_X10_isName sh_171 ⟨_, rfl, rfl⟩ mt_X10_isName rfl rfl rfl rfl (c_X10_isName hR (q := te B nn q) (by omega) hC1 (fun hT16 => ?_) (fun hF16 => ?_))
    · skip
      dsimp only [Option.toList, List.cons_append, List.nil_append]
      refine a_if_eq 30 eX10_rankLine_19 (by decide) (by omega) (fun h => absurd h (by decide)) (fun _ => ?_)
      refine a_ald0 eX10_rankLine_22 ?_
      refine a_cV0 eX10_rankLine_23 lk_X10_198 mV_X10_named sh_171 ⟨_, rfl, rfl⟩ mt_X10_named rfl rfl rfl rfl (c_X10_named hR hG1 wG (q := te B nn q) (by omega) hC1 ?_)
      dsimp only [Option.toList, List.cons_append, List.nil_append]
      have hrb := rnk_b (B := B) (n := nn) (d := d) (q := te B nn q)
      refine a_eqtop (y0 := rnk B nn d (te B nn q)) (by rw [cif_y hT16.1.1]) ?_
      refine a_iconst eX10_rankLine_26 ?_
      refine a_icmp_eq 32 eX10_rankLine_27 (by decide) (by omega) (fun hT27 => ?_) (fun hF27 => ?_)
      · skip
        have hnn := rnk_nn (B := B) (n := nn) (d := d) (q := te B nn q) (by omega) (by omega)
        refine a_ald0 eX10_rankLine_32 ?_
        refine a_getL 5 eX10_rankLine_33 fl_X10_138 rfl rfl sh_171 ?_
        refine a_eqtopL (y0 := wv B nn (te B nn q)) (by exact hC1.2.2.2.1 hT16.1.1) ?_
        refine a_lst1 eX10_rankLine_36 (by decide) aw_n2r ?_
        refine a_ald0 eX10_rankLine_37 ?_
        refine a_cV0 eX10_rankLine_38 lk_X10_195 mV_X10_leads sh_171 ⟨_, rfl, rfl⟩ mt_X10_leads rfl rfl rfl rfl (c_X10_leads hR hT1 wT (q := te B nn (te B nn q)) (by omega) hC1.1 (fun σ2 f2 hC2 => ?_))
        dsimp only [Option.toList, List.cons_append, List.nil_append]
        have hR2 : σ2.2.2 = RF tw cs := by rw [f2.2.2]; exact hR
        have hR := hR2
        have f12 := frNM_K (frKM_tr f1 f2)
        have hT2 := txM_T (frNM_T f12) hT
        have hG2 := drM_N f12 hG
        refine a_iconst eX10_rankLine_41 ?_
        refine a_ist3 eX10_rankLine_42 (by decide) aw_n2n ?_
        refine lp_rl hR hG2 wG (q := te B nn (te B nn q)) (by omega) hC2 (fun hpt => ?_) (fun hnp l3 => ?_) _ 0 (Nat.le_refl _) (by omega) (fun s s1 s2 => by omega)
        · refine hk0 σ2 (frNM_T f12) ?_
          unfold rkP
          rw [cif_n (by omega), cif_n (fun z => z ⟨hT16, hnn⟩), cif_y (fun z => z.2 hpt.2), hC2.2.1]
        refine a_ald0 eX10_rankLine_84 ?_
        refine a_iconst eX10_rankLine_85 ?_
        refine a_bipush eX10_rankLine_86 (by decide) ?_
        refine a_cV2 eX10_rankLine_88 lk_X10_201 mV_X10_number sh_171 ⟨_, rfl, rfl⟩ mt_X10_number rfl rfl rfl rfl rfl rfl (c_X10_number hR hT2 wT (q := te B nn (te B nn q)) (by omega) hC2 (by omega) (fun σ3 f3 hC3 v3 hT88 => ?_) (fun hF88 => ?_))
        · skip
          dsimp only [Option.toList, List.cons_append, List.nil_append]
          refine a_if_ne 96 eX10_rankLine_91 (by decide) (by omega) (fun _ => ?_) (fun h => absurd h (by decide))
          have hR3 : σ3.2.2 = RF tw cs := by rw [f3.2.2]; exact hR
          have hR := hR3
          have f13 := frNM_tr f12 f3
          have hnpt : ¬ ptold d (nv B nn (te B nn (te B nn q))) := fun z => hnp ⟨hT88.1, z⟩
          refine a_ald0 eX10_rankLine_96 ?_
          refine a_getR 8 174 eX10_rankLine_97 fl_X10_17 rfl rfl sh_171 ((congrFun (congrFun hR _) _).trans rf_171_8) ?_
          refine a_iconst eX10_rankLine_100 ?_
          refine a_ald0 eX10_rankLine_101 ?_
          refine a_getI 6 eX10_rankLine_102 fl_X10_185 rfl rfl sh_171 ?_
          refine a_eqtop (y0 := d 0 0) (by rw [f13.1 _ _ (by omega)]; exact g1) ?_
          refine a_imul eX10_rankLine_105 ?_
          refine a_ald0 eX10_rankLine_106 ?_
          refine a_getI 44 eX10_rankLine_107 fl_X10_192 rfl rfl sh_171 ?_
          refine a_eqtop (y0 := nv B nn (te B nn (te B nn q))) (by exact v3) ?_
          refine a_iast eX10_rankLine_110 sh_174 rfl (by omega) ?_
          refine AW.ex (fun s => ((∀ (b : Nat) (j : Int), ¬ (b = 171 ∧ ((2 ≤ j ∧ j ≤ 4) ∨ j = 44)) → ¬ (b = 174 ∧ (3 * d 0 0 ≤ j ∧ j ≤ 3 * d 0 0 + 2)) → s.1 b j = σ.1 b j) ∧ (∀ (b : Nat) (j : Int), ¬ (b = 171 ∧ j = 5) → s.2.1 b j = σ.2.1 b j) ∧ s.2.2 = σ.2.2) ∧ tkM s B nn (te B nn (te B nn (te B nn q))) ∧ s.1 174 (3 * d 0 0) = nv B nn (te B nn (te B nn q))) ⟨⟨fun b j z1 z2 => by rw [rd_si, if_neg (by omega)]; exact f13.1 b j z1, f13.2.1, f13.2.2⟩, ⟨by rw [rd_si_ne (by omega)]; exact hC3.1, by rw [rd_si_ne (by omega)]; exact hC3.2.1, by rw [rd_si_ne (by omega)]; exact hC3.2.2.1, hC3.2.2.2.1, hC3.2.2.2.2⟩, rd_si_eq⟩ (fun σ4 h4 => ?_)
          obtain ⟨⟨fo, fl, fr⟩, hC4, w0⟩ := h4
          have fT4 : frTxM σ σ4 := ⟨fun b j z1 z2 => fo b j (by omega) (by omega), fun b j z1 z2 => fl b j (by omega), fr⟩
          have hR4 : σ4.2.2 = RF tw cs := by rw [fr]; exact hR0
          have hR := hR4
          have hT4 := txM_T fT4 hT
          refine a_ald0 eX10_rankLine_111 ?_
          refine a_iconst eX10_rankLine_112 ?_
          refine a_bipush eX10_rankLine_113 (by decide) ?_
          refine a_cV2 eX10_rankLine_115 lk_X10_201 mV_X10_number sh_171 ⟨_, rfl, rfl⟩ mt_X10_number rfl rfl rfl rfl rfl rfl (c_X10_number hR hT4 wT (q := te B nn (te B nn (te B nn q))) (by omega) hC4 (by omega) (fun σ5 f5 hC5 v5 hT115 => ?_) (fun hF115 => ?_))
          · skip
            dsimp only [Option.toList, List.cons_append, List.nil_append]
            refine a_if_ne 123 eX10_rankLine_118 (by decide) (by omega) (fun _ => ?_) (fun h => absurd h (by decide))
            have hR5 : σ5.2.2 = RF tw cs := by rw [f5.2.2]; exact hR
            have hR := hR5
            refine a_ald0 eX10_rankLine_123 ?_
            refine a_getR 8 174 eX10_rankLine_124 fl_X10_17 rfl rfl sh_171 ((congrFun (congrFun hR _) _).trans rf_171_8) ?_
            refine a_iconst eX10_rankLine_127 ?_
            refine a_ald0 eX10_rankLine_128 ?_
            refine a_getI 6 eX10_rankLine_129 fl_X10_185 rfl rfl sh_171 ?_
            refine a_eqtop (y0 := d 0 0) (by rw [f5.1 _ _ (by omega), fo _ _ (by omega) (by omega)]; exact g1) ?_
            refine a_imul eX10_rankLine_132 ?_
            refine a_iconst eX10_rankLine_133 ?_
            refine a_iadd eX10_rankLine_134 ?_
            refine a_ald0 eX10_rankLine_135 ?_
            refine a_getI 44 eX10_rankLine_136 fl_X10_192 rfl rfl sh_171 ?_
            refine a_eqtop (y0 := nv B nn (te B nn (te B nn (te B nn q)))) (by exact v5) ?_
            refine a_iast eX10_rankLine_139 sh_174 rfl (by omega) ?_
            refine AW.ex (fun s => ((∀ (b : Nat) (j : Int), ¬ (b = 171 ∧ ((2 ≤ j ∧ j ≤ 4) ∨ j = 44)) → ¬ (b = 174 ∧ (3 * d 0 0 ≤ j ∧ j ≤ 3 * d 0 0 + 2)) → s.1 b j = σ.1 b j) ∧ (∀ (b : Nat) (j : Int), ¬ (b = 171 ∧ j = 5) → s.2.1 b j = σ.2.1 b j) ∧ s.2.2 = σ.2.2) ∧ tkM s B nn (te B nn (te B nn (te B nn (te B nn q)))) ∧ s.1 174 (3 * d 0 0) = nv B nn (te B nn (te B nn q)) ∧ s.1 174 (3 * d 0 0 + 1) = nv B nn (te B nn (te B nn (te B nn q)))) ⟨⟨fun b j z1 z2 => by rw [rd_si, if_neg (by omega), f5.1 b j z1]; exact fo b j z1 z2, fun b j z => (f5.2.1 b j z).trans (fl b j z), f5.2.2.trans fr⟩, ⟨by rw [rd_si_ne (by omega)]; exact hC5.1, by rw [rd_si_ne (by omega)]; exact hC5.2.1, by rw [rd_si_ne (by omega)]; exact hC5.2.2.1, hC5.2.2.2.1, hC5.2.2.2.2⟩, by rw [rd_si_ni (by omega), f5.1 _ _ (by omega)]; exact w0, rd_si_eq⟩ (fun σ6 h6 => ?_)
            obtain ⟨⟨fo, fl, fr⟩, hC6, w0, w1⟩ := h6
            have fT6 : frTxM σ σ6 := ⟨fun b j z1 z2 => fo b j (by omega) (by omega), fun b j z1 z2 => fl b j (by omega), fr⟩
            have hR6 : σ6.2.2 = RF tw cs := by rw [fr]; exact hR0
            have hR := hR6
            have hT6 := txM_T fT6 hT
            refine a_ald0 eX10_rankLine_140 ?_
            refine a_iconst eX10_rankLine_141 ?_
            refine a_bipush eX10_rankLine_142 (by decide) ?_
            refine a_cV2 eX10_rankLine_144 lk_X10_201 mV_X10_number sh_171 ⟨_, rfl, rfl⟩ mt_X10_number rfl rfl rfl rfl rfl rfl (c_X10_number hR hT6 wT (q := te B nn (te B nn (te B nn (te B nn q)))) (by omega) hC6 (by omega) (fun σ7 f7 hC7 v7 hT144 => ?_) (fun hF144 => ?_))
            · skip
              dsimp only [Option.toList, List.cons_append, List.nil_append]
              refine a_if_ne 152 eX10_rankLine_147 (by decide) (by omega) (fun _ => ?_) (fun h => absurd h (by decide))
              have hR7 : σ7.2.2 = RF tw cs := by rw [f7.2.2]; exact hR
              have hR := hR7
              refine a_ald0 eX10_rankLine_152 ?_
              refine a_getR 8 174 eX10_rankLine_153 fl_X10_17 rfl rfl sh_171 ((congrFun (congrFun hR _) _).trans rf_171_8) ?_
              refine a_iconst eX10_rankLine_156 ?_
              refine a_ald0 eX10_rankLine_157 ?_
              refine a_getI 6 eX10_rankLine_158 fl_X10_185 rfl rfl sh_171 ?_
              refine a_eqtop (y0 := d 0 0) (by rw [f7.1 _ _ (by omega), fo _ _ (by omega) (by omega)]; exact g1) ?_
              refine a_imul eX10_rankLine_161 ?_
              refine a_iconst eX10_rankLine_162 ?_
              refine a_iadd eX10_rankLine_163 ?_
              refine a_ald0 eX10_rankLine_164 ?_
              refine a_getI 44 eX10_rankLine_165 fl_X10_192 rfl rfl sh_171 ?_
              refine a_eqtop (y0 := nv B nn (te B nn (te B nn (te B nn (te B nn q))))) (by exact v7) ?_
              refine a_iast eX10_rankLine_168 sh_174 rfl (by omega) ?_
              refine a_ald0 eX10_rankLine_169 ?_
              refine a_getR 7 173 eX10_rankLine_170 fl_X10_13 rfl rfl sh_171 ((congrFun (congrFun hR _) _).trans rf_171_7) ?_
              refine a_ald0 eX10_rankLine_173 ?_
              refine a_getI 6 eX10_rankLine_174 fl_X10_185 rfl rfl sh_171 ?_
              refine a_eqtop (y0 := d 0 0) (by rw [rd_si_ne (by omega), f7.1 _ _ (by omega), fo _ _ (by omega) (by omega)]; exact g1) ?_
              refine a_lld1 eX10_rankLine_177 ?_
              refine a_last eX10_rankLine_178 sh_173 rfl (by omega) ?_
              refine a_ald0 eX10_rankLine_179 ?_
              refine a_dup eX10_rankLine_180 rfl ?_
              refine a_getI 6 eX10_rankLine_181 fl_X10_185 rfl rfl sh_171 ?_
              refine a_eqtop (y0 := d 0 0) (by rw [rl_s1, rd_si_ne (by omega), f7.1 _ _ (by omega), fo _ _ (by omega) (by omega)]; exact g1) ?_
              refine a_iconst eX10_rankLine_184 ?_
              refine a_iadd eX10_rankLine_185 ?_
              refine a_putI 6 eX10_rankLine_186 fl_X10_185 rfl rfl sh_171 (fun q h => Or.inl (by cases h; rfl)) ?_
              refine AW.ex (fun s => ((∀ (b : Nat) (j : Int), ¬ (b = 171 ∧ ((2 ≤ j ∧ j ≤ 4) ∨ j = 44)) → ¬ (b = 174 ∧ (3 * d 0 0 ≤ j ∧ j ≤ 3 * d 0 0 + 2)) → ¬ (b = 171 ∧ j = 6) → s.1 b j = σ.1 b j) ∧ (∀ (b : Nat) (j : Int), ¬ (b = 171 ∧ j = 5) → ¬ (b = 173 ∧ j = d 0 0) → s.2.1 b j = σ.2.1 b j) ∧ s.2.2 = σ.2.2) ∧ tkM s B nn (te B nn (te B nn (te B nn (te B nn (te B nn q))))) ∧ (s.1 174 (3 * d 0 0) = nv B nn (te B nn (te B nn q)) ∧ s.1 174 (3 * d 0 0 + 1) = nv B nn (te B nn (te B nn (te B nn q))) ∧ s.1 174 (3 * d 0 0 + 2) = nv B nn (te B nn (te B nn (te B nn (te B nn q))))) ∧ s.1 171 6 = d 0 0 + 1 ∧ s.2.1 173 (d 0 0) = wv B nn (te B nn q)) ⟨⟨fun b j z1 z2 z3 => ?_, fun b j z1 z2 => ?_, f7.2.2.trans fr⟩, ⟨?_, ?_, ?_, ?_, ?_⟩, ⟨?_, ?_, ?_⟩, rd_si_eq, ?_⟩ (fun σ8 h8 => ?_)
              · rw [rd_si, if_neg (by omega), rl_s1, rd_si, if_neg (by omega), f7.1 b j z1]; exact fo b j z1 z2
              · rw [rl_si, rl_ne z2, rl_si, f7.2.1 b j z1]; exact fl b j z1
              · rw [rd_si_ni (by omega), rl_s1, rd_si_ne (by omega)]; exact hC7.1
              · rw [rd_si_ni (by omega), rl_s1, rd_si_ne (by omega)]; exact hC7.2.1
              · rw [rd_si_ni (by omega), rl_s1, rd_si_ne (by omega)]; exact hC7.2.2.1
              · intro z; rw [rl_si, rl_ne (by omega), rl_si]; exact hC7.2.2.2.1 z
              · intro z; rw [rl_si, rl_ne (by omega), rl_si]; exact hC7.2.2.2.2 z
              · rw [rd_si_ne (by omega), rl_s1, rd_si_ni (by omega), f7.1 _ _ (by omega)]; exact w0
              · rw [rd_si_ne (by omega), rl_s1, rd_si_ni (by omega), f7.1 _ _ (by omega)]; exact w1
              · rw [rd_si_ne (by omega), rl_s1, rd_si_eq]
              · rw [rl_si, rl_eq]
              obtain ⟨⟨fo, fl, fr⟩, hC8, ⟨w0, w1, w2'⟩, v0, vn⟩ := h8
              have fT8 : frTxM σ σ8 := ⟨fun b j z1 z2 => fo b j (by omega) (by omega) (by omega), fun b j z1 z2 => fl b j z1 (by omega), fr⟩
              have hR8 : σ8.2.2 = RF tw cs := by rw [fr]; exact hR0
              have hR := hR8
              have hT8 := txM_T fT8 hT
              refine a_ald0 eX10_rankLine_189 ?_
              refine a_cV0 eX10_rankLine_190 lk_X10_205 mV_X10_closes sh_171 ⟨_, rfl, rfl⟩ mt_X10_closes rfl rfl rfl rfl (c_X10_closes hR hT8 wT (q := te B nn (te B nn (te B nn (te B nn (te B nn q))))) (by omega) hC8 (fun σ9 f9 hC9 hT190 => ?_) (fun hF190 => ?_))
              · skip
                dsimp only [Option.toList, List.cons_append, List.nil_append]
                refine a_zret eX10_rankLine_193 rfl (by first | exact Or.inl rfl | exact Or.inr rfl | omega) rfl ⟨Nat.zero_le _, Nat.zero_le _⟩ ?_
                refine hk1 σ9 _ (rkD B nn d (te B nn q)) (frTxM_tr fT8 (frNM_T (frNM_K f9))) ?_ (drM_rk hG (by omega) (fun b j z1 z2 z3 => (f9.1 b j (by omega)).trans (fo b j z1 z2 z3)) (fun j z => (f9.2.1 _ _ (by omega)).trans (fl _ _ (by omega) (fun w => z w.2))) (by rw [f9.1 _ _ (by omega)]; exact v0) (by rw [f9.1 _ _ (by omega)]; exact w0) (by rw [f9.1 _ _ (by omega)]; exact w1) (by rw [f9.1 _ _ (by omega)]; exact w2') (by rw [f9.2.1 _ _ (by omega), vn]; unfold wv; rw [if_neg (by have := hT16.1.2; omega)])) hC9
                unfold rkP
                rw [cif_n (by omega), cif_n (fun z => z ⟨hT16, hnn⟩), cif_n (fun z => z ⟨hT88, hnpt⟩), cif_n (fun z => z hT115), cif_n (fun z => z hT144), cif_n (fun z => z hT190)]
              · skip
                dsimp only [Option.toList, List.cons_append, List.nil_append]
                refine a_zret eX10_rankLine_193 rfl (by first | exact Or.inl rfl | exact Or.inr rfl | omega) rfl ⟨Nat.zero_le _, Nat.zero_le _⟩ ?_
                refine hk0 σ8 fT8 ?_
                unfold rkP
                rw [cif_n (by omega), cif_n (fun z => z ⟨hT16, hnn⟩), cif_n (fun z => z ⟨hT88, hnpt⟩), cif_n (fun z => z hT115), cif_n (fun z => z hT144), cif_y hF190, hC8.2.1]
            · skip
              dsimp only [Option.toList, List.cons_append, List.nil_append]
              refine a_if_ne 152 eX10_rankLine_147 (by decide) (by omega) (fun h => absurd h (by decide)) (fun _ => ?_)
              refine a_iconst eX10_rankLine_150 ?_
              refine a_zret eX10_rankLine_151 rfl (by first | exact Or.inl rfl | exact Or.inr rfl | omega) rfl ⟨Nat.zero_le _, Nat.zero_le _⟩ ?_
              refine hk0 σ6 fT6 ?_
              unfold rkP
              rw [cif_n (by omega), cif_n (fun z => z ⟨hT16, hnn⟩), cif_n (fun z => z ⟨hT88, hnpt⟩), cif_n (fun z => z hT115), cif_y hF144, hC6.2.1]
          · skip
            dsimp only [Option.toList, List.cons_append, List.nil_append]
            refine a_if_ne 123 eX10_rankLine_118 (by decide) (by omega) (fun h => absurd h (by decide)) (fun _ => ?_)
            refine a_iconst eX10_rankLine_121 ?_
            refine a_zret eX10_rankLine_122 rfl (by first | exact Or.inl rfl | exact Or.inr rfl | omega) rfl ⟨Nat.zero_le _, Nat.zero_le _⟩ ?_
            refine hk0 σ4 fT4 ?_
            unfold rkP
            rw [cif_n (by omega), cif_n (fun z => z ⟨hT16, hnn⟩), cif_n (fun z => z ⟨hT88, hnpt⟩), cif_y hF115, hC4.2.1]
        · skip
          dsimp only [Option.toList, List.cons_append, List.nil_append]
          refine a_if_ne 96 eX10_rankLine_91 (by decide) (by omega) (fun h => absurd h (by decide)) (fun _ => ?_)
          refine a_iconst eX10_rankLine_94 ?_
          refine a_zret eX10_rankLine_95 rfl (by first | exact Or.inl rfl | exact Or.inr rfl | omega) rfl ⟨Nat.zero_le _, Nat.zero_le _⟩ ?_
          refine hk0 σ2 (frNM_T f12) ?_
          unfold rkP
          rw [cif_n (by omega), cif_n (fun z => z ⟨hT16, hnn⟩), cif_y (fun z => hF88 z.1), hC2.2.1]
      · skip
        refine a_iconst eX10_rankLine_30 ?_
        refine a_zret eX10_rankLine_31 rfl (by first | exact Or.inl rfl | exact Or.inr rfl | omega) rfl ⟨Nat.zero_le _, Nat.zero_le _⟩ ?_
        have hnmd : named B nn d (te B nn q) := by
          rcases rnk_s (B := B) (n := nn) (d := d) (q := te B nn q) with ⟨z, -⟩ | z
          · omega
          · exact ⟨_, z.1⟩
        refine hk0 σ1 (frNM_T (frNM_K f1)) ?_
        unfold rkP
        rw [cif_n (by omega), cif_y (fun z => z.2 hnmd), hC1.2.1]
    · skip
      dsimp only [Option.toList, List.cons_append, List.nil_append]
      refine a_if_eq 30 eX10_rankLine_19 (by decide) (by omega) (fun _ => ?_) (fun h => absurd h (by decide))
      refine a_iconst eX10_rankLine_30 ?_
      refine a_zret eX10_rankLine_31 rfl (by first | exact Or.inl rfl | exact Or.inr rfl | omega) rfl ⟨Nat.zero_le _, Nat.zero_le _⟩ ?_
      refine hk0 σ1 (frNM_T (frNM_K f1)) ?_
      unfold rkP
      rw [cif_n (by omega), cif_y (fun z => hF16 z.1), hC1.2.1]
  · skip
    refine a_iconst eX10_rankLine_9 ?_
    refine a_zret eX10_rankLine_10 rfl (by first | exact Or.inl rfl | exact Or.inr rfl | omega) rfl ⟨Nat.zero_le _, Nat.zero_le _⟩ ?_
    refine hk0 σ (frTxM_rf σ) ?_
    unfold rkP
    rw [cif_y (by omega), hC.2.1]

set_option maxHeartbeats 4000000 in
set_option maxRecDepth 100000 in
theorem c_X10_letLine {l : Launch} {σ : aw_S} {Post : Option Value → aw_S → Prop} {tw cs : Bool} (hR : σ.2.2 = RF tw cs) {B : Int → Int} {nn : Int} (hT : txM σ B nn) (wT : wfTx B nn) {d : mS} {q : Int} (hG : drM σ B d) (wG : wfDr B nn d) (hq : 0 ≤ q ∧ q ≤ nn) (hC : tkM σ B nn q) (hk0 : ∀ σ', frTxM σ σ' → ltP B nn d (ts B nn q) (te B nn q) (cif (tkd B nn (te B nn q) = 1) (rnk B nn d (te B nn q)) (-1)) = .inl (σ'.1 171 4) → Post (some (.int (jI 0))) σ') (hk1 : ∀ σ' p' d', frTxM σ σ' → ltP B nn d (ts B nn q) (te B nn q) (cif (tkd B nn (te B nn q) = 1) (rnk B nn d (te B nn q)) (-1)) = .inr (p', d') → drM σ' B d' → tkM σ' B nn p' → Post (some (.int (jI 1))) σ')  : AE l yX10_letLine cX10_letLine 2 (some .boolean) 9 191 0 0 SH SH σ [.ref 171] Post := by
  show AW l yX10_letLine cX10_letLine 2 (some .boolean) 9 191 0 0 SH Post SH 0 0 σ 0 [some (.ref 171), none] []
  have hR0 := hR
  obtain ⟨⟨g1, g2⟩, ⟨g3, g4⟩, g5, g6, g7, g8⟩ := id hG
  obtain ⟨w1, w2, w3, w4, w5, w6, w7, w8, w9, w10, w11⟩ := id wG
  have u1 := wT.1
  have b0 := tok_b (B := B) hq
  have c1 := tok_b (B := B) (n := nn) (q := te B nn q) (by omega)
  have c2 := tok_b (B := B) (n := nn) (q := te B nn (te B nn q)) (by omega)
  have c3 := tok_b (B := B) (n := nn) (q := te B nn (te B nn (te B nn q))) (by omega)
  have c4 := tok_b (B := B) (n := nn) (q := te B nn (te B nn (te B nn (te B nn q)))) (by omega)
  have c5 := tok_b (B := B) (n := nn) (q := te B nn (te B nn (te B nn (te B nn (te B nn q))))) (by omega)
  refine a_ald0 eX10_letLine_0 ?_
  refine a_getI 9 eX10_letLine_1 fl_X10_208 rfl rfl sh_171 ?_
  refine a_eqtop (y0 := d 0 1) (by exact g3) ?_
  refine a_bipush eX10_letLine_4 (by decide) ?_
  refine a_icmp_ne 11 eX10_letLine_6 (by decide) (by omega) (fun hT6 => ?_) (fun hF6 => ?_)
  · skip
    refine a_iconst eX10_letLine_11 ?_
    refine a_ald0 eX10_letLine_12 ?_
    refine a_getI 9 eX10_letLine_13 fl_X10_208 rfl rfl sh_171 ?_
    refine a_eqtop (y0 := d 0 1) (by exact g3) ?_
    refine a_imul eX10_letLine_16 ?_
    refine a_ist1 eX10_letLine_17 (by decide) aw_n2r ?_
    refine a_ald0 eX10_letLine_18 ?_
    refine a_cV0 eX10_letLine_19 lk_X10_195 mV_X10_leads sh_171 ⟨_, rfl, rfl⟩ mt_X10_leads rfl rfl rfl rfl (c_X10_leads hR hT wT (q := te B nn q) (by omega) hC.1 (fun σ1 f1 hC1 => ?_))
    dsimp only [Option.toList, List.cons_append, List.nil_append]
    have hR1 : σ1.2.2 = RF tw cs := by rw [f1.2.2]; exact hR
    have hR := hR1
    have hT1 := txM_K f1 hT
    have hG1 := drM_N (frNM_K f1) hG
    refine a_ald0 eX10_letLine_22 ?_
    refine a_getR 10 175 eX10_letLine_23 fl_X10_21 rfl rfl sh_171 ((congrFun (congrFun hR _) _).trans rf_171_10) ?_
    refine a_ild1 eX10_letLine_26 ?_
    refine a_ald0 eX10_letLine_27 ?_
    refine a_cV0 eX10_letLine_28 lk_X10_198 mV_X10_named sh_171 ⟨_, rfl, rfl⟩ mt_X10_named rfl rfl rfl rfl (c_X10_named hR hG1 wG (q := te B nn q) (by omega) hC1 ?_)
    dsimp only [Option.toList, List.cons_append, List.nil_append]
    have hrb := rnk_b (B := B) (n := nn) (d := d) (q := te B nn q)
    obtain ⟨rk, erk'⟩ : ∃ r, r = (cif (tkd B nn (te B nn q) = 1) (rnk B nn d (te B nn q)) (-1)) := ⟨_, rfl⟩
    have erk : (cif (tkd B nn (te B nn q) = 1) (rnk B nn d (te B nn q)) (-1)) = rk := erk'.symm
    have hrk : -1 ≤ rk ∧ (rk < d 0 0 ∨ rk = -1) := by
      rw [erk']
      by_cases z : tkd B nn (te B nn q) = 1
      · rw [cif_y z]; exact hrb
      · rw [cif_n z]; omega
    rw [erk]
    refine a_iast eX10_letLine_31 sh_175 rfl (by omega) ?_
    refine AW.ex (fun s => ((∀ (b : Nat) (j : Int), ¬ (b = 171 ∧ ((2 ≤ j ∧ j ≤ 4) ∨ j = 44)) → ¬ (b = 175 ∧ (4 * d 0 1 ≤ j ∧ j ≤ 4 * d 0 1 + 3)) → s.1 b j = σ.1 b j) ∧ (∀ (b : Nat) (j : Int), ¬ (b = 171 ∧ j = 5) → s.2.1 b j = σ.2.1 b j) ∧ s.2.2 = σ.2.2) ∧ tkM s B nn (te B nn q) ∧ s.1 175 (4 * d 0 1) = rk) ⟨⟨fun b j z1 z2 => by rw [rd_si, if_neg (by omega)]; exact f1.1 b j (by omega), f1.2.1, f1.2.2⟩, ⟨by rw [rd_si_ne (by omega)]; exact hC1.1, by rw [rd_si_ne (by omega)]; exact hC1.2.1, by rw [rd_si_ne (by omega)]; exact hC1.2.2.1, hC1.2.2.2.1, hC1.2.2.2.2⟩, rd_si_eq⟩ (fun σ2 h2 => ?_)
    obtain ⟨⟨fo, fl, fr⟩, hC2, w0⟩ := h2
    have fT2 : frTxM σ σ2 := ⟨fun b j z1 z2 => fo b j (by omega) (by omega), fun b j z1 z2 => fl b j (by omega), fr⟩
    have hR2 : σ2.2.2 = RF tw cs := by rw [fr]; exact hR0
    have hR := hR2
    have hT2 := txM_T fT2 hT
    refine a_ald0 eX10_letLine_32 ?_
    refine a_getR 10 175 eX10_letLine_33 fl_X10_21 rfl rfl sh_171 ((congrFun (congrFun hR _) _).trans rf_171_10) ?_
    refine a_ild1 eX10_letLine_36 ?_
    refine a_iald eX10_letLine_37 sh_175 rfl (by omega) ?_
    refine a_eqtop (y0 := rk) (by exact w0) ?_
    refine a_iconst eX10_letLine_38 ?_
    refine a_icmp_ne 44 eX10_letLine_39 (by decide) (by omega) (fun hT39 => ?_) (fun hF39 => ?_)
    · skip
      refine a_ald0 eX10_letLine_44 ?_
      refine a_cV0 eX10_letLine_45 lk_X10_195 mV_X10_leads sh_171 ⟨_, rfl, rfl⟩ mt_X10_leads rfl rfl rfl rfl (c_X10_leads hR hT2 wT (q := te B nn (te B nn q)) (by omega) hC2.1 (fun σ3 f3 hC3 => ?_))
      dsimp only [Option.toList, List.cons_append, List.nil_append]
      have hR3 : σ3.2.2 = RF tw cs := by rw [f3.2.2]; exact hR
      have hR := hR3
      have fT3 := frTxM_tr fT2 (frNM_T (frNM_K f3))
      have hT3 := txM_T fT3 hT
      refine a_ald0 eX10_letLine_48 ?_
      refine a_iconst eX10_letLine_49 ?_
      refine a_iconst eX10_letLine_50 ?_
      refine a_cV2 eX10_letLine_51 lk_X10_201 mV_X10_number sh_171 ⟨_, rfl, rfl⟩ mt_X10_number rfl rfl rfl rfl rfl rfl (c_X10_number hR hT3 wT (q := te B nn (te B nn q)) (by omega) hC3 (by omega) (fun σ4 f4 hC4 v4 hT51 => ?_) (fun hF51 => ?_))
      · skip
        dsimp only [Option.toList, List.cons_append, List.nil_append]
        refine a_if_ne 59 eX10_letLine_54 (by decide) (by omega) (fun _ => ?_) (fun h => absurd h (by decide))
        have hR4 : σ4.2.2 = RF tw cs := by rw [f4.2.2]; exact hR
        have hR := hR4
        have f34 := frNM_tr (frNM_K f3) f4
        refine a_ald0 eX10_letLine_59 ?_
        refine a_getR 10 175 eX10_letLine_60 fl_X10_21 rfl rfl sh_171 ((congrFun (congrFun hR _) _).trans rf_171_10) ?_
        refine a_ild1 eX10_letLine_63 ?_
        refine a_iconst eX10_letLine_64 ?_
        refine a_iadd eX10_letLine_65 ?_
        refine a_ald0 eX10_letLine_66 ?_
        refine a_getI 44 eX10_letLine_67 fl_X10_192 rfl rfl sh_171 ?_
        refine a_eqtop (y0 := nv B nn (te B nn (te B nn q))) (by exact v4) ?_
        refine a_iast eX10_letLine_70 sh_175 rfl (by omega) ?_
        refine AW.ex (fun s => ((∀ (b : Nat) (j : Int), ¬ (b = 171 ∧ ((2 ≤ j ∧ j ≤ 4) ∨ j = 44)) → ¬ (b = 175 ∧ (4 * d 0 1 ≤ j ∧ j ≤ 4 * d 0 1 + 3)) → s.1 b j = σ.1 b j) ∧ (∀ (b : Nat) (j : Int), ¬ (b = 171 ∧ j = 5) → s.2.1 b j = σ.2.1 b j) ∧ s.2.2 = σ.2.2) ∧ tkM s B nn (te B nn (te B nn (te B nn q))) ∧ s.1 175 (4 * d 0 1) = rk ∧ s.1 175 (4 * d 0 1 + 1) = nv B nn (te B nn (te B nn q))) ⟨⟨fun b j z1 z2 => by rw [rd_si, if_neg (by omega), f34.1 b j z1]; exact fo b j z1 z2, fun b j z => (f34.2.1 b j z).trans (fl b j z), f34.2.2.trans fr⟩, ⟨by rw [rd_si_ne (by omega)]; exact hC4.1, by rw [rd_si_ne (by omega)]; exact hC4.2.1, by rw [rd_si_ne (by omega)]; exact hC4.2.2.1, hC4.2.2.2.1, hC4.2.2.2.2⟩, by rw [rd_si_ni (by omega), f34.1 _ _ (by omega)]; exact w0, rd_si_eq⟩ (fun σ5 h5 => ?_)
        obtain ⟨⟨fo, fl, fr⟩, hC5, w0, w1⟩ := h5
        have fT5 : frTxM σ σ5 := ⟨fun b j z1 z2 => fo b j (by omega) (by omega), fun b j z1 z2 => fl b j (by omega), fr⟩
        have hR5 : σ5.2.2 = RF tw cs := by rw [fr]; exact hR0
        have hR := hR5
        have hT5 := txM_T fT5 hT
        refine a_ald0 eX10_letLine_71 ?_
        refine a_iconst eX10_letLine_72 ?_
        refine a_bipush eX10_letLine_73 (by decide) ?_
        refine a_cV2 eX10_letLine_75 lk_X10_201 mV_X10_number sh_171 ⟨_, rfl, rfl⟩ mt_X10_number rfl rfl rfl rfl rfl rfl (c_X10_number hR hT5 wT (q := te B nn (te B nn (te B nn q))) (by omega) hC5 (by omega) (fun σ6 f6 hC6 v6 hT75 => ?_) (fun hF75 => ?_))
        · skip
          dsimp only [Option.toList, List.cons_append, List.nil_append]
          refine a_if_ne 83 eX10_letLine_78 (by decide) (by omega) (fun _ => ?_) (fun h => absurd h (by decide))
          have hR6 : σ6.2.2 = RF tw cs := by rw [f6.2.2]; exact hR
          have hR := hR6
          have hn6 := id hT75
          unfold isnum at hn6
          refine a_ald0 eX10_letLine_83 ?_
          refine a_getR 10 175 eX10_letLine_84 fl_X10_21 rfl rfl sh_171 ((congrFun (congrFun hR _) _).trans rf_171_10) ?_
          refine a_ild1 eX10_letLine_87 ?_
          refine a_iconst eX10_letLine_88 ?_
          refine a_iadd eX10_letLine_89 ?_
          refine a_ald0 eX10_letLine_90 ?_
          refine a_getI 44 eX10_letLine_91 fl_X10_192 rfl rfl sh_171 ?_
          refine a_eqtop (y0 := nv B nn (te B nn (te B nn (te B nn q)))) (by exact v6) ?_
          refine a_iast eX10_letLine_94 sh_175 rfl (by omega) ?_
          refine AW.ex (fun s => ((∀ (b : Nat) (j : Int), ¬ (b = 171 ∧ ((2 ≤ j ∧ j ≤ 4) ∨ j = 44)) → ¬ (b = 175 ∧ (4 * d 0 1 ≤ j ∧ j ≤ 4 * d 0 1 + 3)) → s.1 b j = σ.1 b j) ∧ (∀ (b : Nat) (j : Int), ¬ (b = 171 ∧ j = 5) → s.2.1 b j = σ.2.1 b j) ∧ s.2.2 = σ.2.2) ∧ tkM s B nn (te B nn (te B nn (te B nn (te B nn q)))) ∧ s.1 175 (4 * d 0 1) = rk ∧ s.1 175 (4 * d 0 1 + 1) = nv B nn (te B nn (te B nn q)) ∧ s.1 175 (4 * d 0 1 + 2) = nv B nn (te B nn (te B nn (te B nn q))) ∧ s.1 171 44 = nv B nn (te B nn (te B nn (te B nn q)))) ⟨⟨fun b j z1 z2 => by rw [rd_si, if_neg (by omega), f6.1 b j z1]; exact fo b j z1 z2, fun b j z => (f6.2.1 b j z).trans (fl b j z), f6.2.2.trans fr⟩, ⟨by rw [rd_si_ne (by omega)]; exact hC6.1, by rw [rd_si_ne (by omega)]; exact hC6.2.1, by rw [rd_si_ne (by omega)]; exact hC6.2.2.1, hC6.2.2.2.1, hC6.2.2.2.2⟩, by rw [rd_si_ni (by omega), f6.1 _ _ (by omega)]; exact w0, by rw [rd_si_ni (by omega), f6.1 _ _ (by omega)]; exact w1, rd_si_eq, by rw [rd_si_ne (by omega)]; exact v6⟩ (fun σ7 h7 => ?_)
          obtain ⟨⟨fo, fl, fr⟩, hC7, w0, w1, w2, w3⟩ := h7
          have fT7 : frTxM σ σ7 := ⟨fun b j z1 z2 => fo b j (by omega) (by omega), fun b j z1 z2 => fl b j (by omega), fr⟩
          have hR7 : σ7.2.2 = RF tw cs := by rw [fr]; exact hR0
          have hR := hR7
          have hT7 := txM_T fT7 hT
          refine a_ald0 eX10_letLine_95 ?_
          refine a_ald0 eX10_letLine_96 ?_
          refine a_getI 44 eX10_letLine_97 fl_X10_192 rfl rfl sh_171 ?_
          refine a_eqtop (y0 := nv B nn (te B nn (te B nn (te B nn q)))) (by exact w3) ?_
          refine a_bipush eX10_letLine_100 (by decide) ?_
          refine a_cV2 eX10_letLine_102 lk_X10_201 mV_X10_number sh_171 ⟨_, rfl, rfl⟩ mt_X10_number rfl rfl rfl rfl rfl rfl (c_X10_number hR hT7 wT (q := te B nn (te B nn (te B nn (te B nn q)))) (by omega) hC7 (by omega) (fun σ8 f8 hC8 v8 hT102 => ?_) (fun hF102 => ?_))
          · skip
            dsimp only [Option.toList, List.cons_append, List.nil_append]
            refine a_if_ne 110 eX10_letLine_105 (by decide) (by omega) (fun _ => ?_) (fun h => absurd h (by decide))
            have hR8 : σ8.2.2 = RF tw cs := by rw [f8.2.2]; exact hR
            have hR := hR8
            refine a_ald0 eX10_letLine_110 ?_
            refine a_getR 10 175 eX10_letLine_111 fl_X10_21 rfl rfl sh_171 ((congrFun (congrFun hR _) _).trans rf_171_10) ?_
            refine a_ild1 eX10_letLine_114 ?_
            refine a_iconst eX10_letLine_115 ?_
            refine a_iadd eX10_letLine_116 ?_
            refine a_ald0 eX10_letLine_117 ?_
            refine a_getI 44 eX10_letLine_118 fl_X10_192 rfl rfl sh_171 ?_
            refine a_eqtop (y0 := nv B nn (te B nn (te B nn (te B nn (te B nn q))))) (by exact v8) ?_
            refine a_iast eX10_letLine_121 sh_175 rfl (by omega) ?_
            refine a_ald0 eX10_letLine_122 ?_
            refine a_dup eX10_letLine_123 rfl ?_
            refine a_getI 9 eX10_letLine_124 fl_X10_208 rfl rfl sh_171 ?_
            refine a_eqtop (y0 := d 0 1) (by rw [rd_si_ne (by omega), f8.1 _ _ (by omega), fo _ _ (by omega) (by omega)]; exact g3) ?_
            refine a_iconst eX10_letLine_127 ?_
            refine a_iadd eX10_letLine_128 ?_
            refine a_putI 9 eX10_letLine_129 fl_X10_208 rfl rfl sh_171 (fun q h => Or.inl (by cases h; rfl)) ?_
            refine AW.ex (fun s => ((∀ (b : Nat) (j : Int), ¬ (b = 171 ∧ ((2 ≤ j ∧ j ≤ 4) ∨ j = 44)) → ¬ (b = 175 ∧ (4 * d 0 1 ≤ j ∧ j ≤ 4 * d 0 1 + 3)) → ¬ (b = 171 ∧ j = 9) → s.1 b j = σ.1 b j) ∧ (∀ (b : Nat) (j : Int), ¬ (b = 171 ∧ j = 5) → s.2.1 b j = σ.2.1 b j) ∧ s.2.2 = σ.2.2) ∧ tkM s B nn (te B nn (te B nn (te B nn (te B nn (te B nn q))))) ∧ (s.1 175 (4 * d 0 1) = rk ∧ s.1 175 (4 * d 0 1 + 1) = nv B nn (te B nn (te B nn q)) ∧ s.1 175 (4 * d 0 1 + 2) = nv B nn (te B nn (te B nn (te B nn q))) ∧ s.1 175 (4 * d 0 1 + 3) = nv B nn (te B nn (te B nn (te B nn (te B nn q))))) ∧ s.1 171 9 = d 0 1 + 1) ⟨⟨fun b j z1 z2 z3 => ?_, fun b j z => (f8.2.1 b j z).trans (fl b j z), f8.2.2.trans fr⟩, ⟨?_, ?_, ?_, hC8.2.2.2.1, hC8.2.2.2.2⟩, ⟨?_, ?_, ?_, ?_⟩, rd_si_eq⟩ (fun σ9 h9 => ?_)
            · rw [rd_si, if_neg (by omega), rd_si, if_neg (by omega), f8.1 b j z1]; exact fo b j z1 z2
            · rw [rd_si_ni (by omega), rd_si_ne (by omega)]; exact hC8.1
            · rw [rd_si_ni (by omega), rd_si_ne (by omega)]; exact hC8.2.1
            · rw [rd_si_ni (by omega), rd_si_ne (by omega)]; exact hC8.2.2.1
            · rw [rd_si_ne (by omega), rd_si_ni (by omega), f8.1 _ _ (by omega)]; exact w0
            · rw [rd_si_ne (by omega), rd_si_ni (by omega), f8.1 _ _ (by omega)]; exact w1
            · rw [rd_si_ne (by omega), rd_si_ni (by omega), f8.1 _ _ (by omega)]; exact w2
            · rw [rd_si_ne (by omega), rd_si_eq]
            obtain ⟨⟨fo, fl, fr⟩, hC9, ⟨w0, w1, w2, w3'⟩, v0⟩ := h9
            have fT9 : frTxM σ σ9 := ⟨fun b j z1 z2 => fo b j (by omega) (by omega) (by omega), fun b j z1 z2 => fl b j z1, fr⟩
            have hR9 : σ9.2.2 = RF tw cs := by rw [fr]; exact hR0
            have hR := hR9
            have hT9 := txM_T fT9 hT
            refine a_ald0 eX10_letLine_132 ?_
            refine a_cV0 eX10_letLine_133 lk_X10_205 mV_X10_closes sh_171 ⟨_, rfl, rfl⟩ mt_X10_closes rfl rfl rfl rfl (c_X10_closes hR hT9 wT (q := te B nn (te B nn (te B nn (te B nn (te B nn q))))) (by omega) hC9 (fun σ10 f10 hC10 hT133 => ?_) (fun hF133 => ?_))
            · skip
              dsimp only [Option.toList, List.cons_append, List.nil_append]
              refine a_zret eX10_letLine_136 rfl (by first | exact Or.inl rfl | exact Or.inr rfl | omega) rfl ⟨Nat.zero_le _, Nat.zero_le _⟩ ?_
              refine hk1 σ10 _ (ltD B nn d (te B nn q) rk) (frTxM_tr fT9 (frNM_T (frNM_K f10))) ?_ (drM_lt hG (by omega) (fun b j z1 z2 z3 => (f10.1 b j (by omega)).trans (fo b j z1 z2 z3)) (fun j => (f10.2.1 _ _ (by omega)).trans (fl _ _ (by omega))) (by rw [f10.1 _ _ (by omega)]; exact v0) (by rw [f10.1 _ _ (by omega)]; exact w0) (by rw [f10.1 _ _ (by omega)]; exact w1) (by rw [f10.1 _ _ (by omega)]; exact w2) (by rw [f10.1 _ _ (by omega)]; exact w3')) hC10
              unfold ltP
              rw [cif_n (by omega), erk, cif_n (by omega), cif_n (fun z => z hT51), cif_n (fun z => z hT75), cif_n (fun z => z hT102), cif_n (fun z => z hT133)]
            · skip
              dsimp only [Option.toList, List.cons_append, List.nil_append]
              refine a_zret eX10_letLine_136 rfl (by first | exact Or.inl rfl | exact Or.inr rfl | omega) rfl ⟨Nat.zero_le _, Nat.zero_le _⟩ ?_
              refine hk0 σ9 fT9 ?_
              unfold ltP
              rw [cif_n (by omega), erk, cif_n (by omega), cif_n (fun z => z hT51), cif_n (fun z => z hT75), cif_n (fun z => z hT102), cif_y hF133, hC9.2.1]
          · skip
            dsimp only [Option.toList, List.cons_append, List.nil_append]
            refine a_if_ne 110 eX10_letLine_105 (by decide) (by omega) (fun h => absurd h (by decide)) (fun _ => ?_)
            refine a_iconst eX10_letLine_108 ?_
            refine a_zret eX10_letLine_109 rfl (by first | exact Or.inl rfl | exact Or.inr rfl | omega) rfl ⟨Nat.zero_le _, Nat.zero_le _⟩ ?_
            refine hk0 σ7 fT7 ?_
            unfold ltP
            rw [cif_n (by omega), erk, cif_n (by omega), cif_n (fun z => z hT51), cif_n (fun z => z hT75), cif_y hF102, hC7.2.1]
        · skip
          dsimp only [Option.toList, List.cons_append, List.nil_append]
          refine a_if_ne 83 eX10_letLine_78 (by decide) (by omega) (fun h => absurd h (by decide)) (fun _ => ?_)
          refine a_iconst eX10_letLine_81 ?_
          refine a_zret eX10_letLine_82 rfl (by first | exact Or.inl rfl | exact Or.inr rfl | omega) rfl ⟨Nat.zero_le _, Nat.zero_le _⟩ ?_
          refine hk0 σ5 fT5 ?_
          unfold ltP
          rw [cif_n (by omega), erk, cif_n (by omega), cif_n (fun z => z hT51), cif_y hF75, hC5.2.1]
      · skip
        dsimp only [Option.toList, List.cons_append, List.nil_append]
        refine a_if_ne 59 eX10_letLine_54 (by decide) (by omega) (fun h => absurd h (by decide)) (fun _ => ?_)
        refine a_iconst eX10_letLine_57 ?_
        refine a_zret eX10_letLine_58 rfl (by first | exact Or.inl rfl | exact Or.inr rfl | omega) rfl ⟨Nat.zero_le _, Nat.zero_le _⟩ ?_
        refine hk0 σ3 fT3 ?_
        unfold ltP
        rw [cif_n (by omega), erk, cif_n (by omega), cif_y hF51, hC3.2.1]
    · skip
      refine a_iconst eX10_letLine_42 ?_
      refine a_zret eX10_letLine_43 rfl (by first | exact Or.inl rfl | exact Or.inr rfl | omega) rfl ⟨Nat.zero_le _, Nat.zero_le _⟩ ?_
      refine hk0 σ2 fT2 ?_
      unfold ltP
      rw [cif_n (by omega), erk, cif_y (by omega), hC2.2.1]
  · skip
    refine a_iconst eX10_letLine_9 ?_
    refine a_zret eX10_letLine_10 rfl (by first | exact Or.inl rfl | exact Or.inr rfl | omega) rfl ⟨Nat.zero_le _, Nat.zero_le _⟩ ?_
    refine hk0 σ (frTxM_rf σ) ?_
    unfold ltP
    rw [cif_y (by omega), hC.2.1]
