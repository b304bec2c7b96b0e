theorem cvf_s {f : Nat → Int} {k s : Int} (h : s ≤ k) : cvf f (k + 1 - s).toNat = if 100000 < cvf f (k - s).toNat * 10 + f (k - s).toNat - 48 then 100000 else cvf f (k - s).toNat * 10 + f (k - s).toNat - 48 := by
  rw [show (k + 1 - s).toNat = (k - s).toNat + 1 by omega]
  rfl
theorem sgn_k {B : Int → Int} {k s : Int} (h : s ≤ k) : sgn B s (k - s).toNat = B k := by
  unfold sgn
  congr 1
  omega
def frV (σ σ' : aw_S) : Prop := (∀ (b : Nat) (j : Int), ¬ (b = 1 ∧ j = 11) → σ'.1 b j = σ.1 b j) ∧ σ'.2 = σ.2
set_option maxHeartbeats 4000000 in
set_option maxRecDepth 100000 in
theorem lp_rn {l : Launch} {σ : aw_S} {Post : Option Value → aw_S → Prop} {tw cs : Bool} (hR : σ.2.2 = RF tw cs) {B : Int → Int} {nn : Int} (hT : txC σ B nn) (wT : wfTx B nn) {q lo hi : Int} (hq : 0 ≤ q ∧ q ≤ nn) (hk2 : tkd B nn q = 2) (hC : tkC σ B nn q) (hk : ∀ σ2 l3, frV σ σ2 → σ2.1 1 11 = cvf (sgn B (ts B nn q)) (te B nn q - ts B nn q).toNat → AW l yX4_readNumberWithin cX4_readNumberWithin 4 (some .boolean) 2 40 0 0 SH Post SH 0 0 (σ2) 62 [some (.ref 1), some (.int (jI lo)), some (.int (jI hi)), l3] [])  : ∀ (n : Nat) (k : Int) (σ1 : aw_S), ((te B nn q - k).toNat ≤ n) → (ts B nn q ≤ k ∧ k ≤ te B nn q) → (frV σ σ1) → (σ1.1 1 11 = cvf (sgn B (ts B nn q)) (k - ts B nn q).toNat) → AW l yX4_readNumberWithin cX4_readNumberWithin 4 (some .boolean) 2 40 0 0 SH Post SH 0 0 (σ1) 14 [some (.ref 1), some (.int (jI lo)), some (.int (jI hi)), some (.int (jI k))] [] := by
  intro n
  induction n with
  | zero =>
    intro k σ1 hm hkb f1 hv
    obtain ⟨t1, t2⟩ := id hT
    obtain ⟨u1, u2⟩ := id wT
    have hR : σ1.2.2 = RF tw cs := by rw [f1.2]; exact hR
    have b0 := tok_b (B := B) hq
    have e8 : σ1.1 1 8 = te B nn q := (f1.1 _ _ (by omega)).trans hC.1
    have e10 : σ1.1 1 10 = 2 := (f1.1 _ _ (by omega)).trans (hC.2.2.trans hk2)
    obtain ⟨-, hal⟩ := tok_all hq (Or.inr rfl) hk2
    have hcv := (nv_cv (f := sgn B (ts B nn q)) (k - ts B nn q).toNat (fun i hi => kd_2.mp (hal _ (by omega) (by omega)))).2.1
    have hby : k < te B nn q → σ1.1 2 k = B k ∧ (48 ≤ B k ∧ B k ≤ 57) := fun h => ⟨(f1.1 _ _ (by omega)).trans (t2 k (by omega) (by omega)), kd_2.mp (hal k (by omega) h)⟩
    refine a_ild3 eX4_readNumberWithin_14 ?_
    refine a_ald0 eX4_readNumberWithin_15 ?_
    refine a_getI 8 eX4_readNumberWithin_16 fl_X4_46 rfl rfl sh_1 ?_
    refine a_eqtop (y0 := te B nn q) (by exact e8) ?_
    refine a_icmp_ge 62 eX4_readNumberWithin_19 (by decide) (by omega) (fun hT19 => ?_) (fun hF19 => ?_)
    · skip
      rw [show k = te B nn q by omega] at hv
      exact hk σ1 _ f1 hv
    · skip
      exfalso; omega
  | succ n ih =>
    intro k σ1 hm hkb f1 hv
    obtain ⟨t1, t2⟩ := id hT
    obtain ⟨u1, u2⟩ := id wT
    have hR : σ1.2.2 = RF tw cs := by rw [f1.2]; exact hR
    have b0 := tok_b (B := B) hq
    have e8 : σ1.1 1 8 = te B nn q := (f1.1 _ _ (by omega)).trans hC.1
    have e10 : σ1.1 1 10 = 2 := (f1.1 _ _ (by omega)).trans (hC.2.2.trans hk2)
    obtain ⟨-, hal⟩ := tok_all hq (Or.inr rfl) hk2
    have hcv := (nv_cv (f := sgn B (ts B nn q)) (k - ts B nn q).toNat (fun i hi => kd_2.mp (hal _ (by omega) (by omega)))).2.1
    have hby : k < te B nn q → σ1.1 2 k = B k ∧ (48 ≤ B k ∧ B k ≤ 57) := fun h => ⟨(f1.1 _ _ (by omega)).trans (t2 k (by omega) (by omega)), kd_2.mp (hal k (by omega) h)⟩
    refine a_ild3 eX4_readNumberWithin_14 ?_
    refine a_ald0 eX4_readNumberWithin_15 ?_
    refine a_getI 8 eX4_readNumberWithin_16 fl_X4_46 rfl rfl sh_1 ?_
    refine a_eqtop (y0 := te B nn q) (by exact e8) ?_
    refine a_icmp_ge 62 eX4_readNumberWithin_19 (by decide) (by omega) (fun hT19 => ?_) (fun hF19 => ?_)
    · skip
      rw [show k = te B nn q by omega] at hv
      exact hk σ1 _ f1 hv
    · skip
      have hby := hby (by omega)
      refine a_ald0 eX4_readNumberWithin_22 ?_
      refine a_getI 10 eX4_readNumberWithin_23 fl_X4_52 rfl rfl sh_1 ?_
      refine a_eqtop (y0 := 2) (by exact e10) ?_
      refine a_iconst eX4_readNumberWithin_26 ?_
      refine a_icmp_ne 62 eX4_readNumberWithin_27 (by decide) (by omega) (fun hT27 => ?_) (fun hF27 => ?_)
      · skip
        rw [show k = te B nn q by omega] at hv
        exact hk σ1 _ f1 hv
      · skip
        refine a_ald0 eX4_readNumberWithin_30 ?_
        refine a_ald0 eX4_readNumberWithin_31 ?_
        refine a_getI 11 eX4_readNumberWithin_32 fl_X4_109 rfl rfl sh_1 ?_
        refine a_eqtop (y0 := cvf (sgn B (ts B nn q)) (k - ts B nn q).toNat) (by exact hv) ?_
        refine a_bipush eX4_readNumberWithin_35 (by decide) ?_
        refine a_imul eX4_readNumberWithin_37 ?_
        refine a_ald0 eX4_readNumberWithin_38 ?_
        refine a_getR 0 2 eX4_readNumberWithin_39 fl_X4_9 rfl rfl sh_1 ((congrFun (congrFun hR _) _).trans rf_1_0) ?_
        refine a_ild3 eX4_readNumberWithin_42 ?_
        refine a_bald eX4_readNumberWithin_43 sh_2 rfl (by omega) ?_
        refine a_eqtop (y0 := B k) (by exact hby.1) ?_
        refine a_iadd eX4_readNumberWithin_44 ?_
        refine a_bipush eX4_readNumberWithin_45 (by decide) ?_
        refine a_isub eX4_readNumberWithin_47 ?_
        refine a_ldc (100000) (by decide) eX4_readNumberWithin_48 kc_X4_163 ?_
        refine a_mmin eX4_readNumberWithin_50 lk_X4_164 (by omega) rfl rfl ?_
        refine a_eqtop (y0 := (if 100000 < cvf (sgn B (ts B nn q)) (k - ts B nn q).toNat * 10 + B k - 48 then 100000 else cvf (sgn B (ts B nn q)) (k - ts B nn q).toNat * 10 + B k - 48)) (by rfl) ?_
        refine a_putI 11 eX4_readNumberWithin_53 fl_X4_109 rfl rfl sh_1 (fun q h => Or.inl (by cases h; rfl)) ?_
        refine a_iinc3 eX4_readNumberWithin_56 (by decide) aw_n2i ?_
        refine a_goto 14 eX4_readNumberWithin_59 (by decide) ?_
        refine ih (k + 1) _ (by omega) (by omega) ⟨fun b j z => by rw [rd_si]; rw [if_neg (by omega)]; exact f1.1 b j z, f1.2⟩ ?_
        rw [rd_si_eq, cvf_s (by omega), sgn_k (by omega)]

set_option maxHeartbeats 4000000 in
set_option maxRecDepth 100000 in
theorem c_X4_readNumberWithin {l : Launch} {σ : aw_S} {Post : Option Value → aw_S → Prop} {tw cs : Bool} (hR : σ.2.2 = RF tw cs) {B : Int → Int} {nn : Int} (hT : txC σ B nn) (wT : wfTx B nn) {q lo hi : Int} (hq : 0 ≤ q ∧ q ≤ nn) (hat : σ.1 1 8 = q) (hlh : (0 ≤ lo ∧ lo ≤ 1000) ∧ (0 ≤ hi ∧ hi ≤ 999)) (h1 : ∀ σ', frK σ σ' → tkC σ' B nn q → σ'.1 1 11 = nv B nn q → isnum B nn lo hi q → Post (some (.int (jI 1))) σ') (h0 : ∀ σ', frK σ σ' → tkC σ' B nn q → ¬ isnum B nn lo hi q → Post (some (.int (jI 0))) σ')  : AE l yX4_readNumberWithin cX4_readNumberWithin 4 (some .boolean) 2 40 0 0 SH SH σ [.ref 1, .int (jI lo), .int (jI hi)] Post := by
  show AW l yX4_readNumberWithin cX4_readNumberWithin 4 (some .boolean) 2 40 0 0 SH Post SH 0 0 σ 0 [some (.ref 1), some (.int (jI lo)), some (.int (jI hi)), none] []
  have b0 := tok_b (B := B) hq
  have u1 := wT.1
  refine a_ald0 eX4_readNumberWithin_0 ?_
  refine a_cV0 eX4_readNumberWithin_1 lk_X4_49 mV_X4_readToken sh_1 ⟨_, rfl, rfl⟩ mt_X4_readToken rfl rfl rfl rfl (c_X4_readToken hR hT wT hq hat (fun σ1 f1 hC1 => ?_))
  dsimp only [Option.toList, List.cons_append, List.nil_append]
  have hR1 : σ1.2.2 = RF tw cs := by rw [f1.2]; exact hR
  have hR := hR1
  refine a_ald0 eX4_readNumberWithin_4 ?_
  refine a_iconst eX4_readNumberWithin_5 ?_
  refine a_putI 11 eX4_readNumberWithin_6 fl_X4_109 rfl rfl sh_1 (fun q h => Or.inl (by cases h; rfl)) ?_
  refine a_ald0 eX4_readNumberWithin_9 ?_
  refine a_getI 9 eX4_readNumberWithin_10 fl_X4_62 rfl rfl sh_1 ?_
  refine a_eqtop (y0 := ts B nn q) (by rw [rd_si_ni (by omega)]; exact hC1.2.1) ?_
  refine a_ist3 eX4_readNumberWithin_13 (by decide) aw_n2i ?_
  by_cases hk2 : tkd B nn q = 2
  · refine lp_rn (σ := (aw_si σ1 1 11 0)) (q := q) (by exact hR) (txC_K ⟨fun b j z => by rw [rd_si, if_neg (by omega)]; exact f1.1 b j z, f1.2⟩ hT) wT hq hk2 ⟨by rw [rd_si_ni (by omega)]; exact hC1.1, by rw [rd_si_ni (by omega)]; exact hC1.2.1, by rw [rd_si_ni (by omega)]; exact hC1.2.2⟩ (fun σ2 l3 f2 hv2 => ?_) _ (ts B nn q) _ (Nat.le_refl _) (by omega) ⟨fun _ _ _ => rfl, rfl⟩ (by rw [rd_si_eq, Int.sub_self]; rfl)
    have hR2 : σ2.2.2 = RF tw cs := by rw [f2.2]; exact hR
    have hR := hR2
    have f12 : frK σ σ2 := ⟨fun b j z => by rw [f2.1 b j (by omega), rd_si, if_neg (by omega)]; exact f1.1 b j z, f2.2.trans f1.2⟩
    have hC2 : tkC σ2 B nn q := ⟨by rw [f2.1 1 8 (by omega), rd_si_ni (by omega)]; exact hC1.1, by rw [f2.1 1 9 (by omega), rd_si_ni (by omega)]; exact hC1.2.1, by rw [f2.1 1 10 (by omega), rd_si_ni (by omega)]; exact hC1.2.2⟩
    obtain ⟨-, hal⟩ := tok_all hq (Or.inr rfl) hk2
    have hcv := nv_cv (f := sgn B (ts B nn q)) (te B nn q - ts B nn q).toNat (fun i hi => kd_2.mp (hal _ (by omega) (by omega)))
    have hnv : nv B nn q = nvf (sgn B (ts B nn q)) (te B nn q - ts B nn q).toNat := rfl
    refine a_ald0 eX4_readNumberWithin_62 ?_
    refine a_getI 10 eX4_readNumberWithin_63 fl_X4_52 rfl rfl sh_1 ?_
    refine a_eqtop (y0 := tkd B nn q) (by exact hC2.2.2) ?_
    refine a_iconst eX4_readNumberWithin_66 ?_
    refine a_icmp_ne 86 eX4_readNumberWithin_67 (by decide) (by omega) (fun hT67 => ?_) (fun hF67 => ?_)
    · skip
      refine a_iconst eX4_readNumberWithin_86 ?_
      refine a_zret eX4_readNumberWithin_87 rfl (by first | exact Or.inl rfl | exact Or.inr rfl | omega) rfl ⟨Nat.zero_le _, Nat.zero_le _⟩ ?_
      first | (exfalso; omega) | exact h0 _ f12 hC2 (fun z => by have := z.2; omega)
    · skip
      refine a_ald0 eX4_readNumberWithin_70 ?_
      refine a_getI 11 eX4_readNumberWithin_71 fl_X4_109 rfl rfl sh_1 ?_
      refine a_eqtop (y0 := cvf (sgn B (ts B nn q)) (te B nn q - ts B nn q).toNat) (by exact hv2) ?_
      refine a_ild1 eX4_readNumberWithin_74 ?_
      refine a_ild2 eX4_readNumberWithin_75 ?_
      refine a_cN3 eX4_readNumberWithin_76 ln_X4_170 mS_X9_within mt_X9_within rfl rfl rfl rfl rfl rfl rfl (c_X9_within (by omega) (fun hT76 => ?_) (fun hF76 => ?_))
      · skip
        dsimp only [Option.toList, List.cons_append, List.nil_append]
        refine a_if_eq 86 eX4_readNumberWithin_79 (by decide) (by omega) (fun h => absurd h (by decide)) (fun _ => ?_)
        refine a_iconst eX4_readNumberWithin_82 ?_
        refine a_goto 87 eX4_readNumberWithin_83 (by decide) ?_
        refine a_zret eX4_readNumberWithin_87 rfl (by first | exact Or.inl rfl | exact Or.inr rfl | omega) rfl ⟨Nat.zero_le _, Nat.zero_le _⟩ ?_
        refine h1 _ f12 hC2 (by rw [hv2]; omega) ⟨hk2, by omega, by omega⟩
      · skip
        dsimp only [Option.toList, List.cons_append, List.nil_append]
        refine a_if_eq 86 eX4_readNumberWithin_79 (by decide) (by omega) (fun _ => ?_) (fun h => absurd h (by decide))
        refine a_iconst eX4_readNumberWithin_86 ?_
        refine a_zret eX4_readNumberWithin_87 rfl (by first | exact Or.inl rfl | exact Or.inr rfl | omega) rfl ⟨Nat.zero_le _, Nat.zero_le _⟩ ?_
        first | (exfalso; omega) | exact h0 _ f12 hC2 (fun z => by have := z.2; omega)
  · skip
    refine a_ild3 eX4_readNumberWithin_14 ?_
    refine a_ald0 eX4_readNumberWithin_15 ?_
    refine a_getI 8 eX4_readNumberWithin_16 fl_X4_46 rfl rfl sh_1 ?_
    refine a_eqtop (y0 := te B nn q) (by rw [rd_si_ni (by omega)]; exact hC1.1) ?_
    refine a_icmp_ge 62 eX4_readNumberWithin_19 (by decide) (by omega) (fun hT19 => ?_) (fun hF19 => ?_)
    · skip
      refine a_ald0 eX4_readNumberWithin_62 ?_
      refine a_getI 10 eX4_readNumberWithin_63 fl_X4_52 rfl rfl sh_1 ?_
      refine a_eqtop (y0 := tkd B nn q) (by rw [rd_si_ni (by omega)]; exact hC1.2.2) ?_
      refine a_iconst eX4_readNumberWithin_66 ?_
      refine a_icmp_ne 86 eX4_readNumberWithin_67 (by decide) (by omega) (fun hT67 => ?_) (fun hF67 => ?_)
      · skip
        refine a_iconst eX4_readNumberWithin_86 ?_
        refine a_zret eX4_readNumberWithin_87 rfl (by first | exact Or.inl rfl | exact Or.inr rfl | omega) rfl ⟨Nat.zero_le _, Nat.zero_le _⟩ ?_
        refine h0 _ ⟨fun b j z => by rw [rd_si, if_neg (by omega)]; exact f1.1 b j z, f1.2⟩ ⟨?_, ?_, ?_⟩ (fun z => hk2 z.1)
        · rw [rd_si_ni (by omega)]; exact hC1.1
        · rw [rd_si_ni (by omega)]; exact hC1.2.1
        · rw [rd_si_ni (by omega)]; exact hC1.2.2
      · skip
        exfalso; omega
    · skip
      refine a_ald0 eX4_readNumberWithin_22 ?_
      refine a_getI 10 eX4_readNumberWithin_23 fl_X4_52 rfl rfl sh_1 ?_
      refine a_eqtop (y0 := tkd B nn q) (by rw [rd_si_ni (by omega)]; exact hC1.2.2) ?_
      refine a_iconst eX4_readNumberWithin_26 ?_
      refine a_icmp_ne 62 eX4_readNumberWithin_27 (by decide) (by omega) (fun hT27 => ?_) (fun hF27 => ?_)
      · skip
        refine a_ald0 eX4_readNumberWithin_62 ?_
        refine a_getI 10 eX4_readNumberWithin_63 fl_X4_52 rfl rfl sh_1 ?_
        refine a_eqtop (y0 := tkd B nn q) (by rw [rd_si_ni (by omega)]; exact hC1.2.2) ?_
        refine a_iconst eX4_readNumberWithin_66 ?_
        refine a_icmp_ne 86 eX4_readNumberWithin_67 (by decide) (by omega) (fun hT67 => ?_) (fun hF67 => ?_)
        · skip
          refine a_iconst eX4_readNumberWithin_86 ?_
          refine a_zret eX4_readNumberWithin_87 rfl (by first | exact Or.inl rfl | exact Or.inr rfl | omega) rfl ⟨Nat.zero_le _, Nat.zero_le _⟩ ?_
          refine h0 _ ⟨fun b j z => by rw [rd_si, if_neg (by omega)]; exact f1.1 b j z, f1.2⟩ ⟨?_, ?_, ?_⟩ (fun z => hk2 z.1)
          · rw [rd_si_ni (by omega)]; exact hC1.1
          · rw [rd_si_ni (by omega)]; exact hC1.2.1
          · rw [rd_si_ni (by omega)]; exact hC1.2.2
        · skip
          exfalso; omega
      · skip
        exfalso; omega

set_option maxHeartbeats 4000000 in
set_option maxRecDepth 100000 in
theorem c_X4_readStop {l : Launch} {σ : aw_S} {Post : Option Value → aw_S → Prop} {tw cs : Bool} (hR : σ.2.2 = RF tw cs) {B : Int → Int} {nn : Int} (hT : txC σ B nn) (wT : wfTx B nn) {q : Int} (hq : 0 ≤ q ∧ q ≤ nn) (hat : σ.1 1 8 = q) (h1 : ∀ σ', frK σ σ' → tkC σ' B nn q → tkd B nn q = 3 → Post (some (.int (jI 1))) σ') (h0 : ∀ σ', frK σ σ' → tkC σ' B nn q → ¬ tkd B nn q = 3 → Post (some (.int (jI 0))) σ')  : AE l yX4_readStop cX4_readStop 1 (some .boolean) 2 40 0 0 SH SH σ [.ref 1] Post := by
  show AW l yX4_readStop cX4_readStop 1 (some .boolean) 2 40 0 0 SH Post SH 0 0 σ 0 [some (.ref 1)] []
  have b0 := tok_b (B := B) hq
  refine a_ald0 eX4_readStop_0 ?_
  refine a_cV0 eX4_readStop_1 lk_X4_49 mV_X4_readToken sh_1 ⟨_, rfl, rfl⟩ mt_X4_readToken rfl rfl rfl rfl (c_X4_readToken hR hT wT hq hat (fun σ1 f1 hC1 => ?_))
  dsimp only [Option.toList, List.cons_append, List.nil_append]
  have hR1 : σ1.2.2 = RF tw cs := by rw [f1.2]; exact hR
  have hR := hR1
  refine a_ald0 eX4_readStop_4 ?_
  refine a_getI 10 eX4_readStop_5 fl_X4_52 rfl rfl sh_1 ?_
  refine a_eqtop (y0 := tkd B nn q) (by exact hC1.2.2) ?_
  refine a_iconst eX4_readStop_8 ?_
  refine a_icmp_ne 16 eX4_readStop_9 (by decide) (by omega) (fun hT9 => ?_) (fun hF9 => ?_)
  · skip
    refine a_iconst eX4_readStop_16 ?_
    refine a_zret eX4_readStop_17 rfl (by first | exact Or.inl rfl | exact Or.inr rfl | omega) rfl ⟨Nat.zero_le _, Nat.zero_le _⟩ ?_
    first | exact h1 σ1 f1 hC1 (by omega) | exact h0 σ1 f1 hC1 (by omega)
  · skip
    refine a_iconst eX4_readStop_12 ?_
    refine a_goto 17 eX4_readStop_13 (by decide) ?_
    refine a_zret eX4_readStop_17 rfl (by first | exact Or.inl rfl | exact Or.inr rfl | omega) rfl ⟨Nat.zero_le _, Nat.zero_le _⟩ ?_
    first | exact h1 σ1 f1 hC1 (by omega) | exact h0 σ1 f1 hC1 (by omega)

set_option maxHeartbeats 4000000 in
set_option maxRecDepth 100000 in
theorem lp_iw {l : Launch} {σ : aw_S} {Post : Option Value → aw_S → Prop} {tw cs : Bool} (hR : σ.2.2 = RF tw cs) {B : Int → Int} {nn : Int} (hT : txC σ B nn) (wT : wfTx B nn) {i : Nat} {q : Int} (hi : i < 5) (hq : 0 ≤ q ∧ q ≤ nn) (hC : tkC σ B nn q) (h1 : isw B nn i q → Post (some (.int (jI 1))) σ) (h0 : ¬ isw B nn i q → Post (some (.int (jI 0))) σ) (hk1 : tkd B nn q = 1) (hln : te B nn q - ts B nn q = (slen i : Int))  : ∀ (n : Nat) (k : Nat), (slen i - k ≤ n) → (k ≤ slen i) → (∀ j : Nat, j < k → B (ts B nn q + (j : Int)) = sch i j) → AW l yX4_isWord cX4_isWord 3 (some .boolean) 5 106 0 0 SH Post SH 0 0 (σ) 28 [some (.ref 1), some (.ref (1000000 + i)), some (.int (jI (k : Int)))] [] := by
  intro n
  induction n with
  | zero =>
    intro k hm hkb hall
    obtain ⟨t1, t2⟩ := id hT
    obtain ⟨u1, u2⟩ := id wT
    obtain ⟨k1, k2, k3⟩ := id hC
    have b0 := tok_b (B := B) hq
    have hsl := slen_b i hi
    have hby : k < slen i → σ.1 2 (ts B nn q + (k : Int)) = B (ts B nn q + (k : Int)) ∧ (-128 ≤ B (ts B nn q + (k : Int)) ∧ B (ts B nn q + (k : Int)) ≤ 127) ∧ (97 ≤ sch i k ∧ sch i k ≤ 122) := fun h => ⟨t2 _ (by omega) (by omega), u2 _ (by omega) (by omega), (sch_b i hi k h).1⟩
    refine a_ild2 eX4_isWord_28 ?_
    refine a_ald1 eX4_isWord_29 ?_
    refine a_cT0 hi eX4_isWord_30 lk_X4_174 mV_J0_length_8abf5 rfl mt_J0_length_8abf5 rfl rfl rfl rfl (c_J0_length_8abf5 hi ?_)
    dsimp only [Option.toList, List.cons_append, List.nil_append]
    refine a_icmp_ge 63 eX4_isWord_33 (by decide) (by omega) (fun hT33 => ?_) (fun hF33 => ?_)
    · skip
      refine a_iconst eX4_isWord_63 ?_
      refine a_zret eX4_isWord_64 rfl (by first | exact Or.inl rfl | exact Or.inr rfl | omega) rfl ⟨Nat.zero_le _, Nat.zero_le _⟩ ?_
      exact h1 ⟨hk1, hln, fun j hj => hall j (by omega)⟩
    · skip
      exfalso; omega
  | succ n ih =>
    intro k hm hkb hall
    obtain ⟨t1, t2⟩ := id hT
    obtain ⟨u1, u2⟩ := id wT
    obtain ⟨k1, k2, k3⟩ := id hC
    have b0 := tok_b (B := B) hq
    have hsl := slen_b i hi
    have hby : k < slen i → σ.1 2 (ts B nn q + (k : Int)) = B (ts B nn q + (k : Int)) ∧ (-128 ≤ B (ts B nn q + (k : Int)) ∧ B (ts B nn q + (k : Int)) ≤ 127) ∧ (97 ≤ sch i k ∧ sch i k ≤ 122) := fun h => ⟨t2 _ (by omega) (by omega), u2 _ (by omega) (by omega), (sch_b i hi k h).1⟩
    refine a_ild2 eX4_isWord_28 ?_
    refine a_ald1 eX4_isWord_29 ?_
    refine a_cT0 hi eX4_isWord_30 lk_X4_174 mV_J0_length_8abf5 rfl mt_J0_length_8abf5 rfl rfl rfl rfl (c_J0_length_8abf5 hi ?_)
    dsimp only [Option.toList, List.cons_append, List.nil_append]
    refine a_icmp_ge 63 eX4_isWord_33 (by decide) (by omega) (fun hT33 => ?_) (fun hF33 => ?_)
    · skip
      refine a_iconst eX4_isWord_63 ?_
      refine a_zret eX4_isWord_64 rfl (by first | exact Or.inl rfl | exact Or.inr rfl | omega) rfl ⟨Nat.zero_le _, Nat.zero_le _⟩ ?_
      exact h1 ⟨hk1, hln, fun j hj => hall j (by omega)⟩
    · skip
      have hby := hby (by omega)
      refine a_ald0 eX4_isWord_36 ?_
      refine a_getR 0 2 eX4_isWord_37 fl_X4_9 rfl rfl sh_1 ((congrFun (congrFun hR _) _).trans rf_1_0) ?_
      refine a_ald0 eX4_isWord_40 ?_
      refine a_getI 9 eX4_isWord_41 fl_X4_62 rfl rfl sh_1 ?_
      refine a_eqtop (y0 := ts B nn q) (by exact k2) ?_
      refine a_ild2 eX4_isWord_44 ?_
      refine a_iadd eX4_isWord_45 ?_
      refine a_bald eX4_isWord_46 sh_2 rfl (by omega) ?_
      refine a_eqtop (y0 := B (ts B nn q + (k : Int))) (by exact hby.1) ?_
      refine a_ald1 eX4_isWord_47 ?_
      refine a_ild2 eX4_isWord_48 ?_
      refine a_cT1 hi eX4_isWord_49 lk_X4_178 mV_J0_charAt_5068e rfl mt_J0_charAt_5068e rfl rfl rfl rfl rfl (c_J0_charAt_5068e (j := k) hi (by omega) ?_)
      dsimp only [Option.toList, List.cons_append, List.nil_append]
      refine a_icmp_eq 57 eX4_isWord_52 (by decide) (by omega) (fun hT52 => ?_) (fun hF52 => ?_)
      · skip
        refine a_iinc2 eX4_isWord_57 (by decide) aw_n2r ?_
        refine a_goto 28 eX4_isWord_60 (by decide) ?_
        rw [show ((k : Nat) : Int) + 1 = ((k + 1 : Nat) : Int) by omega]
        refine ih (k + 1) (by omega) (by omega) (fun j hj => ?_)
        by_cases z : j = k
        · rw [z]; omega
        · exact hall j (by omega)
      · skip
        refine a_iconst eX4_isWord_55 ?_
        refine a_zret eX4_isWord_56 rfl (by first | exact Or.inl rfl | exact Or.inr rfl | omega) rfl ⟨Nat.zero_le _, Nat.zero_le _⟩ ?_
        exact h0 (fun z => by have := z.2.2 k (by omega); omega)

set_option maxHeartbeats 4000000 in
set_option maxRecDepth 100000 in
theorem c_X4_isWord {l : Launch} {σ : aw_S} {Post : Option Value → aw_S → Prop} {tw cs : Bool} (hR : σ.2.2 = RF tw cs) {B : Int → Int} {nn : Int} (hT : txC σ B nn) (wT : wfTx B nn) {i : Nat} {q : Int} (hi : i < 5) (hq : 0 ≤ q ∧ q ≤ nn) (hC : tkC σ B nn q) (h1 : isw B nn i q → Post (some (.int (jI 1))) σ) (h0 : ¬ isw B nn i q → Post (some (.int (jI 0))) σ)  : AE l yX4_isWord cX4_isWord 3 (some .boolean) 5 106 0 0 SH SH σ [.ref 1, .ref (1000000 + i)] Post := by
  show AW l yX4_isWord cX4_isWord 3 (some .boolean) 5 106 0 0 SH Post SH 0 0 σ 0 [some (.ref 1), some (.ref (1000000 + i)), none] []
  obtain ⟨t1, t2⟩ := id hT
  obtain ⟨u1, u2⟩ := id wT
  obtain ⟨k1, k2, k3⟩ := id hC
  have b0 := tok_b (B := B) hq
  have hsl := slen_b i hi
  refine a_ald0 eX4_isWord_0 ?_
  refine a_getI 10 eX4_isWord_1 fl_X4_52 rfl rfl sh_1 ?_
  refine a_eqtop (y0 := tkd B nn q) (by exact k3) ?_
  refine a_iconst eX4_isWord_4 ?_
  refine a_icmp_ne 24 eX4_isWord_5 (by decide) (by omega) (fun hT5 => ?_) (fun hF5 => ?_)
  · skip
    refine a_iconst eX4_isWord_24 ?_
    refine a_zret eX4_isWord_25 rfl (by first | exact Or.inl rfl | exact Or.inr rfl | omega) rfl ⟨Nat.zero_le _, Nat.zero_le _⟩ ?_
    exact h0 (fun z => by have := z.1; omega)
  · skip
    refine a_ald0 eX4_isWord_8 ?_
    refine a_getI 8 eX4_isWord_9 fl_X4_46 rfl rfl sh_1 ?_
    refine a_eqtop (y0 := te B nn q) (by exact k1) ?_
    refine a_ald0 eX4_isWord_12 ?_
    refine a_getI 9 eX4_isWord_13 fl_X4_62 rfl rfl sh_1 ?_
    refine a_eqtop (y0 := ts B nn q) (by exact k2) ?_
    refine a_isub eX4_isWord_16 ?_
    refine a_ald1 eX4_isWord_17 ?_
    refine a_cT0 hi eX4_isWord_18 lk_X4_174 mV_J0_length_8abf5 rfl mt_J0_length_8abf5 rfl rfl rfl rfl (c_J0_length_8abf5 hi ?_)
    dsimp only [Option.toList, List.cons_append, List.nil_append]
    refine a_icmp_eq 26 eX4_isWord_21 (by decide) (by omega) (fun hT21 => ?_) (fun hF21 => ?_)
    · skip
      refine a_iconst eX4_isWord_26 ?_
      refine a_ist2 eX4_isWord_27 (by decide) aw_n2r ?_
      exact lp_iw hR hT wT hi hq hC h1 h0 (by omega) (by omega) _ 0 (Nat.le_refl _) (by omega) (fun j hj => absurd hj (Nat.not_lt_zero j))
    · skip
      refine a_iconst eX4_isWord_24 ?_
      refine a_zret eX4_isWord_25 rfl (by first | exact Or.inl rfl | exact Or.inr rfl | omega) rfl ⟨Nat.zero_le _, Nat.zero_le _⟩ ?_
      exact h0 (fun z => by have := z.2.1; omega)

set_option maxHeartbeats 4000000 in
set_option maxRecDepth 100000 in
theorem c_X4_isName {l : Launch} {σ : aw_S} {Post : Option Value → aw_S → Prop} {tw cs : Bool} (hR : σ.2.2 = RF tw cs) {B : Int → Int} {nn : Int} (hT : txC σ B nn) (wT : wfTx B nn) {q : Int} (hq : 0 ≤ q ∧ q ≤ nn) (hC : tkC σ B nn q) (h1 : isnm B nn q → Post (some (.int (jI 1))) σ) (h0 : ¬ isnm B nn q → Post (some (.int (jI 0))) σ)  : AE l yX4_isName cX4_isName 1 (some .boolean) 6 128 0 0 SH SH σ [.ref 1] Post := by
  show AW l yX4_isName cX4_isName 1 (some .boolean) 6 128 0 0 SH Post SH 0 0 σ 0 [some (.ref 1)] []
  obtain ⟨k1, k2, k3⟩ := id hC
  have b0 := tok_b (B := B) hq
  have u1 := wT.1
  refine a_ald0 eX4_isName_0 ?_
  refine a_getI 10 eX4_isName_1 fl_X4_52 rfl rfl sh_1 ?_
  refine a_eqtop (y0 := tkd B nn q) (by exact k3) ?_
  refine a_iconst eX4_isName_4 ?_
  refine a_icmp_ne 71 eX4_isName_5 (by decide) (by omega) (fun hT5 => ?_) (fun hF5 => ?_)
  · skip
    refine a_iconst eX4_isName_71 ?_
    refine a_zret eX4_isName_72 rfl (by first | exact Or.inl rfl | exact Or.inr rfl | omega) rfl ⟨Nat.zero_le _, Nat.zero_le _⟩ ?_
    first
      | exact h0 (fun z => z.2 0 (by decide) hT25)
      | exact h0 (fun z => z.2 1 (by decide) hT34)
      | exact h0 (fun z => z.2 2 (by decide) hT43)
      | exact h0 (fun z => z.2 3 (by decide) hT52)
      | exact h0 (fun z => z.2 4 (by decide) hT61)
      | exact h0 (fun z => by have := z.1; omega)
  · skip
    refine a_ald0 eX4_isName_8 ?_
    refine a_getI 8 eX4_isName_9 fl_X4_46 rfl rfl sh_1 ?_
    refine a_eqtop (y0 := te B nn q) (by exact k1) ?_
    refine a_ald0 eX4_isName_12 ?_
    refine a_getI 9 eX4_isName_13 fl_X4_62 rfl rfl sh_1 ?_
    refine a_eqtop (y0 := ts B nn q) (by exact k2) ?_
    refine a_isub eX4_isName_16 ?_
    refine a_bipush eX4_isName_17 (by decide) ?_
    refine a_icmp_gt 71 eX4_isName_19 (by decide) (by omega) (fun hT19 => ?_) (fun hF19 => ?_)
    · skip
      refine a_iconst eX4_isName_71 ?_
      refine a_zret eX4_isName_72 rfl (by first | exact Or.inl rfl | exact Or.inr rfl | omega) rfl ⟨Nat.zero_le _, Nat.zero_le _⟩ ?_
      first
        | exact h0 (fun z => z.2 0 (by decide) hT25)
        | exact h0 (fun z => z.2 1 (by decide) hT34)
        | exact h0 (fun z => z.2 2 (by decide) hT43)
        | exact h0 (fun z => z.2 3 (by decide) hT52)
        | exact h0 (fun z => z.2 4 (by decide) hT61)
        | exact h0 (fun z => by have := z.1; omega)
    · skip
      refine a_ald0 eX4_isName_22 ?_
      refine a_ldcS (i := 0) (tx := "rank") eX4_isName_23 (List.mem_of_getElem? (i := 0) rfl) ?_
      refine a_cV1 eX4_isName_25 lk_X4_71 mV_X4_isWord sh_1 ⟨_, rfl, rfl⟩ mt_X4_isWord rfl rfl rfl rfl rfl (c_X4_isWord (i := 0) hR hT wT (by decide) hq hC (fun hT25 => ?_) (fun hF25 => ?_))
      · skip
        dsimp only [Option.toList, List.cons_append, List.nil_append]
        refine a_if_ne 71 eX4_isName_28 (by decide) (by omega) (fun _ => ?_) (fun h => absurd h (by decide))
        refine a_iconst eX4_isName_71 ?_
        refine a_zret eX4_isName_72 rfl (by first | exact Or.inl rfl | exact Or.inr rfl | omega) rfl ⟨Nat.zero_le _, Nat.zero_le _⟩ ?_
        first
          | exact h0 (fun z => z.2 0 (by decide) hT25)
          | exact h0 (fun z => z.2 1 (by decide) hT34)
          | exact h0 (fun z => z.2 2 (by decide) hT43)
          | exact h0 (fun z => z.2 3 (by decide) hT52)
          | exact h0 (fun z => z.2 4 (by decide) hT61)
          | exact h0 (fun z => by have := z.1; omega)
      · skip
        dsimp only [Option.toList, List.cons_append, List.nil_append]
        refine a_if_ne 71 eX4_isName_28 (by decide) (by omega) (fun h => absurd h (by decide)) (fun _ => ?_)
        refine a_ald0 eX4_isName_31 ?_
        refine a_ldcS (i := 1) (tx := "let") eX4_isName_32 (List.mem_of_getElem? (i := 1) rfl) ?_
        refine a_cV1 eX4_isName_34 lk_X4_71 mV_X4_isWord sh_1 ⟨_, rfl, rfl⟩ mt_X4_isWord rfl rfl rfl rfl rfl (c_X4_isWord (i := 1) hR hT wT (by decide) hq hC (fun hT34 => ?_) (fun hF34 => ?_))
        · skip
          dsimp only [Option.toList, List.cons_append, List.nil_append]
          refine a_if_ne 71 eX4_isName_37 (by decide) (by omega) (fun _ => ?_) (fun h => absurd h (by decide))
          refine a_iconst eX4_isName_71 ?_
          refine a_zret eX4_isName_72 rfl (by first | exact Or.inl rfl | exact Or.inr rfl | omega) rfl ⟨Nat.zero_le _, Nat.zero_le _⟩ ?_
          first
            | exact h0 (fun z => z.2 0 (by decide) hT25)
            | exact h0 (fun z => z.2 1 (by decide) hT34)
            | exact h0 (fun z => z.2 2 (by decide) hT43)
            | exact h0 (fun z => z.2 3 (by decide) hT52)
            | exact h0 (fun z => z.2 4 (by decide) hT61)
            | exact h0 (fun z => by have := z.1; omega)
        · skip
          dsimp only [Option.toList, List.cons_append, List.nil_append]
          refine a_if_ne 71 eX4_isName_37 (by decide) (by omega) (fun h => absurd h (by decide)) (fun _ => ?_)
          refine a_ald0 eX4_isName_40 ?_
          refine a_ldcS (i := 2) (tx := "fare") eX4_isName_41 (List.mem_of_getElem? (i := 2) rfl) ?_
          refine a_cV1 eX4_isName_43 lk_X4_71 mV_X4_isWord sh_1 ⟨_, rfl, rfl⟩ mt_X4_isWord rfl rfl rfl rfl rfl (c_X4_isWord (i := 2) hR hT wT (by decide) hq hC (fun hT43 => ?_) (fun hF43 => ?_))
          · skip
            dsimp only [Option.toList, List.cons_append, List.nil_append]
            refine a_if_ne 71 eX4_isName_46 (by decide) (by omega) (fun _ => ?_) (fun h => absurd h (by decide))
            refine a_iconst eX4_isName_71 ?_
            refine a_zret eX4_isName_72 rfl (by first | exact Or.inl rfl | exact Or.inr rfl | omega) rfl ⟨Nat.zero_le _, Nat.zero_le _⟩ ?_
            first
              | exact h0 (fun z => z.2 0 (by decide) hT25)
              | exact h0 (fun z => z.2 1 (by decide) hT34)
              | exact h0 (fun z => z.2 2 (by decide) hT43)
              | exact h0 (fun z => z.2 3 (by decide) hT52)
              | exact h0 (fun z => z.2 4 (by decide) hT61)
              | exact h0 (fun z => by have := z.1; omega)
          · skip
            dsimp only [Option.toList, List.cons_append, List.nil_append]
            refine a_if_ne 71 eX4_isName_46 (by decide) (by omega) (fun h => absurd h (by decide)) (fun _ => ?_)
            refine a_ald0 eX4_isName_49 ?_
            refine a_ldcS (i := 3) (tx := "short") eX4_isName_50 (List.mem_of_getElem? (i := 3) rfl) ?_
            refine a_cV1 eX4_isName_52 lk_X4_71 mV_X4_isWord sh_1 ⟨_, rfl, rfl⟩ mt_X4_isWord rfl rfl rfl rfl rfl (c_X4_isWord (i := 3) hR hT wT (by decide) hq hC (fun hT52 => ?_) (fun hF52 => ?_))
            · skip
              dsimp only [Option.toList, List.cons_append, List.nil_append]
              refine a_if_ne 71 eX4_isName_55 (by decide) (by omega) (fun _ => ?_) (fun h => absurd h (by decide))
              refine a_iconst eX4_isName_71 ?_
              refine a_zret eX4_isName_72 rfl (by first | exact Or.inl rfl | exact Or.inr rfl | omega) rfl ⟨Nat.zero_le _, Nat.zero_le _⟩ ?_
              first
                | exact h0 (fun z => z.2 0 (by decide) hT25)
                | exact h0 (fun z => z.2 1 (by decide) hT34)
                | exact h0 (fun z => z.2 2 (by decide) hT43)
                | exact h0 (fun z => z.2 3 (by decide) hT52)
                | exact h0 (fun z => z.2 4 (by decide) hT61)
                | exact h0 (fun z => by have := z.1; omega)
            · skip
              dsimp only [Option.toList, List.cons_append, List.nil_append]
              refine a_if_ne 71 eX4_isName_55 (by decide) (by omega) (fun h => absurd h (by decide)) (fun _ => ?_)
              refine a_ald0 eX4_isName_58 ?_
              refine a_ldcS (i := 4) (tx := "coin") eX4_isName_59 (List.mem_of_getElem? (i := 4) rfl) ?_
              refine a_cV1 eX4_isName_61 lk_X4_71 mV_X4_isWord sh_1 ⟨_, rfl, rfl⟩ mt_X4_isWord rfl rfl rfl rfl rfl (c_X4_isWord (i := 4) hR hT wT (by decide) hq hC (fun hT61 => ?_) (fun hF61 => ?_))
              · skip
                dsimp only [Option.toList, List.cons_append, List.nil_append]
                refine a_if_ne 71 eX4_isName_64 (by decide) (by omega) (fun _ => ?_) (fun h => absurd h (by decide))
                refine a_iconst eX4_isName_71 ?_
                refine a_zret eX4_isName_72 rfl (by first | exact Or.inl rfl | exact Or.inr rfl | omega) rfl ⟨Nat.zero_le _, Nat.zero_le _⟩ ?_
                first
                  | exact h0 (fun z => z.2 0 (by decide) hT25)
                  | exact h0 (fun z => z.2 1 (by decide) hT34)
                  | exact h0 (fun z => z.2 2 (by decide) hT43)
                  | exact h0 (fun z => z.2 3 (by decide) hT52)
                  | exact h0 (fun z => z.2 4 (by decide) hT61)
                  | exact h0 (fun z => by have := z.1; omega)
              · skip
                dsimp only [Option.toList, List.cons_append, List.nil_append]
                refine a_if_ne 71 eX4_isName_64 (by decide) (by omega) (fun h => absurd h (by decide)) (fun _ => ?_)
                refine a_iconst eX4_isName_67 ?_
                refine a_goto 72 eX4_isName_68 (by decide) ?_
                refine a_zret eX4_isName_72 rfl (by first | exact Or.inl rfl | exact Or.inr rfl | omega) rfl ⟨Nat.zero_le _, Nat.zero_le _⟩ ?_
                refine h1 ⟨⟨by omega, by omega⟩, fun i hi => ?_⟩
                rcases (show i = 0 ∨ i = 1 ∨ i = 2 ∨ i = 3 ∨ i = 4 by omega) with rfl | rfl | rfl | rfl | rfl
                · exact hF25
                · exact hF34
                · exact hF43
                · exact hF52
                · exact hF61

set_option maxHeartbeats 4000000 in
set_option maxRecDepth 100000 in
theorem lp_sa {l : Launch} {σ : aw_S} {Post : Option Value → aw_S → Prop} {tw cs : Bool} (hR : σ.2.2 = RF tw cs) {B : Int → Int} {nn : Int} (hT : txC σ B nn) (wT : wfTx B nn) {q o1 : Int} (hq : 0 ≤ q ∧ q ≤ nn) (ho : 0 ≤ o1 ∧ o1 + (te B nn q - ts B nn q) ≤ nn) (hC : tkC σ B nn q) (h1 : (∀ j : Int, 0 ≤ j → j < te B nn q - ts B nn q → B (ts B nn q + j) = B (o1 + j)) → Post (some (.int (jI 1))) σ) (h0 : ¬ (∀ j : Int, 0 ≤ j → j < te B nn q - ts B nn q → B (ts B nn q + j) = B (o1 + j)) → Post (some (.int (jI 0))) σ)  : ∀ (n : Nat) (k : Int), ((te B nn q - k).toNat ≤ n) → (ts B nn q ≤ k ∧ k ≤ te B nn q) → (∀ j : Int, 0 ≤ j → j < k - ts B nn q → B (ts B nn q + j) = B (o1 + j)) → AW l yX4_isSameAsAt cX4_isSameAsAt 3 (some .boolean) 0 0 0 0 SH Post SH 0 0 (σ) 5 [some (.ref 1), some (.int (jI o1)), some (.int (jI k))] [] := by
  intro n
  induction n with
  | zero =>
    intro k hm hkb hall
    obtain ⟨t1, t2⟩ := id hT
    obtain ⟨u1, u2⟩ := id wT
    obtain ⟨k1, k2, k3⟩ := id hC
    have b0 := tok_b (B := B) hq
    have hby : k < te B nn q → (σ.1 2 k = B k ∧ (-128 ≤ B k ∧ B k ≤ 127)) ∧ (σ.1 2 (o1 + k - ts B nn q) = B (o1 + k - ts B nn q) ∧ (-128 ≤ B (o1 + k - ts B nn q) ∧ B (o1 + k - ts B nn q) ≤ 127)) := fun h => ⟨⟨t2 _ (by omega) (by omega), u2 _ (by omega) (by omega)⟩, t2 _ (by omega) (by omega), u2 _ (by omega) (by omega)⟩
    refine a_ild2 eX4_isSameAsAt_5 ?_
    refine a_ald0 eX4_isSameAsAt_6 ?_
    refine a_getI 8 eX4_isSameAsAt_7 fl_X4_46 rfl rfl sh_1 ?_
    refine a_eqtop (y0 := te B nn q) (by exact k1) ?_
    refine a_icmp_ge 43 eX4_isSameAsAt_10 (by decide) (by omega) (fun hT10 => ?_) (fun hF10 => ?_)
    · skip
      refine a_iconst eX4_isSameAsAt_43 ?_
      refine a_zret eX4_isSameAsAt_44 rfl (by first | exact Or.inl rfl | exact Or.inr rfl | omega) rfl ⟨Nat.zero_le _, Nat.zero_le _⟩ ?_
      exact h1 (fun j j1 j2 => hall j j1 (by omega))
    · skip
      exfalso; omega
  | succ n ih =>
    intro k hm hkb hall
    obtain ⟨t1, t2⟩ := id hT
    obtain ⟨u1, u2⟩ := id wT
    obtain ⟨k1, k2, k3⟩ := id hC
    have b0 := tok_b (B := B) hq
    have hby : k < te B nn q → (σ.1 2 k = B k ∧ (-128 ≤ B k ∧ B k ≤ 127)) ∧ (σ.1 2 (o1 + k - ts B nn q) = B (o1 + k - ts B nn q) ∧ (-128 ≤ B (o1 + k - ts B nn q) ∧ B (o1 + k - ts B nn q) ≤ 127)) := fun h => ⟨⟨t2 _ (by omega) (by omega), u2 _ (by omega) (by omega)⟩, t2 _ (by omega) (by omega), u2 _ (by omega) (by omega)⟩
    refine a_ild2 eX4_isSameAsAt_5 ?_
    refine a_ald0 eX4_isSameAsAt_6 ?_
    refine a_getI 8 eX4_isSameAsAt_7 fl_X4_46 rfl rfl sh_1 ?_
    refine a_eqtop (y0 := te B nn q) (by exact k1) ?_
    refine a_icmp_ge 43 eX4_isSameAsAt_10 (by decide) (by omega) (fun hT10 => ?_) (fun hF10 => ?_)
    · skip
      refine a_iconst eX4_isSameAsAt_43 ?_
      refine a_zret eX4_isSameAsAt_44 rfl (by first | exact Or.inl rfl | exact Or.inr rfl | omega) rfl ⟨Nat.zero_le _, Nat.zero_le _⟩ ?_
      exact h1 (fun j j1 j2 => hall j j1 (by omega))
    · skip
      have hby := hby (by omega)
      refine a_ald0 eX4_isSameAsAt_13 ?_
      refine a_getR 0 2 eX4_isSameAsAt_14 fl_X4_9 rfl rfl sh_1 ((congrFun (congrFun hR _) _).trans rf_1_0) ?_
      refine a_ild2 eX4_isSameAsAt_17 ?_
      refine a_bald eX4_isSameAsAt_18 sh_2 rfl (by omega) ?_
      refine a_eqtop (y0 := B k) (by exact hby.1.1) ?_
      refine a_ald0 eX4_isSameAsAt_19 ?_
      refine a_getR 0 2 eX4_isSameAsAt_20 fl_X4_9 rfl rfl sh_1 ((congrFun (congrFun hR _) _).trans rf_1_0) ?_
      refine a_ild1 eX4_isSameAsAt_23 ?_
      refine a_ild2 eX4_isSameAsAt_24 ?_
      refine a_iadd eX4_isSameAsAt_25 ?_
      refine a_ald0 eX4_isSameAsAt_26 ?_
      refine a_getI 9 eX4_isSameAsAt_27 fl_X4_62 rfl rfl sh_1 ?_
      refine a_eqtop (y0 := ts B nn q) (by exact k2) ?_
      refine a_isub eX4_isSameAsAt_30 ?_
      refine a_bald eX4_isSameAsAt_31 sh_2 rfl (by omega) ?_
      refine a_eqtop (y0 := B (o1 + k - ts B nn q)) (by exact hby.2.1) ?_
      refine a_icmp_eq 37 eX4_isSameAsAt_32 (by decide) (by omega) (fun hT32 => ?_) (fun hF32 => ?_)
      · skip
        refine a_iinc2 eX4_isSameAsAt_37 (by decide) aw_n2i ?_
        refine a_goto 5 eX4_isSameAsAt_40 (by decide) ?_
        refine ih (k + 1) (by omega) (by omega) (fun j j1 j2 => ?_)
        by_cases z : j = k - ts B nn q
        · rw [z, show ts B nn q + (k - ts B nn q) = k by omega, show o1 + (k - ts B nn q) = o1 + k - ts B nn q by omega]; omega
        · exact hall j j1 (by omega)
      · skip
        refine a_iconst eX4_isSameAsAt_35 ?_
        refine a_zret eX4_isSameAsAt_36 rfl (by first | exact Or.inl rfl | exact Or.inr rfl | omega) rfl ⟨Nat.zero_le _, Nat.zero_le _⟩ ?_
        refine h0 (fun z => ?_)
        have := z (k - ts B nn q) (by omega) (by omega)
        rw [show ts B nn q + (k - ts B nn q) = k by omega, show o1 + (k - ts B nn q) = o1 + k - ts B nn q by omega] at this
        omega

set_option maxHeartbeats 4000000 in
set_option maxRecDepth 100000 in
theorem c_X4_isSameAsAt {l : Launch} {σ : aw_S} {Post : Option Value → aw_S → Prop} {tw cs : Bool} (hR : σ.2.2 = RF tw cs) {B : Int → Int} {nn : Int} (hT : txC σ B nn) (wT : wfTx B nn) {q o1 : Int} (hq : 0 ≤ q ∧ q ≤ nn) (ho : 0 ≤ o1 ∧ o1 + (te B nn q - ts B nn q) ≤ nn) (hC : tkC σ B nn q) (h1 : (∀ j : Int, 0 ≤ j → j < te B nn q - ts B nn q → B (ts B nn q + j) = B (o1 + j)) → Post (some (.int (jI 1))) σ) (h0 : ¬ (∀ j : Int, 0 ≤ j → j < te B nn q - ts B nn q → B (ts B nn q + j) = B (o1 + j)) → Post (some (.int (jI 0))) σ)  : AE l yX4_isSameAsAt cX4_isSameAsAt 3 (some .boolean) 0 0 0 0 SH SH σ [.ref 1, .int (jI o1)] Post := by
  show AW l yX4_isSameAsAt cX4_isSameAsAt 3 (some .boolean) 0 0 0 0 SH Post SH 0 0 σ 0 [some (.ref 1), some (.int (jI o1)), none] []
  obtain ⟨t1, t2⟩ := id hT
  obtain ⟨u1, u2⟩ := id wT
  obtain ⟨k1, k2, k3⟩ := id hC
  have b0 := tok_b (B := B) hq
  refine a_ald0 eX4_isSameAsAt_0 ?_
  refine a_getI 9 eX4_isSameAsAt_1 fl_X4_62 rfl rfl sh_1 ?_
  refine a_eqtop (y0 := ts B nn q) (by exact k2) ?_
  refine a_ist2 eX4_isSameAsAt_4 (by decide) aw_n2i ?_
  exact lp_sa hR hT wT hq ho hC h1 h0 _ (ts B nn q) (Nat.le_refl _) (by omega) (fun j j1 j2 => by omega)

/-- the class holds the draft, at name a -/
def drC (σ : aw_S) (a : Nat) (d : mS) : Prop :=
  (σ.1 a 0 = d 0 0 ∧ (∀ r : Int, 0 ≤ r → r < d 0 0 → σ.1 (a + 1) r = d 1 r ∧ σ.1 (a + 2) r = d 2 r ∧ σ.1 (a + 3) r = d 3 r)) ∧
  (σ.1 a 4 = d 0 1 ∧ (∀ k : Int, 0 ≤ k → k < d 0 1 → σ.1 (a + 5) k = d 5 k ∧ σ.1 (a + 6) k = d 6 k ∧ σ.1 (a + 7) k = d 7 k)) ∧
  (∀ r : Int, 0 ≤ r → r < 6 → (0 ≤ σ.1 (a + 4) r ∧ σ.1 (a + 4) r ≤ 255) ∧ aw_bx (∀ k : Nat, (σ.1 (a + 4) r).toNat.testBit k = true ↔ ((k : Int) < d 0 1 ∧ d 4 (k : Int) = r))) ∧
  (d 0 10 = 1 → σ.1 a 9 = d 8 0 ∧ σ.1 a 10 = d 8 1 ∧ σ.1 a 11 = d 8 2 ∧ σ.1 a 12 = d 8 3) ∧ (σ.1 a 13 = d 9 0 ∧ σ.1 a 14 = d 9 1) ∧ σ.1 a 15 = d 0 2 ∧
  (σ.1 1 5 = d 0 10 ∧ σ.1 1 6 = d 0 11 ∧ σ.1 1 7 = d 0 12) ∧ (∀ r : Int, 0 ≤ r → r < d 0 0 → σ.1 11 r = d 20 r ∧ σ.1 12 r = d 21 r)
set_option maxHeartbeats 4000000 in
set_option maxRecDepth 100000 in
theorem lp_rkn {l : Launch} {σ : aw_S} {Post : Option Value → aw_S → Prop} {tw cs : Bool} (hR : σ.2.2 = RF tw cs) {a : Nat} (ha : isCity a) (hrd : RF tw cs 1 2 = some a) {B : Int → Int} {nn : Int} (hT : txC σ B nn) (wT : wfTx B nn) {d : mS} {q : Int} (hG : drC σ a d) (wG : wfDr B nn d) (hq : 0 ≤ q ∧ q ≤ nn) (hC : tkC σ B nn q) (hk : Post (some (.int (jI (rnk B nn d q)))) σ)  : ∀ (n : Nat) (r : Int), ((d 0 0 - r).toNat ≤ n) → (0 ≤ r ∧ r ≤ d 0 0) → (∀ s : Int, 0 ≤ s → s < r → ¬ isnmd B nn d q s) → AW l yX4_rankNamed cX4_rankNamed 2 (some .int) 1 22 0 0 SH Post SH 0 0 (σ) 2 [some (.ref 1), some (.int (jI r))] [] := by
  intro n
  induction n with
  | zero =>
    intro r hm hr hno
    obtain ⟨⟨g1, g2⟩, ⟨g3, g4⟩, g5, g6, g7, g8, g9, g10⟩ := id hG
    obtain ⟨w1, w2, w3, w4, w5, w6, w7, w8, w9, w10, w11⟩ := id wG
    have ha2 : a ≤ 13 := by rcases ha with rfl | rfl <;> omega
    have ha3 : 3 ≤ a := by rcases ha with rfl | rfl <;> omega
    obtain ⟨k1, k2, k3⟩ := id hC
    have u1 := wT.1
    have b0 := tok_b (B := B) hq
    have hnr : r < d 0 0 → (σ.1 11 r = d 20 r ∧ σ.1 12 r = d 21 r) ∧ ((0 ≤ d 20 r ∧ d 20 r + d 21 r ≤ nn) ∧ (1 ≤ d 21 r ∧ d 21 r ≤ 8)) := fun h => ⟨g10 r (by omega) h, (w11 r (by omega) h).1⟩
    refine a_ild1 eX4_rankNamed_2 ?_
    refine a_ald0 eX4_rankNamed_3 ?_
    refine a_getR 2 a eX4_rankNamed_4 fl_X4_18 rfl rfl sh_1 ((congrFun (congrFun hR _) _).trans hrd) ?_
    refine a_getI 0 eX4_rankNamed_7 fl_X4_55 rfl rfl (sh_city ha) ?_
    refine a_eqtop (y0 := d 0 0) (by exact g1) ?_
    refine a_icmp_ge 52 eX4_rankNamed_10 (by decide) (by omega) (fun hT10 => ?_) (fun hF10 => ?_)
    · skip
      refine a_iconst eX4_rankNamed_52 ?_
      refine a_iret eX4_rankNamed_53 rfl rfl ⟨Nat.zero_le _, Nat.zero_le _⟩ ?_
      rw [rnk_n (fun z => by obtain ⟨s, s1, s2⟩ := z; exact hno s s1.1 (by omega) s2)] at hk
      exact hk
    · skip
      exfalso; omega
  | succ n ih =>
    intro r hm hr hno
    obtain ⟨⟨g1, g2⟩, ⟨g3, g4⟩, g5, g6, g7, g8, g9, g10⟩ := id hG
    obtain ⟨w1, w2, w3, w4, w5, w6, w7, w8, w9, w10, w11⟩ := id wG
    have ha2 : a ≤ 13 := by rcases ha with rfl | rfl <;> omega
    have ha3 : 3 ≤ a := by rcases ha with rfl | rfl <;> omega
    obtain ⟨k1, k2, k3⟩ := id hC
    have u1 := wT.1
    have b0 := tok_b (B := B) hq
    have hnr : r < d 0 0 → (σ.1 11 r = d 20 r ∧ σ.1 12 r = d 21 r) ∧ ((0 ≤ d 20 r ∧ d 20 r + d 21 r ≤ nn) ∧ (1 ≤ d 21 r ∧ d 21 r ≤ 8)) := fun h => ⟨g10 r (by omega) h, (w11 r (by omega) h).1⟩
    refine a_ild1 eX4_rankNamed_2 ?_
    refine a_ald0 eX4_rankNamed_3 ?_
    refine a_getR 2 a eX4_rankNamed_4 fl_X4_18 rfl rfl sh_1 ((congrFun (congrFun hR _) _).trans hrd) ?_
    refine a_getI 0 eX4_rankNamed_7 fl_X4_55 rfl rfl (sh_city ha) ?_
    refine a_eqtop (y0 := d 0 0) (by exact g1) ?_
    refine a_icmp_ge 52 eX4_rankNamed_10 (by decide) (by omega) (fun hT10 => ?_) (fun hF10 => ?_)
    · skip
      refine a_iconst eX4_rankNamed_52 ?_
      refine a_iret eX4_rankNamed_53 rfl rfl ⟨Nat.zero_le _, Nat.zero_le _⟩ ?_
      rw [rnk_n (fun z => by obtain ⟨s, s1, s2⟩ := z; exact hno s s1.1 (by omega) s2)] at hk
      exact hk
    · skip
      have hnr := hnr (by omega)
      refine a_ald0 eX4_rankNamed_13 ?_
      refine a_getR 4 12 eX4_rankNamed_14 fl_X4_26 rfl rfl sh_1 ((congrFun (congrFun hR _) _).trans rf_1_4) ?_
      refine a_ild1 eX4_rankNamed_17 ?_
      refine a_iald eX4_rankNamed_18 sh_12 rfl (by omega) ?_
      refine a_eqtop (y0 := d 21 r) (by exact hnr.1.2) ?_
      refine a_ald0 eX4_rankNamed_19 ?_
      refine a_getI 8 eX4_rankNamed_20 fl_X4_46 rfl rfl sh_1 ?_
      refine a_eqtop (y0 := te B nn q) (by exact k1) ?_
      refine a_ald0 eX4_rankNamed_23 ?_
      refine a_getI 9 eX4_rankNamed_24 fl_X4_62 rfl rfl sh_1 ?_
      refine a_eqtop (y0 := ts B nn q) (by exact k2) ?_
      refine a_isub eX4_rankNamed_27 ?_
      refine a_icmp_ne 46 eX4_rankNamed_28 (by decide) (by omega) (fun hT28 => ?_) (fun hF28 => ?_)
      · skip
        refine a_iinc1 eX4_rankNamed_46 (by decide) aw_n2r ?_
        refine a_goto 2 eX4_rankNamed_49 (by decide) ?_
        refine ih (r + 1) (by omega) (by omega) (fun s s1 s2 => ?_)
        by_cases z : s = r
        · rw [z]
          exact fun w => by have := w.1; omega
        · exact hno s s1 (by omega)
      · skip
        refine a_ald0 eX4_rankNamed_31 ?_
        refine a_ald0 eX4_rankNamed_32 ?_
        refine a_getR 3 11 eX4_rankNamed_33 fl_X4_22 rfl rfl sh_1 ((congrFun (congrFun hR _) _).trans rf_1_3) ?_
        refine a_ild1 eX4_rankNamed_36 ?_
        refine a_iald eX4_rankNamed_37 sh_11 rfl (by omega) ?_
        refine a_eqtop (y0 := d 20 r) (by exact hnr.1.1) ?_
        refine a_cV1 eX4_rankNamed_38 lk_X4_182 mV_X4_isSameAsAt sh_1 ⟨_, rfl, rfl⟩ mt_X4_isSameAsAt rfl rfl rfl rfl rfl (c_X4_isSameAsAt hR hT wT hq (by omega) hC (fun hT38 => ?_) (fun hF38 => ?_))
        · skip
          dsimp only [Option.toList, List.cons_append, List.nil_append]
          refine a_if_eq 46 eX4_rankNamed_41 (by decide) (by omega) (fun h => absurd h (by decide)) (fun _ => ?_)
          refine a_ild1 eX4_rankNamed_44 ?_
          refine a_iret eX4_rankNamed_45 rfl rfl ⟨Nat.zero_le _, Nat.zero_le _⟩ ?_
          rw [rnk_y (r := r) ⟨⟨by omega, ⟨by omega, fun j j1 j2 => hT38 j j1 (by omega)⟩⟩, hno⟩] at hk
          exact hk
        · skip
          dsimp only [Option.toList, List.cons_append, List.nil_append]
          refine a_if_eq 46 eX4_rankNamed_41 (by decide) (by omega) (fun _ => ?_) (fun h => absurd h (by decide))
          refine a_iinc1 eX4_rankNamed_46 (by decide) aw_n2r ?_
          refine a_goto 2 eX4_rankNamed_49 (by decide) ?_
          refine ih (r + 1) (by omega) (by omega) (fun s s1 s2 => ?_)
          by_cases z : s = r
          · rw [z]
            exact fun w => hF38 (fun j j1 j2 => w.2 j j1 (by omega))
          · exact hno s s1 (by omega)

set_option maxHeartbeats 4000000 in
set_option maxRecDepth 100000 in
theorem c_X4_rankNamed {l : Launch} {σ : aw_S} {Post : Option Value → aw_S → Prop} {tw cs : Bool} (hR : σ.2.2 = RF tw cs) {a : Nat} (ha : isCity a) (hrd : RF tw cs 1 2 = some a) {B : Int → Int} {nn : Int} (hT : txC σ B nn) (wT : wfTx B nn) {d : mS} {q : Int} (hG : drC σ a d) (wG : wfDr B nn d) (hq : 0 ≤ q ∧ q ≤ nn) (hC : tkC σ B nn q) (hk : Post (some (.int (jI (rnk B nn d q)))) σ)  : AE l yX4_rankNamed cX4_rankNamed 2 (some .int) 1 22 0 0 SH SH σ [.ref 1] Post := by
  show AW l yX4_rankNamed cX4_rankNamed 2 (some .int) 1 22 0 0 SH Post SH 0 0 σ 0 [some (.ref 1), none] []
  have w1 := wG.1
  refine a_iconst eX4_rankNamed_0 ?_
  refine a_ist1 eX4_rankNamed_1 (by decide) aw_n2r ?_
  exact lp_rkn hR ha hrd hT wT hG wG hq hC hk _ 0 (Nat.le_refl _) (by omega) (fun s s1 s2 => by omega)

set_option maxHeartbeats 4000000 in
set_option maxRecDepth 100000 in
theorem lp_plt {l : Launch} {σ : aw_S} {Post : Option Value → aw_S → Prop} {tw cs : Bool} (hR : σ.2.2 = RF tw cs) {a : Nat} (ha : isCity a) (hrd : RF tw cs 1 2 = some a) {B : Int → Int} {nn : Int} {d : mS} {v : Int} (hG : drC σ a d) (wG : wfDr B nn d) (hv : 0 ≤ v ∧ v ≤ 99) (h1 : ptold d v → Post (some (.int (jI 1))) σ) (h0 : ¬ ptold d v → Post (some (.int (jI 0))) σ)  : ∀ (n : Nat) (r : Int), ((d 0 0 - r).toNat ≤ n) → (0 ≤ r ∧ r ≤ d 0 0) → (∀ s : Int, 0 ≤ s → s < r → d 1 s ≠ v) → AW l yX4_placeTold cX4_placeTold 3 (some .boolean) 0 0 0 0 SH Post SH 0 0 (σ) 2 [some (.ref 1), some (.int (jI v)), some (.int (jI r))] [] := by
  intro n
  induction n with
  | zero =>
    intro r hm hr hno
    obtain ⟨⟨g1, g2⟩, ⟨g3, g4⟩, g5, g6, g7, g8, g9, g10⟩ := id hG
    obtain ⟨w1, w2, w3, w4, w5, w6, w7, w8, w9, w10, w11⟩ := id wG
    have ha2 : a ≤ 13 := by rcases ha with rfl | rfl <;> omega
    have ha3 : 3 ≤ a := by rcases ha with rfl | rfl <;> omega
    have hnr : r < d 0 0 → σ.1 (a + 1) r = d 1 r ∧ (0 ≤ d 1 r ∧ d 1 r ≤ 99) := fun h => ⟨(g2 r (by omega) h).1, (w2 r (by omega) h).1⟩
    refine a_ild2 eX4_placeTold_2 ?_
    refine a_ald0 eX4_placeTold_3 ?_
    refine a_getR 2 a eX4_placeTold_4 fl_X4_18 rfl rfl sh_1 ((congrFun (congrFun hR _) _).trans hrd) ?_
    refine a_getI 0 eX4_placeTold_7 fl_X4_55 rfl rfl (sh_city ha) ?_
    refine a_eqtop (y0 := d 0 0) (by exact g1) ?_
    refine a_icmp_ge 34 eX4_placeTold_10 (by decide) (by omega) (fun hT10 => ?_) (fun hF10 => ?_)
    · skip
      refine a_iconst eX4_placeTold_34 ?_
      refine a_zret eX4_placeTold_35 rfl (by first | exact Or.inl rfl | exact Or.inr rfl | omega) rfl ⟨Nat.zero_le _, Nat.zero_le _⟩ ?_
      exact h0 (fun z => by obtain ⟨s, s1, s2⟩ := z; exact hno s s1.1 (by omega) s2)
    · skip
      exfalso; omega
  | succ n ih =>
    intro r hm hr hno
    obtain ⟨⟨g1, g2⟩, ⟨g3, g4⟩, g5, g6, g7, g8, g9, g10⟩ := id hG
    obtain ⟨w1, w2, w3, w4, w5, w6, w7, w8, w9, w10, w11⟩ := id wG
    have ha2 : a ≤ 13 := by rcases ha with rfl | rfl <;> omega
    have ha3 : 3 ≤ a := by rcases ha with rfl | rfl <;> omega
    have hnr : r < d 0 0 → σ.1 (a + 1) r = d 1 r ∧ (0 ≤ d 1 r ∧ d 1 r ≤ 99) := fun h => ⟨(g2 r (by omega) h).1, (w2 r (by omega) h).1⟩
    refine a_ild2 eX4_placeTold_2 ?_
    refine a_ald0 eX4_placeTold_3 ?_
    refine a_getR 2 a eX4_placeTold_4 fl_X4_18 rfl rfl sh_1 ((congrFun (congrFun hR _) _).trans hrd) ?_
    refine a_getI 0 eX4_placeTold_7 fl_X4_55 rfl rfl (sh_city ha) ?_
    refine a_eqtop (y0 := d 0 0) (by exact g1) ?_
    refine a_icmp_ge 34 eX4_placeTold_10 (by decide) (by omega) (fun hT10 => ?_) (fun hF10 => ?_)
    · skip
      refine a_iconst eX4_placeTold_34 ?_
      refine a_zret eX4_placeTold_35 rfl (by first | exact Or.inl rfl | exact Or.inr rfl | omega) rfl ⟨Nat.zero_le _, Nat.zero_le _⟩ ?_
      exact h0 (fun z => by obtain ⟨s, s1, s2⟩ := z; exact hno s s1.1 (by omega) s2)
    · skip
      have hnr := hnr (by omega)
      refine a_ald0 eX4_placeTold_13 ?_
      refine a_getR 2 a eX4_placeTold_14 fl_X4_18 rfl rfl sh_1 ((congrFun (congrFun hR _) _).trans hrd) ?_
      refine a_getR 1 (a + 1) eX4_placeTold_17 fl_X4_116 rfl rfl (sh_city ha) ((congrFun (congrFun hR _) _).trans (rf_city_1 ha)) ?_
      refine a_ild2 eX4_placeTold_20 ?_
      refine a_iald eX4_placeTold_21 (sh_city_1 ha) rfl (by omega) ?_
      refine a_eqtop (y0 := d 1 r) (by exact hnr.1) ?_
      refine a_ild1 eX4_placeTold_22 ?_
      refine a_icmp_ne 28 eX4_placeTold_23 (by decide) (by omega) (fun hT23 => ?_) (fun hF23 => ?_)
      · skip
        refine a_iinc2 eX4_placeTold_28 (by decide) aw_n2i ?_
        refine a_goto 2 eX4_placeTold_31 (by decide) ?_
        refine ih (r + 1) (by omega) (by omega) (fun s s1 s2 => ?_)
        by_cases z : s = r
        · rw [z]; omega
        · exact hno s s1 (by omega)
      · skip
        refine a_iconst eX4_placeTold_26 ?_
        refine a_zret eX4_placeTold_27 rfl (by first | exact Or.inl rfl | exact Or.inr rfl | omega) rfl ⟨Nat.zero_le _, Nat.zero_le _⟩ ?_
        exact h1 ⟨r, by omega, by omega⟩

set_option maxHeartbeats 4000000 in
set_option maxRecDepth 100000 in
theorem c_X4_placeTold {l : Launch} {σ : aw_S} {Post : Option Value → aw_S → Prop} {tw cs : Bool} (hR : σ.2.2 = RF tw cs) {a : Nat} (ha : isCity a) (hrd : RF tw cs 1 2 = some a) {B : Int → Int} {nn : Int} {d : mS} {v : Int} (hG : drC σ a d) (wG : wfDr B nn d) (hv : 0 ≤ v ∧ v ≤ 99) (h1 : ptold d v → Post (some (.int (jI 1))) σ) (h0 : ¬ ptold d v → Post (some (.int (jI 0))) σ)  : AE l yX4_placeTold cX4_placeTold 3 (some .boolean) 0 0 0 0 SH SH σ [.ref 1, .int (jI v)] Post := by
  show AW l yX4_placeTold cX4_placeTold 3 (some .boolean) 0 0 0 0 SH Post SH 0 0 σ 0 [some (.ref 1), some (.int (jI v)), none] []
  have w1 := wG.1
  refine a_iconst eX4_placeTold_0 ?_
  refine a_ist2 eX4_placeTold_1 (by decide) aw_n2i ?_
  exact lp_plt hR ha hrd hG wG hv h1 h0 _ 0 (Nat.le_refl _) (by omega) (fun s s1 s2 => by omega)
