set_option maxHeartbeats 4000000 in
set_option maxRecDepth 100000 in
theorem lp_digs {l : Launch} {σ : aw_S} {Post : Option Value → aw_S → Prop} {D : Nat} {D0 : Int} (hk : Post (some (.int (jI (D : Int)))) σ)  : ∀ (n : Nat) (k : Nat) (y : Int), (y.toNat ≤ n) → (-2147483648 ≤ y ∧ y ≤ 2147483647) → (D = k + dcnt y.toNat) → AW l yX0_digitsIn cX0_digitsIn 3 (some .int) 0 0 0 0 SH Post SH 0 0 (σ) 4 [some (.int (jI D0)), some (.int (jI (k : Int))), some (.int (jI y))] [] := by
  intro n
  induction n with
  | zero =>
    intro k y hm hy hD
    refine a_ild2 eX0_digitsIn_4 ?_
    refine a_if_le 19 eX0_digitsIn_5 (by decide) (by omega) (fun hT5 => ?_) (fun hF5 => ?_)
    · skip
      refine a_ild1 eX0_digitsIn_19 ?_
      refine a_iret eX0_digitsIn_20 rfl rfl ⟨Nat.zero_le _, Nat.zero_le _⟩ ?_
      rw [show y.toNat = 0 by omega, dcnt_0] at hD
      rw [show k = D by omega]
      exact hk
    · skip
      exfalso; omega
  | succ n ih =>
    intro k y hm hy hD
    refine a_ild2 eX0_digitsIn_4 ?_
    refine a_if_le 19 eX0_digitsIn_5 (by decide) (by omega) (fun hT5 => ?_) (fun hF5 => ?_)
    · skip
      refine a_ild1 eX0_digitsIn_19 ?_
      refine a_iret eX0_digitsIn_20 rfl rfl ⟨Nat.zero_le _, Nat.zero_le _⟩ ?_
      rw [show y.toNat = 0 by omega, dcnt_0] at hD
      rw [show k = D by omega]
      exact hk
    · skip
      refine a_iinc1 eX0_digitsIn_8 (by decide) aw_n2i ?_
      refine a_ild2 eX0_digitsIn_11 ?_
      refine a_bipush eX0_digitsIn_12 (by decide) ?_
      refine a_idiv eX0_digitsIn_14 (by omega) (by omega) ?_
      refine a_ist2 eX0_digitsIn_15 (by decide) aw_n2i ?_
      refine a_goto 4 eX0_digitsIn_16 (by decide) ?_
      have e1 := dcnt_s (x := y.toNat) (by omega)
      have e2 : (y / 17).toNat = y.toNat / 17 := by omega
      have ih1 := ih (k + 1) (y / 17) (by omega) (by omega) (by rw [e2]; omega)
      rw [show (((k + 1 : Nat) : Nat) : Int) = (k : Int) + 1 by omega] at ih1
      exact ih1

set_option maxHeartbeats 4000000 in
set_option maxRecDepth 100000 in
theorem c_X0_digitsIn {l : Launch} {σ : aw_S} {Post : Option Value → aw_S → Prop} {x : Int} (hx : -2147483648 ≤ x ∧ x ≤ 2147483647) (hk : Post (some (.int (jI ((dcnt x.toNat : Nat) : Int)))) σ)  : AE l yX0_digitsIn cX0_digitsIn 3 (some .int) 0 0 0 0 SH SH σ [.int (jI x)] Post := by
  show AW l yX0_digitsIn cX0_digitsIn 3 (some .int) 0 0 0 0 SH Post SH 0 0 σ 0 [some (.int (jI x)), none, none] []
  refine a_iconst eX0_digitsIn_0 ?_
  refine a_ist1 eX0_digitsIn_1 (by decide) aw_n2i ?_
  refine a_ild0 eX0_digitsIn_2 ?_
  refine a_ist2 eX0_digitsIn_3 (by decide) aw_n2i ?_
  exact lp_digs hk _ 0 x (Nat.le_refl _) hx (by omega)

set_option maxHeartbeats 4000000 in
set_option maxRecDepth 100000 in
theorem lp_rdD {l : Launch} {σ : aw_S} {Post : Option Value → aw_S → Prop} {tw cs : Bool} (hR : σ.2.2 = RF tw cs) {n1 cabs x : Int} (hn : σ.1 64 0 = n1 ∧ 0 ≤ n1 ∧ n1 < 12) (hx : -2147483648 ≤ x ∧ x ≤ 2147483647) (hcb : 0 ≤ cabs ∧ cabs ≤ 16) (hk1 : 0 ≤ x → dcnt x.toNat ≤ 6 → rdok cabs x.toNat (dcnt x.toNat) → ∀ σ', fr1 (70 + n1.toNat) σ σ' → (∀ k : Int, 0 ≤ k → k < (dcnt x.toNat : Int) → σ'.1 (70 + n1.toNat) k = (dg x.toNat (dcnt x.toNat - 1 - k.toNat) : Int) - 1) → Post (some (.int (jI 1))) (aw_si (aw_si σ' 67 n1 (dcnt x.toNat : Int)) 68 n1 (rdm x.toNat (dcnt x.toNat) : Int))) (hk0 : ¬ (0 ≤ x ∧ dcnt x.toNat ≤ 6 ∧ rdok cabs x.toNat (dcnt x.toNat)) → ∀ σ', fr1 (70 + n1.toNat) σ σ' → Post (some (.int (jI 0))) σ') (hx0 : 0 ≤ x) (hD6 : dcnt x.toNat ≤ 6)  : ∀ (n : Nat) (j : Nat) (σ1 : aw_S) (lx : Option Value), ((dcnt x.toNat - j) ≤ n) → (j ≤ dcnt x.toNat) → (rdok cabs x.toNat j) → (fr1 (70 + n1.toNat) σ σ1) → (∀ k : Int, (dcnt x.toNat : Int) - (j : Int) ≤ k → k < (dcnt x.toNat : Int) → σ1.1 (70 + n1.toNat) k = (dg x.toNat (dcnt x.toNat - 1 - k.toNat) : Int) - 1) → AW l yX0_readDigits cX0_readDigits 8 (some .boolean) 1 22 0 0 SH Post SH 0 0 (σ1) 28 [some (.ref 64), some (.int (jI x)), some (.int (jI cabs)), some (.int (jI (dcnt x.toNat : Int))), some (.int (jI ((x.toNat / 17 ^ j : Nat) : Int))), some (.int (jI (rdm x.toNat j : Int))), some (.int (jI ((dcnt x.toNat : Int) - 1 - (j : Int)))), lx] [] := by
  intro n
  induction n with
  | zero =>
    intro j σ1 lx hm hj hok f1 hw
    have hR : σ1.2.2 = RF tw cs := by rw [f1.2]; exact hR
    have hn1 : σ1.1 64 0 = n1 := (f1.1 _ _ (by omega)).trans hn.1
    have hq : x.toNat / 17 ^ j ≤ x.toNat := Nat.div_le_self _ _
    have hdg : dg x.toNat j = x.toNat / 17 ^ j % 17 := rfl
    have hdgs := dg_s x.toNat j
    generalize x.toNat / 17 ^ j = q at *
    have hmb := rdm_b x.toNat j
    have hdn : ((dg x.toNat j : Int) - 1).toNat = dg x.toNat j - 1 := by omega
    refine a_ild6 eX0_readDigits_28 ?_
    refine a_if_lt 103 eX0_readDigits_30 (by decide) (by omega) (fun hT30 => ?_) (fun hF30 => ?_)
    · skip
      refine a_ald0 eX0_readDigits_103 ?_
      refine a_getR 6 67 eX0_readDigits_104 fl_X0_18 rfl rfl sh_64 ((congrFun (congrFun hR _) _).trans rf_64_6) ?_
      refine a_ald0 eX0_readDigits_107 ?_
      refine a_getI 0 eX0_readDigits_108 fl_X0_35 rfl rfl sh_64 ?_
      refine a_eqtop (y0 := n1) (by exact hn1) ?_
      refine a_ild3 eX0_readDigits_111 ?_
      refine a_iast eX0_readDigits_112 sh_67 rfl (by omega) ?_
      refine a_ald0 eX0_readDigits_113 ?_
      refine a_getR 7 68 eX0_readDigits_114 fl_X0_21 rfl rfl sh_64 ((congrFun (congrFun hR _) _).trans rf_64_7) ?_
      refine a_ald0 eX0_readDigits_117 ?_
      refine a_getI 0 eX0_readDigits_118 fl_X0_35 rfl rfl sh_64 ?_
      refine a_eqtop (y0 := n1) (by simp only [rd_si]; rw [if_neg (by omega)]; exact hn1) ?_
      refine a_ild5 eX0_readDigits_121 ?_
      refine a_iast eX0_readDigits_123 sh_68 rfl (by omega) ?_
      refine a_iconst eX0_readDigits_124 ?_
      refine a_zret eX0_readDigits_125 rfl (by first | exact Or.inl rfl | exact Or.inr rfl | omega) rfl ⟨Nat.zero_le _, Nat.zero_le _⟩ ?_
      have hDj : dcnt x.toNat = j := by omega
      have h9 := hk1 hx0 hD6 (by rw [hDj]; exact hok) σ1 f1 (fun k k1 k2 => hw k (by omega) k2)
      rw [show rdm x.toNat (dcnt x.toNat) = rdm x.toNat j by rw [hDj]] at h9
      exact h9
    · skip
      exfalso; omega
  | succ n ih =>
    intro j σ1 lx hm hj hok f1 hw
    have hR : σ1.2.2 = RF tw cs := by rw [f1.2]; exact hR
    have hn1 : σ1.1 64 0 = n1 := (f1.1 _ _ (by omega)).trans hn.1
    have hq : x.toNat / 17 ^ j ≤ x.toNat := Nat.div_le_self _ _
    have hdg : dg x.toNat j = x.toNat / 17 ^ j % 17 := rfl
    have hdgs := dg_s x.toNat j
    generalize x.toNat / 17 ^ j = q at *
    have hmb := rdm_b x.toNat j
    have hdn : ((dg x.toNat j : Int) - 1).toNat = dg x.toNat j - 1 := by omega
    refine a_ild6 eX0_readDigits_28 ?_
    refine a_if_lt 103 eX0_readDigits_30 (by decide) (by omega) (fun hT30 => ?_) (fun hF30 => ?_)
    · skip
      refine a_ald0 eX0_readDigits_103 ?_
      refine a_getR 6 67 eX0_readDigits_104 fl_X0_18 rfl rfl sh_64 ((congrFun (congrFun hR _) _).trans rf_64_6) ?_
      refine a_ald0 eX0_readDigits_107 ?_
      refine a_getI 0 eX0_readDigits_108 fl_X0_35 rfl rfl sh_64 ?_
      refine a_eqtop (y0 := n1) (by exact hn1) ?_
      refine a_ild3 eX0_readDigits_111 ?_
      refine a_iast eX0_readDigits_112 sh_67 rfl (by omega) ?_
      refine a_ald0 eX0_readDigits_113 ?_
      refine a_getR 7 68 eX0_readDigits_114 fl_X0_21 rfl rfl sh_64 ((congrFun (congrFun hR _) _).trans rf_64_7) ?_
      refine a_ald0 eX0_readDigits_117 ?_
      refine a_getI 0 eX0_readDigits_118 fl_X0_35 rfl rfl sh_64 ?_
      refine a_eqtop (y0 := n1) (by simp only [rd_si]; rw [if_neg (by omega)]; exact hn1) ?_
      refine a_ild5 eX0_readDigits_121 ?_
      refine a_iast eX0_readDigits_123 sh_68 rfl (by omega) ?_
      refine a_iconst eX0_readDigits_124 ?_
      refine a_zret eX0_readDigits_125 rfl (by first | exact Or.inl rfl | exact Or.inr rfl | omega) rfl ⟨Nat.zero_le _, Nat.zero_le _⟩ ?_
      have hDj : dcnt x.toNat = j := by omega
      have h9 := hk1 hx0 hD6 (by rw [hDj]; exact hok) σ1 f1 (fun k k1 k2 => hw k (by omega) k2)
      rw [show rdm x.toNat (dcnt x.toNat) = rdm x.toNat j by rw [hDj]] at h9
      exact h9
    · skip
      refine a_ild4 eX0_readDigits_33 ?_
      refine a_bipush eX0_readDigits_35 (by decide) ?_
      refine a_irem eX0_readDigits_37 (by omega) (by omega) ?_
      refine a_eqtop (y0 := ((dg x.toNat j : Nat) : Int)) (by rw [hdg]; omega) ?_
      refine a_iconst eX0_readDigits_38 ?_
      refine a_isub eX0_readDigits_39 ?_
      refine a_ist7 eX0_readDigits_40 (by decide) aw_n2i ?_
      refine a_ild4 eX0_readDigits_42 ?_
      refine a_bipush eX0_readDigits_44 (by decide) ?_
      refine a_idiv eX0_readDigits_46 (by omega) (by omega) ?_
      refine a_eqtop (y0 := ((q / 17 : Nat) : Int)) (by omega) ?_
      refine a_ist4 eX0_readDigits_47 (by decide) aw_n2i ?_
      refine a_ild7 eX0_readDigits_49 ?_
      refine a_iconst eX0_readDigits_51 ?_
      refine a_ild2 eX0_readDigits_52 ?_
      refine a_iconst eX0_readDigits_53 ?_
      refine a_isub eX0_readDigits_54 ?_
      refine a_cN3 eX0_readDigits_55 ln_X0_47 mS_X9_within mt_X9_within rfl rfl rfl rfl rfl rfl rfl (c_X9_within (by omega) (fun hT55 => ?_) (fun hF55 => ?_))
      · skip
        dsimp only [Option.toList, List.cons_append, List.nil_append]
        refine a_if_eq 72 eX0_readDigits_58 (by decide) (by omega) (fun h => absurd h (by decide)) (fun _ => ?_)
        have hbt := bt_div (rdm x.toNat j) (dg x.toNat j - 1)
        have hm2 : 0 ≤ ((rdm x.toNat j : Nat) : Int) / 2 ^ (dg x.toNat j - 1) % 2 ∧ ((rdm x.toNat j : Nat) : Int) / 2 ^ (dg x.toNat j - 1) % 2 < 2 := ⟨Int.emod_nonneg _ (by decide), Int.emod_lt_of_pos _ (by decide)⟩
        refine a_ild5 eX0_readDigits_61 ?_
        refine a_ild7 eX0_readDigits_63 ?_
        refine a_ishr (((rdm x.toNat j : Nat) : Int) / 2 ^ (dg x.toNat j - 1)) eX0_readDigits_65 (by rw [jI_shr (by omega) (by omega), hdn]) ?_
        refine a_iconst eX0_readDigits_66 ?_
        refine a_iand (((rdm x.toNat j : Nat) : Int) / 2 ^ (dg x.toNat j - 1) % 2) eX0_readDigits_67 (by rw [jI_and1 (Int.ediv_nonneg (by omega) (Int.pow_nonneg (by omega)))]) ?_
        refine a_iconst eX0_readDigits_68 ?_
        refine a_icmp_ne 74 eX0_readDigits_69 (by decide) (by omega) (fun hT69 => ?_) (fun hF69 => ?_)
        · skip
          have hb : (rdm x.toNat j).testBit (dg x.toNat j - 1) = false := Bool.eq_false_iff.mpr (fun z => by have := hbt.mp z; omega)
          refine a_ild5 eX0_readDigits_74 ?_
          refine a_iconst eX0_readDigits_76 ?_
          refine a_ild7 eX0_readDigits_77 ?_
          refine a_ishl (2 ^ (dg x.toNat j - 1)) eX0_readDigits_79 (by rw [pw_shl (by omega), hdn]) ?_
          refine a_ior ((rdm x.toNat j ||| 2 ^ (dg x.toNat j - 1) : Nat) : Int) eX0_readDigits_80 (by have h := aw_or16 (rdm x.toNat j) (k := (dg x.toNat j : Int) - 1) (by omega); rw [show ((dg x.toNat j : Int) - 1).toNat = dg x.toNat j - 1 by omega] at h; exact h) ?_
          refine a_ist5 eX0_readDigits_81 (by decide) aw_n2i ?_
          refine a_ald0 eX0_readDigits_83 ?_
          refine a_getR 8 69 eX0_readDigits_84 fl_X0_26 rfl rfl sh_64 ((congrFun (congrFun hR _) _).trans rf_64_8) ?_
          refine a_ald0 eX0_readDigits_87 ?_
          refine a_getI 0 eX0_readDigits_88 fl_X0_35 rfl rfl sh_64 ?_
          refine a_eqtop (y0 := n1) (by exact hn1) ?_
          refine a_aald _ eX0_readDigits_91 sh_69 rfl rfl rfl (by omega) ((congrFun (congrFun hR _) _).trans (rf_seen (by omega))) ?_
          refine a_ild6 eX0_readDigits_92 ?_
          refine a_ild7 eX0_readDigits_94 ?_
          refine a_iast eX0_readDigits_96 (sh_seen (by omega)) rfl (by omega) ?_
          refine a_iinc6 eX0_readDigits_97 (by decide) aw_n2i ?_
          refine a_goto 28 eX0_readDigits_100 (by decide) ?_
          have ih1 := ih (j + 1) (aw_si σ1 (70 + n1.toNat) ((dcnt x.toNat : Int) - 1 - (j : Int)) ((dg x.toNat j : Int) - 1)) (some (.int (jI ((dg x.toNat j : Int) - 1)))) (by omega) (by omega) (rdok_s hok (by omega) (by first | exact hb | (exact Bool.eq_false_iff.mpr (fun z => hTB (hbt.mp z))))) ⟨fun b i q => by simp only [rd_si]; rw [if_neg (by omega)]; exact f1.1 b i q, f1.2⟩ (fun k k1 k2 => ?_)
          · rw [hdgs, show (dcnt x.toNat : Int) - 1 - ((j + 1 : Nat) : Int) = (dcnt x.toNat : Int) - 1 - (j : Int) + -1 by omega, show rdm x.toNat (j + 1) = rdm x.toNat j ||| 2 ^ (dg x.toNat j - 1) from rfl] at ih1
            exact ih1
          · by_cases z : k = (dcnt x.toNat : Int) - 1 - (j : Int)
            · rw [z, rd_si_eq, show dcnt x.toNat - 1 - ((dcnt x.toNat : Int) - 1 - (j : Int)).toNat = j by omega]
            · rw [rd_si_ni z]
              exact hw k (by omega) k2
        · skip
          refine a_iconst eX0_readDigits_72 ?_
          refine a_zret eX0_readDigits_73 rfl (by first | exact Or.inl rfl | exact Or.inr rfl | omega) rfl ⟨Nat.zero_le _, Nat.zero_le _⟩ ?_
          refine hk0 (fun q => ?_) σ1 f1
          have z := q.2.2 j (by omega)
          rw [hbt.mpr hF69] at z; exact absurd z.2 (by decide)
      · skip
        dsimp only [Option.toList, List.cons_append, List.nil_append]
        refine a_if_eq 72 eX0_readDigits_58 (by decide) (by omega) (fun _ => ?_) (fun h => absurd h (by decide))
        refine a_iconst eX0_readDigits_72 ?_
        refine a_zret eX0_readDigits_73 rfl (by first | exact Or.inl rfl | exact Or.inr rfl | omega) rfl ⟨Nat.zero_le _, Nat.zero_le _⟩ ?_
        refine hk0 (fun q => ?_) σ1 f1
        have z := q.2.2 j (by omega)
        omega

set_option maxHeartbeats 4000000 in
set_option maxRecDepth 100000 in
theorem c_X0_readDigits {l : Launch} {σ : aw_S} {Post : Option Value → aw_S → Prop} {tw cs : Bool} (hR : σ.2.2 = RF tw cs) {n1 cabs x : Int} (hn : σ.1 64 0 = n1 ∧ 0 ≤ n1 ∧ n1 < 12) (hx : -2147483648 ≤ x ∧ x ≤ 2147483647) (hcb : 0 ≤ cabs ∧ cabs ≤ 16) (hk1 : 0 ≤ x → dcnt x.toNat ≤ 6 → rdok cabs x.toNat (dcnt x.toNat) → ∀ σ', fr1 (70 + n1.toNat) σ σ' → (∀ k : Int, 0 ≤ k → k < (dcnt x.toNat : Int) → σ'.1 (70 + n1.toNat) k = (dg x.toNat (dcnt x.toNat - 1 - k.toNat) : Int) - 1) → Post (some (.int (jI 1))) (aw_si (aw_si σ' 67 n1 (dcnt x.toNat : Int)) 68 n1 (rdm x.toNat (dcnt x.toNat) : Int))) (hk0 : ¬ (0 ≤ x ∧ dcnt x.toNat ≤ 6 ∧ rdok cabs x.toNat (dcnt x.toNat)) → ∀ σ', fr1 (70 + n1.toNat) σ σ' → Post (some (.int (jI 0))) σ')  : AE l yX0_readDigits cX0_readDigits 8 (some .boolean) 1 22 0 0 SH SH σ [.ref 64, .int (jI x), .int (jI cabs)] Post := by
  show AW l yX0_readDigits cX0_readDigits 8 (some .boolean) 1 22 0 0 SH Post SH 0 0 σ 0 [some (.ref 64), some (.int (jI x)), some (.int (jI cabs)), none, none, none, none, none] []
  have hdl := dcnt_le _ _ (Nat.le_refl x.toNat)
  refine a_ild1 eX0_readDigits_0 ?_
  refine a_cS1 eX0_readDigits_1 lk_X0_43 mS_X0_digitsIn mt_X0_digitsIn rfl rfl rfl rfl rfl (c_X0_digitsIn (by omega) ?_)
  dsimp only [Option.toList, List.cons_append, List.nil_append]
  refine a_ist3 eX0_readDigits_4 (by decide) aw_n2i ?_
  refine a_ild1 eX0_readDigits_5 ?_
  refine a_if_lt 15 eX0_readDigits_6 (by decide) (by omega) (fun hT6 => ?_) (fun hF6 => ?_)
  · skip
    refine a_iconst eX0_readDigits_15 ?_
    refine a_zret eX0_readDigits_16 rfl (by first | exact Or.inl rfl | exact Or.inr rfl | omega) rfl ⟨Nat.zero_le _, Nat.zero_le _⟩ ?_
    exact hk0 (fun q => by omega) σ ⟨fun _ _ _ => rfl, rfl⟩
  · skip
    refine a_ild3 eX0_readDigits_9 ?_
    refine a_bipush eX0_readDigits_10 (by decide) ?_
    refine a_icmp_le 17 eX0_readDigits_12 (by decide) (by omega) (fun hT12 => ?_) (fun hF12 => ?_)
    · skip
      refine a_ild1 eX0_readDigits_17 ?_
      refine a_ist4 eX0_readDigits_18 (by decide) aw_n2i ?_
      refine a_iconst eX0_readDigits_20 ?_
      refine a_ist5 eX0_readDigits_21 (by decide) aw_n2i ?_
      refine a_ild3 eX0_readDigits_23 ?_
      refine a_iconst eX0_readDigits_24 ?_
      refine a_isub eX0_readDigits_25 ?_
      refine a_ist6 eX0_readDigits_26 (by decide) aw_n2i ?_
      have h9 := lp_rdD (l := l) hR hn hx hcb hk1 hk0 (by omega) (by omega) _ 0 σ none (Nat.le_refl _) (Nat.zero_le _) (fun i hi => by omega) ⟨fun _ _ _ => rfl, rfl⟩ (fun k k1 k2 => by omega)
      rw [Nat.pow_zero, Nat.div_one, Int.toNat_of_nonneg (by omega), show (dcnt x.toNat : Int) - 1 - ((0 : Nat) : Int) = (dcnt x.toNat : Int) - 1 by omega] at h9
      exact h9
    · skip
      refine a_iconst eX0_readDigits_15 ?_
      refine a_zret eX0_readDigits_16 rfl (by first | exact Or.inl rfl | exact Or.inr rfl | omega) rfl ⟨Nat.zero_le _, Nat.zero_le _⟩ ?_
      exact hk0 (fun q => by omega) σ ⟨fun _ _ _ => rfl, rfl⟩

set_option maxHeartbeats 4000000 in
set_option maxRecDepth 100000 in
theorem c_X0_add {l : Launch} {σ : aw_S} {Post : Option Value → aw_S → Prop} {tw cs : Bool} (hR : σ.2.2 = RF tw cs) {m : mS} (hB : bookC σ m) (wB : wfBook m) (h4 : 0 ≤ m 0 4 ∧ m 0 4 ≤ 16) {r mi x : Int} (hr : (-2147483648 ≤ r ∧ r ≤ 2147483647) ∧ (-2147483648 ≤ mi ∧ mi ≤ 2147483647) ∧ (-2147483648 ≤ x ∧ x ≤ 2147483647)) (h1 : (m 0 6 < 12 ∧ lmin m ≤ mi ∧ 0 ≤ x ∧ dcnt x.toNat ≤ 6 ∧ rdok (m 0 4) x.toNat (dcnt x.toNat)) → ∀ σ', bookC σ' (mread m r mi x) → frB σ σ' → Post (some (.int (jI 1))) σ') (h0 : ¬ (m 0 6 < 12 ∧ lmin m ≤ mi ∧ 0 ≤ x ∧ dcnt x.toNat ≤ 6 ∧ rdok (m 0 4) x.toNat (dcnt x.toNat)) → ∀ σ', bookC σ' m → frB σ σ' → Post (some (.int (jI 0))) σ') : AE l yX0_add cX0_add 6 (some .boolean) 2 49 0 0 SH SH σ [.ref 64, .int (jI r), .int (jI mi), .int (jI x), .int (jI (m 0 4))] Post := by
  show AW l yX0_add cX0_add 6 (some .boolean) 2 49 0 0 SH Post SH 0 0 σ 0 [some (.ref 64), some (.int (jI r)), some (.int (jI mi)), some (.int (jI x)), some (.int (jI (m 0 4))), none] []
  obtain ⟨b1, b2⟩ := id hB
  obtain ⟨z1, z2⟩ := id wB
  have hlm : -2147483648 ≤ lmin m ∧ lmin m ≤ 2147483647 := by
    unfold lmin
    split
    · omega
    · have := (z2 (m 0 6 - 1) (by omega) (by omega)).2.1; omega
  refine a_ald0 eX0_add_0 ?_
  refine a_getI 0 eX0_add_1 fl_X0_35 rfl rfl sh_64 ?_
  refine a_eqtop (y0 := m 0 6) (by exact b1) ?_
  refine a_bipush eX0_add_4 (by decide) ?_
  refine a_icmp_lt 11 eX0_add_6 (by decide) (by omega) (fun hT6 => ?_) (fun hF6 => ?_)
  · skip
    refine a_ald0 eX0_add_11 ?_
    refine a_getI 0 eX0_add_12 fl_X0_35 rfl rfl sh_64 ?_
    refine a_eqtop (y0 := m 0 6) (by exact b1) ?_
    refine a_if_ne 22 eX0_add_15 (by decide) (by omega) (fun hT15 => ?_) (fun hF15 => ?_)
    · skip
      refine a_ald0 eX0_add_22 ?_
      refine a_getR 5 66 eX0_add_23 fl_X0_15 rfl rfl sh_64 ((congrFun (congrFun hR _) _).trans rf_64_5) ?_
      refine a_ald0 eX0_add_26 ?_
      refine a_getI 0 eX0_add_27 fl_X0_35 rfl rfl sh_64 ?_
      refine a_eqtop (y0 := m 0 6) (by exact b1) ?_
      refine a_iconst eX0_add_30 ?_
      refine a_isub eX0_add_31 ?_
      refine a_iald eX0_add_32 sh_66 rfl (by omega) ?_
      refine a_eqtop (y0 := lmin m) (by unfold lmin; first | (rw [if_pos (by omega)]; done) | (rw [if_neg (by omega)]; exact (b2 _ (by omega) (by omega)).2.1)) ?_
      refine a_ist5 eX0_add_33 (by decide) aw_n2i ?_
      refine a_ild2 eX0_add_35 ?_
      refine a_ild5 eX0_add_36 ?_
      refine a_icmp_lt 51 eX0_add_38 (by decide) (by omega) (fun hT38 => ?_) (fun hF38 => ?_)
      · skip
        refine a_iconst eX0_add_51 ?_
        refine a_zret eX0_add_52 rfl (by first | exact Or.inl rfl | exact Or.inr rfl | omega) rfl ⟨Nat.zero_le _, Nat.zero_le _⟩ ?_
        exact h0 (fun q => by omega) σ hB ⟨fun _ _ _ => rfl, rfl⟩
      · skip
        refine a_ald0 eX0_add_41 ?_
        refine a_ild3 eX0_add_42 ?_
        refine a_ild4 eX0_add_43 ?_
        refine a_cV2 eX0_add_45 lk_X0_39 mV_X0_readDigits sh_64 ⟨_, rfl, rfl⟩ mt_X0_readDigits rfl rfl rfl rfl rfl rfl (c_X0_readDigits hR (n1 := m 0 6) ⟨b1, by omega, by omega⟩ (by omega) h4 (fun g1 g2 g3 σ1 f1 hw => ?_) (fun g0 σ1 f1 => ?_))
        · skip
          dsimp only [Option.toList, List.cons_append, List.nil_append]
          refine a_if_ne 53 eX0_add_48 (by decide) (by omega) (fun _ => ?_) (fun h => absurd h (by decide))
          have hR : σ1.2.2 = RF tw cs := by rw [f1.2]; exact hR
          have e64 : σ1.1 64 0 = m 0 6 := (f1.1 _ _ (by omega)).trans b1
          refine a_ald0 eX0_add_53 ?_
          refine a_getR 4 65 eX0_add_54 fl_X0_11 rfl rfl sh_64 ((congrFun (congrFun hR _) _).trans rf_64_4) ?_
          refine a_ald0 eX0_add_57 ?_
          refine a_getI 0 eX0_add_58 fl_X0_35 rfl rfl sh_64 ?_
          refine a_eqtop (y0 := m 0 6) (by simp only [rd_si]; (repeat rw [if_neg (by omega)]); exact e64) ?_
          refine a_ild1 eX0_add_61 ?_
          refine a_iast eX0_add_62 sh_65 rfl (by omega) ?_
          refine a_ald0 eX0_add_63 ?_
          refine a_getR 5 66 eX0_add_64 fl_X0_15 rfl rfl sh_64 ((congrFun (congrFun hR _) _).trans rf_64_5) ?_
          refine a_ald0 eX0_add_67 ?_
          refine a_getI 0 eX0_add_68 fl_X0_35 rfl rfl sh_64 ?_
          refine a_eqtop (y0 := m 0 6) (by simp only [rd_si]; (repeat rw [if_neg (by omega)]); exact e64) ?_
          refine a_ild2 eX0_add_71 ?_
          refine a_iast eX0_add_72 sh_66 rfl (by omega) ?_
          refine a_ald0 eX0_add_73 ?_
          refine a_dup eX0_add_74 rfl ?_
          refine a_getI 0 eX0_add_75 fl_X0_35 rfl rfl sh_64 ?_
          refine a_eqtop (y0 := m 0 6) (by simp only [rd_si]; (repeat rw [if_neg (by omega)]); exact e64) ?_
          refine a_iconst eX0_add_78 ?_
          refine a_iadd eX0_add_79 ?_
          refine a_putI 0 eX0_add_80 fl_X0_35 rfl rfl sh_64 (fun q h => Or.inl (by cases h; rfl)) ?_
          refine a_iconst eX0_add_83 ?_
          refine a_zret eX0_add_84 rfl (by first | exact Or.inl rfl | exact Or.inr rfl | omega) rfl ⟨Nat.zero_le _, Nat.zero_le _⟩ ?_
          refine h1 ⟨by omega, by omega, g1, g2, g3⟩ _ (bookC_read hB (by omega) (by simp only [rd_si]; rw [if_pos ⟨trivial, trivial⟩]) (fun a j q1 q2 q3 => ?_) (fun a j q1 q2 q3 => ?_) (by omega) ?_ ?_ ?_ ?_ (fun k k1 k2 => ?_) (fun i hi => ?_)) ⟨fun a j q => ?_, f1.2⟩
          · simp only [rd_si]; (repeat rw [if_neg (by omega)]); exact f1.1 a j (by omega)
          · simp only [rd_si]; (repeat rw [if_neg (by omega)]); exact f1.1 a j (by omega)
          · simp only [rd_si, and_self, true_and, and_true]; (repeat (first | rw [if_neg (by omega)] | rw [if_pos True.intro])); (first | done | rfl)
          · simp only [rd_si, and_self, true_and, and_true]; (repeat (first | rw [if_neg (by omega)] | rw [if_pos True.intro])); (first | done | rfl)
          · simp only [rd_si, and_self, true_and, and_true]; (repeat (first | rw [if_neg (by omega)] | rw [if_pos True.intro])); (first | done | rfl)
          · simp only [rd_si, and_self, true_and, and_true]; (repeat (first | rw [if_neg (by omega)] | rw [if_pos True.intro])); (first | done | rfl)
          · simp only [rd_si]; (repeat rw [if_neg (by omega)]); exact hw k k1 k2
          · have := g3 i hi; exact ⟨by omega, this.2⟩
          · simp only [rd_si]; (repeat rw [if_neg (by omega)]); exact f1.1 a j (by omega)
        · skip
          dsimp only [Option.toList, List.cons_append, List.nil_append]
          refine a_if_ne 53 eX0_add_48 (by decide) (by omega) (fun h => absurd h (by decide)) (fun _ => ?_)
          refine a_iconst eX0_add_51 ?_
          refine a_zret eX0_add_52 rfl (by first | exact Or.inl rfl | exact Or.inr rfl | omega) rfl ⟨Nat.zero_le _, Nat.zero_le _⟩ ?_
          exact h0 (fun q => g0 ⟨q.2.2.1, q.2.2.2.1, q.2.2.2.2⟩) σ1 (bookC_cong hB (by omega) (fun a j q1 q2 q3 => f1.1 a j (by omega)) (fun i hi j => f1.1 _ j (by omega))) ⟨fun a j q => f1.1 a j (by omega), f1.2⟩
    · skip
      refine a_iconst eX0_add_18 ?_
      refine a_goto 33 eX0_add_19 (by decide) ?_
      refine a_eqtop (y0 := lmin m) (by unfold lmin; first | (rw [if_pos (by omega)]; done) | (rw [if_neg (by omega)]; exact (b2 _ (by omega) (by omega)).2.1)) ?_
      refine a_ist5 eX0_add_33 (by decide) aw_n2i ?_
      refine a_ild2 eX0_add_35 ?_
      refine a_ild5 eX0_add_36 ?_
      refine a_icmp_lt 51 eX0_add_38 (by decide) (by omega) (fun hT38 => ?_) (fun hF38 => ?_)
      · skip
        refine a_iconst eX0_add_51 ?_
        refine a_zret eX0_add_52 rfl (by first | exact Or.inl rfl | exact Or.inr rfl | omega) rfl ⟨Nat.zero_le _, Nat.zero_le _⟩ ?_
        exact h0 (fun q => by omega) σ hB ⟨fun _ _ _ => rfl, rfl⟩
      · skip
        refine a_ald0 eX0_add_41 ?_
        refine a_ild3 eX0_add_42 ?_
        refine a_ild4 eX0_add_43 ?_
        refine a_cV2 eX0_add_45 lk_X0_39 mV_X0_readDigits sh_64 ⟨_, rfl, rfl⟩ mt_X0_readDigits rfl rfl rfl rfl rfl rfl (c_X0_readDigits hR (n1 := m 0 6) ⟨b1, by omega, by omega⟩ (by omega) h4 (fun g1 g2 g3 σ1 f1 hw => ?_) (fun g0 σ1 f1 => ?_))
        · skip
          dsimp only [Option.toList, List.cons_append, List.nil_append]
          refine a_if_ne 53 eX0_add_48 (by decide) (by omega) (fun _ => ?_) (fun h => absurd h (by decide))
          have hR : σ1.2.2 = RF tw cs := by rw [f1.2]; exact hR
          have e64 : σ1.1 64 0 = m 0 6 := (f1.1 _ _ (by omega)).trans b1
          refine a_ald0 eX0_add_53 ?_
          refine a_getR 4 65 eX0_add_54 fl_X0_11 rfl rfl sh_64 ((congrFun (congrFun hR _) _).trans rf_64_4) ?_
          refine a_ald0 eX0_add_57 ?_
          refine a_getI 0 eX0_add_58 fl_X0_35 rfl rfl sh_64 ?_
          refine a_eqtop (y0 := m 0 6) (by simp only [rd_si]; (repeat rw [if_neg (by omega)]); exact e64) ?_
          refine a_ild1 eX0_add_61 ?_
          refine a_iast eX0_add_62 sh_65 rfl (by omega) ?_
          refine a_ald0 eX0_add_63 ?_
          refine a_getR 5 66 eX0_add_64 fl_X0_15 rfl rfl sh_64 ((congrFun (congrFun hR _) _).trans rf_64_5) ?_
          refine a_ald0 eX0_add_67 ?_
          refine a_getI 0 eX0_add_68 fl_X0_35 rfl rfl sh_64 ?_
          refine a_eqtop (y0 := m 0 6) (by simp only [rd_si]; (repeat rw [if_neg (by omega)]); exact e64) ?_
          refine a_ild2 eX0_add_71 ?_
          refine a_iast eX0_add_72 sh_66 rfl (by omega) ?_
          refine a_ald0 eX0_add_73 ?_
          refine a_dup eX0_add_74 rfl ?_
          refine a_getI 0 eX0_add_75 fl_X0_35 rfl rfl sh_64 ?_
          refine a_eqtop (y0 := m 0 6) (by simp only [rd_si]; (repeat rw [if_neg (by omega)]); exact e64) ?_
          refine a_iconst eX0_add_78 ?_
          refine a_iadd eX0_add_79 ?_
          refine a_putI 0 eX0_add_80 fl_X0_35 rfl rfl sh_64 (fun q h => Or.inl (by cases h; rfl)) ?_
          refine a_iconst eX0_add_83 ?_
          refine a_zret eX0_add_84 rfl (by first | exact Or.inl rfl | exact Or.inr rfl | omega) rfl ⟨Nat.zero_le _, Nat.zero_le _⟩ ?_
          refine h1 ⟨by omega, by omega, g1, g2, g3⟩ _ (bookC_read hB (by omega) (by simp only [rd_si]; rw [if_pos ⟨trivial, trivial⟩]) (fun a j q1 q2 q3 => ?_) (fun a j q1 q2 q3 => ?_) (by omega) ?_ ?_ ?_ ?_ (fun k k1 k2 => ?_) (fun i hi => ?_)) ⟨fun a j q => ?_, f1.2⟩
          · simp only [rd_si]; (repeat rw [if_neg (by omega)]); exact f1.1 a j (by omega)
          · simp only [rd_si]; (repeat rw [if_neg (by omega)]); exact f1.1 a j (by omega)
          · simp only [rd_si, and_self, true_and, and_true]; (repeat (first | rw [if_neg (by omega)] | rw [if_pos True.intro])); (first | done | rfl)
          · simp only [rd_si, and_self, true_and, and_true]; (repeat (first | rw [if_neg (by omega)] | rw [if_pos True.intro])); (first | done | rfl)
          · simp only [rd_si, and_self, true_and, and_true]; (repeat (first | rw [if_neg (by omega)] | rw [if_pos True.intro])); (first | done | rfl)
          · simp only [rd_si, and_self, true_and, and_true]; (repeat (first | rw [if_neg (by omega)] | rw [if_pos True.intro])); (first | done | rfl)
          · simp only [rd_si]; (repeat rw [if_neg (by omega)]); exact hw k k1 k2
          · have := g3 i hi; exact ⟨by omega, this.2⟩
          · simp only [rd_si]; (repeat rw [if_neg (by omega)]); exact f1.1 a j (by omega)
        · skip
          dsimp only [Option.toList, List.cons_append, List.nil_append]
          refine a_if_ne 53 eX0_add_48 (by decide) (by omega) (fun h => absurd h (by decide)) (fun _ => ?_)
          refine a_iconst eX0_add_51 ?_
          refine a_zret eX0_add_52 rfl (by first | exact Or.inl rfl | exact Or.inr rfl | omega) rfl ⟨Nat.zero_le _, Nat.zero_le _⟩ ?_
          exact h0 (fun q => g0 ⟨q.2.2.1, q.2.2.2.1, q.2.2.2.2⟩) σ1 (bookC_cong hB (by omega) (fun a j q1 q2 q3 => f1.1 a j (by omega)) (fun i hi j => f1.1 _ j (by omega))) ⟨fun a j q => f1.1 a j (by omega), f1.2⟩
  · skip
    refine a_iconst eX0_add_9 ?_
    refine a_zret eX0_add_10 rfl (by first | exact Or.inl rfl | exact Or.inr rfl | omega) rfl ⟨Nat.zero_le _, Nat.zero_le _⟩ ?_
    exact h0 (fun q => by omega) σ hB ⟨fun _ _ _ => rfl, rfl⟩

set_option maxHeartbeats 4000000 in
set_option maxRecDepth 100000 in
theorem c_X9_reading {l : Launch} {σ : aw_S} {Post : Option Value → aw_S → Prop} {tw cs : Bool} (hR : σ.2.2 = RF tw cs) {t : Nat} (hct : isCity t) (hrt : RF tw cs 0 1 = some t) {m : mS} (hC : cityC σ t m) (wC : wfCity m) {N : Int} (hD : dayC σ 21 0 m) (wD : wfDay m 0 N) (hN : 0 ≤ N ∧ N ≤ 1000) (hB : bookC σ m) (wB : wfBook m) {r mi x : Int} (hr : (-2147483648 ≤ r ∧ r ≤ 2147483647) ∧ (-2147483648 ≤ mi ∧ mi ≤ 2147483647) ∧ (-2147483648 ≤ x ∧ x ≤ 2147483647)) (h1 : vread m r mi x → ∀ σ', bookC σ' (mread m r mi x) → frB σ σ' → Post (some (.int (jI (m 0 6 + 1)))) σ') (h0 : ¬ vread m r mi x → ∀ σ', bookC σ' m → frB σ σ' → Post (some (.int (jI (-1)))) σ') : AE l yX9_reading cX9_reading 4 (some .int) 3 74 0 0 SH SH σ [.ref 0, .int (jI r), .int (jI mi), .int (jI x)] Post := by
  show AW l yX9_reading cX9_reading 4 (some .int) 3 74 0 0 SH Post SH 0 0 σ 0 [some (.ref 0), some (.int (jI r)), some (.int (jI mi)), some (.int (jI x))] []
  obtain ⟨c1, c2, c3, c4, c5, c6, c7, c8⟩ := id hC
  obtain ⟨w1, w2, w3, w4, w5, w6, w7, w8⟩ := id wC
  obtain ⟨d1, d2, d3, d4, d5, d6, d7⟩ := id hD
  obtain ⟨v1, v2, v3, v4, v5, v6, v7, v8⟩ := id wD
  simp only [Int.zero_add] at d4 d5 d6 d7 v4 v5 v6 v7 v8
  refine a_ald0 eX9_reading_0 ?_
  refine a_ild1 eX9_reading_1 ?_
  refine a_cV1 eX9_reading_2 lk_X9_102 mV_X9_hasRank sh_0 ⟨_, rfl, rfl⟩ mt_X9_hasRank rfl rfl rfl rfl rfl (c_X9_hasRank hR hct hrt hC wC (by omega) (fun hT2 => ?_) (fun hF2 => ?_))
  · skip
    dsimp only [Option.toList, List.cons_append, List.nil_append]
    refine a_if_eq 28 eX9_reading_5 (by decide) (by omega) (fun h => absurd h (by decide)) (fun _ => ?_)
    refine a_ald0 eX9_reading_8 ?_
    refine a_getR 8 64 eX9_reading_9 fl_X9_62 rfl rfl sh_0 ((congrFun (congrFun hR _) _).trans rf_0_8) ?_
    refine a_ild1 eX9_reading_12 ?_
    refine a_ild2 eX9_reading_13 ?_
    refine a_ild3 eX9_reading_14 ?_
    refine a_ald0 eX9_reading_15 ?_
    refine a_getR 2 21 eX9_reading_16 fl_X9_26 rfl rfl sh_0 ((congrFun (congrFun hR _) _).trans rf_0_2) ?_
    refine a_getI 1 eX9_reading_19 fl_X9_282 rfl rfl (sh_day (Or.inl rfl)) ?_
    refine a_eqtop (y0 := m 0 4) (by exact d2) ?_
    refine a_cV4 eX9_reading_22 lk_X9_285 mV_X0_add sh_64 ⟨_, rfl, rfl⟩ mt_X0_add rfl rfl rfl rfl rfl rfl rfl rfl (c_X0_add hR hB wB (by omega) (by omega) (fun g1 σ1 hB1 f1 => ?_) (fun g0 σ1 hB1 f1 => ?_))
    · skip
      dsimp only [Option.toList, List.cons_append, List.nil_append]
      refine a_if_ne 30 eX9_reading_25 (by decide) (by omega) (fun _ => ?_) (fun h => absurd h (by decide))
      have hR : σ1.2.2 = RF tw cs := by rw [f1.2]; exact hR
      refine a_ald0 eX9_reading_30 ?_
      refine a_getR 8 64 eX9_reading_31 fl_X9_62 rfl rfl sh_0 ((congrFun (congrFun hR _) _).trans rf_0_8) ?_
      refine a_getI 0 eX9_reading_34 fl_X9_96 rfl rfl sh_64 ?_
      refine a_eqtop (y0 := m 0 6 + 1) (by rw [hB1.1, mread_6 wB.1.1]) ?_
      refine a_iret eX9_reading_37 rfl rfl ⟨Nat.zero_le _, Nat.zero_le _⟩ ?_
      exact h1 ⟨by omega, g1⟩ σ1 hB1 f1
    · skip
      dsimp only [Option.toList, List.cons_append, List.nil_append]
      refine a_if_ne 30 eX9_reading_25 (by decide) (by omega) (fun h => absurd h (by decide)) (fun _ => ?_)
      refine a_iconst eX9_reading_28 ?_
      refine a_iret eX9_reading_29 rfl rfl ⟨Nat.zero_le _, Nat.zero_le _⟩ ?_
      first
        | exact h0 (fun q => g0 q.2) σ1 hB1 f1
        | exact h0 (fun q => by unfold vread at q; omega) σ hB ⟨fun _ _ _ => rfl, rfl⟩
  · skip
    dsimp only [Option.toList, List.cons_append, List.nil_append]
    refine a_if_eq 28 eX9_reading_5 (by decide) (by omega) (fun _ => ?_) (fun h => absurd h (by decide))
    refine a_iconst eX9_reading_28 ?_
    refine a_iret eX9_reading_29 rfl rfl ⟨Nat.zero_le _, Nat.zero_le _⟩ ?_
    first
      | exact h0 (fun q => g0 q.2) σ1 hB1 f1
      | exact h0 (fun q => by unfold vread at q; omega) σ hB ⟨fun _ _ _ => rfl, rfl⟩

set_option maxHeartbeats 4000000 in
set_option maxRecDepth 100000 in
theorem lp_rmC {l : Launch} {σ : aw_S} {Post : Option Value → aw_S → Prop} {r mi x : Int} {D : Nat} (hk : AW l yX10_reading cX10_reading 9 (some .int) 2 43 0 0 SH Post SH 0 0 (σ) 73 [some (.ref 171), some (.int (jI r)), some (.int (jI mi)), some (.int (jI x)), some (.int (jI (D : Int))), some (.int (jI 0)), none, none, none] [])  : ∀ (n : Nat) (k : Nat) (y : Int), (y.toNat ≤ n) → (0 ≤ y ∧ y ≤ 2147483647) → (D = k + dcnt y.toNat) → AW l yX10_reading cX10_reading 9 (some .int) 2 43 0 0 SH Post SH 0 0 (σ) 55 [some (.ref 171), some (.int (jI r)), some (.int (jI mi)), some (.int (jI x)), some (.int (jI (k : Int))), some (.int (jI y)), none, none, none] [] := by
  intro n
  induction n with
  | zero =>
    intro k y hm hy hD
    refine a_ild5 eX10_reading_55 ?_
    refine a_if_le 73 eX10_reading_57 (by decide) (by omega) (fun hT57 => ?_) (fun hF57 => ?_)
    · skip
      rw [show y.toNat = 0 by omega, dcnt_0] at hD
      rw [show k = D by omega, show y = 0 by omega]
      exact hk
    · skip
      exfalso; omega
  | succ n ih =>
    intro k y hm hy hD
    refine a_ild5 eX10_reading_55 ?_
    refine a_if_le 73 eX10_reading_57 (by decide) (by omega) (fun hT57 => ?_) (fun hF57 => ?_)
    · skip
      rw [show y.toNat = 0 by omega, dcnt_0] at hD
      rw [show k = D by omega, show y = 0 by omega]
      exact hk
    · skip
      refine a_iinc4 eX10_reading_60 (by decide) aw_n2i ?_
      refine a_ild5 eX10_reading_63 ?_
      refine a_bipush eX10_reading_65 (by decide) ?_
      refine a_idiv eX10_reading_67 (by omega) (by omega) ?_
      refine a_ist5 eX10_reading_68 (by decide) aw_n2i ?_
      refine a_goto 55 eX10_reading_70 (by decide) ?_
      have e1 := dcnt_s (x := y.toNat) (by omega)
      have e2 : (y / 17).toNat = y.toNat / 17 := by omega
      have ih1 := ih (k + 1) (y / 17) (by omega) (by omega) (by rw [e2]; omega)
      rw [show (((k + 1 : Nat) : Nat) : Int) = (k : Int) + 1 by omega] at ih1
      exact ih1

set_option maxHeartbeats 4000000 in
set_option maxRecDepth 100000 in
theorem lp_rmD {l : Launch} {σ : aw_S} {Post : Option Value → aw_S → Prop} {tw cs : Bool} (hR : σ.2.2 = RF tw cs) {m : mS} (hM : cityM σ m) (wC : wfCity m) {N : Int} (hM2 : dayM σ m) (wD : wfDay m 0 N) (hN : 0 ≤ N ∧ N ≤ 1000) (hB : bookM σ m) (wB : wfBook m) {r mi x : Int} (hr : (-2147483648 ≤ r ∧ r ≤ 2147483647) ∧ (-2147483648 ≤ mi ∧ mi ≤ 2147483647) ∧ (-2147483648 ≤ x ∧ x ≤ 2147483647)) (hrr : 0 ≤ r ∧ r < m 0 0) (h12 : m 0 6 < 12) (hlm : lmin m ≤ mi) (hx0 : 0 ≤ x) (hD6 : dcnt x.toNat ≤ 6) (h1 : vread m r mi x → ∀ σ', bookM σ' (mread m r mi x) → frBM σ σ' → Post (some (.int (jI (m 0 6 + 1)))) σ') (h0 : ¬ vread m r mi x → ∀ σ', bookM σ' m → frBM σ σ' → Post (some (.int (jI (-1)))) σ')  : ∀ (n : Nat) (j : Nat) (σ1 : aw_S) (lx : Option Value), ((dcnt x.toNat - j) ≤ n) → (j ≤ dcnt x.toNat) → (rdok (m 0 4) x.toNat j) → (fr1 191 σ σ1) → (∀ i : Int, i < 6 * m 0 6 → σ1.1 191 i = σ.1 191 i) → (∀ k : Int, (dcnt x.toNat : Int) - (j : Int) ≤ k → k < (dcnt x.toNat : Int) → σ1.1 191 (6 * m 0 6 + k) = (dg x.toNat (dcnt x.toNat - 1 - k.toNat) : Int) - 1) → AW l yX10_reading cX10_reading 9 (some .int) 2 43 0 0 SH Post SH 0 0 (σ1) 94 [some (.ref 171), some (.int (jI r)), some (.int (jI mi)), some (.int (jI x)), some (.int (jI (dcnt x.toNat : Int))), some (.int (jI (rdm x.toNat j : Int))), some (.int (jI ((x.toNat / 17 ^ j : Nat) : Int))), some (.int (jI ((dcnt x.toNat : Int) - 1 - (j : Int)))), lx] [] := by
  intro n
  induction n with
  | zero =>
    intro j σ1 lx hm hj hok f1 hlo hw
    obtain ⟨c1, c2, c3, c4, c5, c6, c7⟩ := id hM
    obtain ⟨w1, w2, w3, w4, w5, w6, w7, w8⟩ := id wC
    obtain ⟨d1, d2, d3, d4, d5, d6, d7⟩ := id hM2
    obtain ⟨v1, v2, v3, v4, v5, v6, v7, v8⟩ := id wD
    simp only [Int.zero_add] at d4 d5 d6 d7 v4 v5 v6 v7 v8
    have hR : σ1.2.2 = RF tw cs := by rw [f1.2]; exact hR
    obtain ⟨b1, b2⟩ := id hB
    have z1 := wB.1
    have hn1 : σ1.1 171 30 = m 0 6 := (f1.1 _ _ (by omega)).trans b1
    have hc1 : σ1.1 171 22 = m 0 4 := (f1.1 _ _ (by omega)).trans d2
    have hq : x.toNat / 17 ^ j ≤ x.toNat := Nat.div_le_self _ _
    have hdg : dg x.toNat j = x.toNat / 17 ^ j % 17 := rfl
    have hdgs := dg_s x.toNat j
    generalize x.toNat / 17 ^ j = q at *
    have hmb := rdm_b x.toNat j
    have hdn : ((dg x.toNat j : Int) - 1).toNat = dg x.toNat j - 1 := by omega
    refine a_ild7 eX10_reading_94 ?_
    refine a_if_lt 169 eX10_reading_96 (by decide) (by omega) (fun hT96 => ?_) (fun hF96 => ?_)
    · skip
      refine a_ald0 eX10_reading_169 ?_
      refine a_getR 31 188 eX10_reading_170 fl_X10_60 rfl rfl sh_171 ((congrFun (congrFun hR _) _).trans rf_171_31) ?_
      refine a_ald0 eX10_reading_173 ?_
      refine a_getI 30 eX10_reading_174 fl_X10_252 rfl rfl sh_171 ?_
      refine a_eqtop (y0 := m 0 6) (by exact hn1) ?_
      refine a_ild1 eX10_reading_177 ?_
      refine a_iast eX10_reading_178 sh_188 rfl (by omega) ?_
      refine a_ald0 eX10_reading_179 ?_
      refine a_getR 32 189 eX10_reading_180 fl_X10_63 rfl rfl sh_171 ((congrFun (congrFun hR _) _).trans rf_171_32) ?_
      refine a_ald0 eX10_reading_183 ?_
      refine a_getI 30 eX10_reading_184 fl_X10_252 rfl rfl sh_171 ?_
      refine a_eqtop (y0 := m 0 6) (by simp only [rd_si]; (repeat rw [if_neg (by omega)]); exact hn1) ?_
      refine a_ild2 eX10_reading_187 ?_
      refine a_iast eX10_reading_188 sh_189 rfl (by omega) ?_
      refine a_ald0 eX10_reading_189 ?_
      refine a_getR 33 190 eX10_reading_190 fl_X10_66 rfl rfl sh_171 ((congrFun (congrFun hR _) _).trans rf_171_33) ?_
      refine a_ald0 eX10_reading_193 ?_
      refine a_getI 30 eX10_reading_194 fl_X10_252 rfl rfl sh_171 ?_
      refine a_eqtop (y0 := m 0 6) (by simp only [rd_si]; (repeat rw [if_neg (by omega)]); exact hn1) ?_
      refine a_ild4 eX10_reading_197 ?_
      refine a_iast eX10_reading_199 sh_190 rfl (by omega) ?_
      refine a_ald0 eX10_reading_200 ?_
      refine a_dup eX10_reading_201 rfl ?_
      refine a_getI 30 eX10_reading_202 fl_X10_252 rfl rfl sh_171 ?_
      refine a_eqtop (y0 := m 0 6) (by simp only [rd_si]; (repeat rw [if_neg (by omega)]); exact hn1) ?_
      refine a_iconst eX10_reading_205 ?_
      refine a_iadd eX10_reading_206 ?_
      refine a_putI 30 eX10_reading_207 fl_X10_252 rfl rfl sh_171 (fun q h => Or.inl (by cases h; rfl)) ?_
      refine a_ald0 eX10_reading_210 ?_
      refine a_getI 30 eX10_reading_211 fl_X10_252 rfl rfl sh_171 ?_
      refine a_eqtop (y0 := m 0 6 + 1) (by exact rd_si_eq) ?_
      refine a_iret eX10_reading_214 rfl rfl ⟨Nat.zero_le _, Nat.zero_le _⟩ ?_
      have hDj : dcnt x.toNat = j := by omega
      refine h1 ⟨hrr, h12, hlm, hx0, hD6, by rw [hDj]; exact hok⟩ _ (bookM_read hB wB (by exact rd_si_eq) (fun a i q1 q2 q3 => ?_) (fun i hi => ?_) ?_ ?_ ?_ (fun k k1 k2 => ?_)) ⟨fun a i q q9 => ?_, f1.2⟩
      · simp only [rd_si]; (repeat rw [if_neg (by omega)]); exact f1.1 a i (by omega)
      · simp only [rd_si]; (repeat rw [if_neg (by omega)]); exact hlo i hi
      · simp only [rd_si, and_self, true_and, and_true]; (repeat (first | rw [if_neg (by omega)] | rw [if_pos True.intro])); (first | done | rfl)
      · simp only [rd_si, and_self, true_and, and_true]; (repeat (first | rw [if_neg (by omega)] | rw [if_pos True.intro])); (first | done | rfl)
      · simp only [rd_si, and_self, true_and, and_true]; (repeat (first | rw [if_neg (by omega)] | rw [if_pos True.intro])); (first | done | rfl)
      · simp only [rd_si]; (repeat rw [if_neg (by omega)]); exact hw k (by omega) k2
      · simp only [rd_si]; (repeat rw [if_neg (by omega)]); exact f1.1 a i (by omega)
    · skip
      exfalso; omega
  | succ n ih =>
    intro j σ1 lx hm hj hok f1 hlo hw
    obtain ⟨c1, c2, c3, c4, c5, c6, c7⟩ := id hM
    obtain ⟨w1, w2, w3, w4, w5, w6, w7, w8⟩ := id wC
    obtain ⟨d1, d2, d3, d4, d5, d6, d7⟩ := id hM2
    obtain ⟨v1, v2, v3, v4, v5, v6, v7, v8⟩ := id wD
    simp only [Int.zero_add] at d4 d5 d6 d7 v4 v5 v6 v7 v8
    have hR : σ1.2.2 = RF tw cs := by rw [f1.2]; exact hR
    obtain ⟨b1, b2⟩ := id hB
    have z1 := wB.1
    have hn1 : σ1.1 171 30 = m 0 6 := (f1.1 _ _ (by omega)).trans b1
    have hc1 : σ1.1 171 22 = m 0 4 := (f1.1 _ _ (by omega)).trans d2
    have hq : x.toNat / 17 ^ j ≤ x.toNat := Nat.div_le_self _ _
    have hdg : dg x.toNat j = x.toNat / 17 ^ j % 17 := rfl
    have hdgs := dg_s x.toNat j
    generalize x.toNat / 17 ^ j = q at *
    have hmb := rdm_b x.toNat j
    have hdn : ((dg x.toNat j : Int) - 1).toNat = dg x.toNat j - 1 := by omega
    refine a_ild7 eX10_reading_94 ?_
    refine a_if_lt 169 eX10_reading_96 (by decide) (by omega) (fun hT96 => ?_) (fun hF96 => ?_)
    · skip
      refine a_ald0 eX10_reading_169 ?_
      refine a_getR 31 188 eX10_reading_170 fl_X10_60 rfl rfl sh_171 ((congrFun (congrFun hR _) _).trans rf_171_31) ?_
      refine a_ald0 eX10_reading_173 ?_
      refine a_getI 30 eX10_reading_174 fl_X10_252 rfl rfl sh_171 ?_
      refine a_eqtop (y0 := m 0 6) (by exact hn1) ?_
      refine a_ild1 eX10_reading_177 ?_
      refine a_iast eX10_reading_178 sh_188 rfl (by omega) ?_
      refine a_ald0 eX10_reading_179 ?_
      refine a_getR 32 189 eX10_reading_180 fl_X10_63 rfl rfl sh_171 ((congrFun (congrFun hR _) _).trans rf_171_32) ?_
      refine a_ald0 eX10_reading_183 ?_
      refine a_getI 30 eX10_reading_184 fl_X10_252 rfl rfl sh_171 ?_
      refine a_eqtop (y0 := m 0 6) (by simp only [rd_si]; (repeat rw [if_neg (by omega)]); exact hn1) ?_
      refine a_ild2 eX10_reading_187 ?_
      refine a_iast eX10_reading_188 sh_189 rfl (by omega) ?_
      refine a_ald0 eX10_reading_189 ?_
      refine a_getR 33 190 eX10_reading_190 fl_X10_66 rfl rfl sh_171 ((congrFun (congrFun hR _) _).trans rf_171_33) ?_
      refine a_ald0 eX10_reading_193 ?_
      refine a_getI 30 eX10_reading_194 fl_X10_252 rfl rfl sh_171 ?_
      refine a_eqtop (y0 := m 0 6) (by simp only [rd_si]; (repeat rw [if_neg (by omega)]); exact hn1) ?_
      refine a_ild4 eX10_reading_197 ?_
      refine a_iast eX10_reading_199 sh_190 rfl (by omega) ?_
      refine a_ald0 eX10_reading_200 ?_
      refine a_dup eX10_reading_201 rfl ?_
      refine a_getI 30 eX10_reading_202 fl_X10_252 rfl rfl sh_171 ?_
      refine a_eqtop (y0 := m 0 6) (by simp only [rd_si]; (repeat rw [if_neg (by omega)]); exact hn1) ?_
      refine a_iconst eX10_reading_205 ?_
      refine a_iadd eX10_reading_206 ?_
      refine a_putI 30 eX10_reading_207 fl_X10_252 rfl rfl sh_171 (fun q h => Or.inl (by cases h; rfl)) ?_
      refine a_ald0 eX10_reading_210 ?_
      refine a_getI 30 eX10_reading_211 fl_X10_252 rfl rfl sh_171 ?_
      refine a_eqtop (y0 := m 0 6 + 1) (by exact rd_si_eq) ?_
      refine a_iret eX10_reading_214 rfl rfl ⟨Nat.zero_le _, Nat.zero_le _⟩ ?_
      have hDj : dcnt x.toNat = j := by omega
      refine h1 ⟨hrr, h12, hlm, hx0, hD6, by rw [hDj]; exact hok⟩ _ (bookM_read hB wB (by exact rd_si_eq) (fun a i q1 q2 q3 => ?_) (fun i hi => ?_) ?_ ?_ ?_ (fun k k1 k2 => ?_)) ⟨fun a i q q9 => ?_, f1.2⟩
      · simp only [rd_si]; (repeat rw [if_neg (by omega)]); exact f1.1 a i (by omega)
      · simp only [rd_si]; (repeat rw [if_neg (by omega)]); exact hlo i hi
      · simp only [rd_si, and_self, true_and, and_true]; (repeat (first | rw [if_neg (by omega)] | rw [if_pos True.intro])); (first | done | rfl)
      · simp only [rd_si, and_self, true_and, and_true]; (repeat (first | rw [if_neg (by omega)] | rw [if_pos True.intro])); (first | done | rfl)
      · simp only [rd_si, and_self, true_and, and_true]; (repeat (first | rw [if_neg (by omega)] | rw [if_pos True.intro])); (first | done | rfl)
      · simp only [rd_si]; (repeat rw [if_neg (by omega)]); exact hw k (by omega) k2
      · simp only [rd_si]; (repeat rw [if_neg (by omega)]); exact f1.1 a i (by omega)
    · skip
      refine a_ild6 eX10_reading_99 ?_
      refine a_bipush eX10_reading_101 (by decide) ?_
      refine a_irem eX10_reading_103 (by omega) (by omega) ?_
      refine a_eqtop (y0 := ((dg x.toNat j : Nat) : Int)) (by rw [hdg]; omega) ?_
      refine a_iconst eX10_reading_104 ?_
      refine a_isub eX10_reading_105 ?_
      refine a_ist8 eX10_reading_106 (by decide) aw_n2i ?_
      refine a_ild6 eX10_reading_108 ?_
      refine a_bipush eX10_reading_110 (by decide) ?_
      refine a_idiv eX10_reading_112 (by omega) (by omega) ?_
      refine a_eqtop (y0 := ((q / 17 : Nat) : Int)) (by omega) ?_
      refine a_ist6 eX10_reading_113 (by decide) aw_n2i ?_
      refine a_ald0 eX10_reading_115 ?_
      refine a_ild8 eX10_reading_116 ?_
      refine a_cV1 eX10_reading_118 lk_X10_273 mV_X10_isCab sh_171 ⟨_, rfl, rfl⟩ mt_X10_isCab rfl rfl rfl rfl rfl (c_X10_isCab (by omega) (by omega) (fun hT118 => ?_) (fun hF118 => ?_))
      · skip
        dsimp only [Option.toList, List.cons_append, List.nil_append]
        refine a_if_eq 135 eX10_reading_121 (by decide) (by omega) (fun h => absurd h (by decide)) (fun _ => ?_)
        have hbt := bt_div (rdm x.toNat j) (dg x.toNat j - 1)
        have hm2 : 0 ≤ ((rdm x.toNat j : Nat) : Int) / 2 ^ (dg x.toNat j - 1) % 2 ∧ ((rdm x.toNat j : Nat) : Int) / 2 ^ (dg x.toNat j - 1) % 2 < 2 := ⟨Int.emod_nonneg _ (by decide), Int.emod_lt_of_pos _ (by decide)⟩
        refine a_ild5 eX10_reading_124 ?_
        refine a_ild8 eX10_reading_126 ?_
        refine a_ishr (((rdm x.toNat j : Nat) : Int) / 2 ^ (dg x.toNat j - 1)) eX10_reading_128 (by rw [jI_shr (by omega) (by omega), hdn]) ?_
        refine a_iconst eX10_reading_129 ?_
        refine a_iand (((rdm x.toNat j : Nat) : Int) / 2 ^ (dg x.toNat j - 1) % 2) eX10_reading_130 (by rw [jI_and1 (Int.ediv_nonneg (by omega) (Int.pow_nonneg (by omega)))]) ?_
        refine a_iconst eX10_reading_131 ?_
        refine a_icmp_ne 137 eX10_reading_132 (by decide) (by omega) (fun hT132 => ?_) (fun hF132 => ?_)
        · skip
          have hb : (rdm x.toNat j).testBit (dg x.toNat j - 1) = false := Bool.eq_false_iff.mpr (fun z => by have := hbt.mp z; omega)
          refine a_ild5 eX10_reading_137 ?_
          refine a_iconst eX10_reading_139 ?_
          refine a_ild8 eX10_reading_140 ?_
          refine a_ishl (2 ^ (dg x.toNat j - 1)) eX10_reading_142 (by rw [pw_shl (by omega), hdn]) ?_
          refine a_ior ((rdm x.toNat j ||| 2 ^ (dg x.toNat j - 1) : Nat) : Int) eX10_reading_143 (by have h := aw_or16 (rdm x.toNat j) (k := (dg x.toNat j : Int) - 1) (by omega); rw [show ((dg x.toNat j : Int) - 1).toNat = dg x.toNat j - 1 by omega] at h; exact h) ?_
          refine a_ist5 eX10_reading_144 (by decide) aw_n2i ?_
          refine a_ald0 eX10_reading_146 ?_
          refine a_getR 34 191 eX10_reading_147 fl_X10_69 rfl rfl sh_171 ((congrFun (congrFun hR _) _).trans rf_171_34) ?_
          refine a_bipush eX10_reading_150 (by decide) ?_
          refine a_ald0 eX10_reading_152 ?_
          refine a_getI 30 eX10_reading_153 fl_X10_252 rfl rfl sh_171 ?_
          refine a_eqtop (y0 := m 0 6) (by exact hn1) ?_
          refine a_imul eX10_reading_156 ?_
          refine a_ild7 eX10_reading_157 ?_
          refine a_iadd eX10_reading_159 ?_
          refine a_ild8 eX10_reading_160 ?_
          refine a_iast eX10_reading_162 sh_191 rfl (by omega) ?_
          refine a_iinc7 eX10_reading_163 (by decide) aw_n2i ?_
          refine a_goto 94 eX10_reading_166 (by decide) ?_
          have ih1 := ih (j + 1) (aw_si σ1 191 (6 * m 0 6 + ((dcnt x.toNat : Int) - 1 - (j : Int))) ((dg x.toNat j : Int) - 1)) (some (.int (jI ((dg x.toNat j : Int) - 1)))) (by omega) (by omega) (rdok_s hok (by omega) hb) ⟨fun b i q => by simp only [rd_si]; rw [if_neg (by omega)]; exact f1.1 b i q, f1.2⟩ (fun i hi => by rw [rd_si_ni (by omega)]; exact hlo i hi) (fun k k1 k2 => ?_)
          · rw [hdgs, show (dcnt x.toNat : Int) - 1 - ((j + 1 : Nat) : Int) = (dcnt x.toNat : Int) - 1 - (j : Int) + -1 by omega, show rdm x.toNat (j + 1) = rdm x.toNat j ||| 2 ^ (dg x.toNat j - 1) from rfl] at ih1
            exact ih1
          · by_cases z : k = (dcnt x.toNat : Int) - 1 - (j : Int)
            · rw [z, rd_si_eq, show dcnt x.toNat - 1 - ((dcnt x.toNat : Int) - 1 - (j : Int)).toNat = j by omega]
            · rw [rd_si_ni (by omega)]
              exact hw k (by omega) k2
        · skip
          refine a_iconst eX10_reading_135 ?_
          refine a_iret eX10_reading_136 rfl rfl ⟨Nat.zero_le _, Nat.zero_le _⟩ ?_
          refine h0 (fun q => ?_) σ1 (bookM_cong hB wB (f1.1 _ _ (by omega)) (fun a i q1 q2 => f1.1 a i (by omega)) hlo) ⟨fun a j q _ => f1.1 a j (by omega), f1.2⟩
          have z := q.2.2.2.2.2 j (by omega)
          rw [hbt.mpr hF132] at z; exact absurd z.2 (by decide)
      · skip
        dsimp only [Option.toList, List.cons_append, List.nil_append]
        refine a_if_eq 135 eX10_reading_121 (by decide) (by omega) (fun _ => ?_) (fun h => absurd h (by decide))
        refine a_iconst eX10_reading_135 ?_
        refine a_iret eX10_reading_136 rfl rfl ⟨Nat.zero_le _, Nat.zero_le _⟩ ?_
        refine h0 (fun q => ?_) σ1 (bookM_cong hB wB (f1.1 _ _ (by omega)) (fun a i q1 q2 => f1.1 a i (by omega)) hlo) ⟨fun a j q _ => f1.1 a j (by omega), f1.2⟩
        have z := q.2.2.2.2.2 j (by omega)
        omega

set_option maxHeartbeats 4000000 in
set_option maxRecDepth 100000 in
theorem c_X10_reading {l : Launch} {σ : aw_S} {Post : Option Value → aw_S → Prop} {tw cs : Bool} (hR : σ.2.2 = RF tw cs) {m : mS} (hM : cityM σ m) (wC : wfCity m) {N : Int} (hM2 : dayM σ m) (wD : wfDay m 0 N) (hN : 0 ≤ N ∧ N ≤ 1000) (hB : bookM σ m) (wB : wfBook m) {r mi x : Int} (hr : (-2147483648 ≤ r ∧ r ≤ 2147483647) ∧ (-2147483648 ≤ mi ∧ mi ≤ 2147483647) ∧ (-2147483648 ≤ x ∧ x ≤ 2147483647)) (h1 : vread m r mi x → ∀ σ', bookM σ' (mread m r mi x) → frBM σ σ' → Post (some (.int (jI (m 0 6 + 1)))) σ') (h0 : ¬ vread m r mi x → ∀ σ', bookM σ' m → frBM σ σ' → Post (some (.int (jI (-1)))) σ')  : AE l yX10_reading cX10_reading 9 (some .int) 2 43 0 0 SH SH σ [.ref 171, .int (jI r), .int (jI mi), .int (jI x)] Post := by
  show AW l yX10_reading cX10_reading 9 (some .int) 2 43 0 0 SH Post SH 0 0 σ 0 [some (.ref 171), some (.int (jI r)), some (.int (jI mi)), some (.int (jI x)), none, none, none, none, none] []
  obtain ⟨c1, c2, c3, c4, c5, c6, c7⟩ := id hM
  obtain ⟨w1, w2, w3, w4, w5, w6, w7, w8⟩ := id wC
  obtain ⟨d1, d2, d3, d4, d5, d6, d7⟩ := id hM2
  obtain ⟨v1, v2, v3, v4, v5, v6, v7, v8⟩ := id wD
  simp only [Int.zero_add] at d4 d5 d6 d7 v4 v5 v6 v7 v8
  obtain ⟨b1, b2⟩ := id hB
  obtain ⟨z1, z2⟩ := id wB
  have hlm : 0 ≤ lmin m ∧ lmin m ≤ 2147483647 := by
    unfold lmin
    split
    · omega
    · have := (z2 (m 0 6 - 1) (by omega) (by omega)).2.1; omega
  have hdl := dcnt_le _ _ (Nat.le_refl x.toNat)
  refine a_ald0 eX10_reading_0 ?_
  refine a_ild1 eX10_reading_1 ?_
  refine a_cV1 eX10_reading_2 lk_X10_255 mV_X10_isRank sh_171 ⟨_, rfl, rfl⟩ mt_X10_isRank rfl rfl rfl rfl rfl (c_X10_isRank (by omega) (by omega) (fun hT2 => ?_) (fun hF2 => ?_))
  · skip
    dsimp only [Option.toList, List.cons_append, List.nil_append]
    refine a_if_eq 47 eX10_reading_5 (by decide) (by omega) (fun h => absurd h (by decide)) (fun _ => ?_)
    refine a_ild2 eX10_reading_8 ?_
    refine a_ald0 eX10_reading_9 ?_
    refine a_getI 30 eX10_reading_10 fl_X10_252 rfl rfl sh_171 ?_
    refine a_eqtop (y0 := m 0 6) (by exact b1) ?_
    refine a_if_ne 20 eX10_reading_13 (by decide) (by omega) (fun hT13 => ?_) (fun hF13 => ?_)
    · skip
      refine a_ald0 eX10_reading_20 ?_
      refine a_getR 32 189 eX10_reading_21 fl_X10_63 rfl rfl sh_171 ((congrFun (congrFun hR _) _).trans rf_171_32) ?_
      refine a_ald0 eX10_reading_24 ?_
      refine a_getI 30 eX10_reading_25 fl_X10_252 rfl rfl sh_171 ?_
      refine a_eqtop (y0 := m 0 6) (by exact b1) ?_
      refine a_iconst eX10_reading_28 ?_
      refine a_isub eX10_reading_29 ?_
      refine a_iald eX10_reading_30 sh_189 rfl (by omega) ?_
      refine a_eqtop (y0 := lmin m) (by unfold lmin; first | (rw [if_pos (by omega)]; done) | (rw [if_neg (by omega)]; exact (b2 _ (by omega) (by omega)).2.1)) ?_
      refine a_icmp_lt 47 eX10_reading_31 (by decide) (by omega) (fun hT31 => ?_) (fun hF31 => ?_)
      · skip
        refine a_iconst eX10_reading_47 ?_
        refine a_iret eX10_reading_48 rfl rfl ⟨Nat.zero_le _, Nat.zero_le _⟩ ?_
        exact h0 (fun q => by unfold vread at q; omega) σ hB ⟨fun _ _ _ _ => rfl, rfl⟩
      · skip
        refine a_ild3 eX10_reading_34 ?_
        refine a_if_lt 47 eX10_reading_35 (by decide) (by omega) (fun hT35 => ?_) (fun hF35 => ?_)
        · skip
          refine a_iconst eX10_reading_47 ?_
          refine a_iret eX10_reading_48 rfl rfl ⟨Nat.zero_le _, Nat.zero_le _⟩ ?_
          exact h0 (fun q => by unfold vread at q; omega) σ hB ⟨fun _ _ _ _ => rfl, rfl⟩
        · skip
          refine a_ald0 eX10_reading_38 ?_
          refine a_getI 30 eX10_reading_39 fl_X10_252 rfl rfl sh_171 ?_
          refine a_eqtop (y0 := m 0 6) (by exact b1) ?_
          refine a_bipush eX10_reading_42 (by decide) ?_
          refine a_icmp_ne 49 eX10_reading_44 (by decide) (by omega) (fun hT44 => ?_) (fun hF44 => ?_)
          · skip
            refine a_iconst eX10_reading_49 ?_
            refine a_ist4 eX10_reading_50 (by decide) aw_n2i ?_
            refine a_ild3 eX10_reading_52 ?_
            refine a_ist5 eX10_reading_53 (by decide) aw_n2i ?_
            refine lp_rmC (D := dcnt x.toNat) ?_ _ 0 x (Nat.le_refl _) (by omega) (by omega)
            refine a_ild4 eX10_reading_73 ?_
            refine a_bipush eX10_reading_75 (by decide) ?_
            refine a_icmp_le 82 eX10_reading_77 (by decide) (by omega) (fun hT77 => ?_) (fun hF77 => ?_)
            · skip
              refine a_iconst eX10_reading_82 ?_
              refine a_ist5 eX10_reading_83 (by decide) aw_n2i ?_
              refine a_ild3 eX10_reading_85 ?_
              refine a_ist6 eX10_reading_86 (by decide) aw_n2i ?_
              refine a_ild4 eX10_reading_88 ?_
              refine a_iconst eX10_reading_90 ?_
              refine a_isub eX10_reading_91 ?_
              refine a_ist7 eX10_reading_92 (by decide) aw_n2i ?_
              have h9 := lp_rmD (l := l) hR hM wC hM2 wD hN hB wB hr (by omega) (by omega) (by omega) (by omega) (by omega) h1 h0 _ 0 σ none (Nat.le_refl _) (Nat.zero_le _) (fun i hi => by omega) ⟨fun _ _ _ => rfl, rfl⟩ (fun _ _ => rfl) (fun k k1 k2 => by omega)
              rw [Nat.pow_zero, Nat.div_one, Int.toNat_of_nonneg (by omega), show (dcnt x.toNat : Int) - 1 - ((0 : Nat) : Int) = (dcnt x.toNat : Int) - 1 by omega] at h9
              exact h9
            · skip
              refine a_iconst eX10_reading_80 ?_
              refine a_iret eX10_reading_81 rfl rfl ⟨Nat.zero_le _, Nat.zero_le _⟩ ?_
              exact h0 (fun q => by unfold vread at q; omega) σ hB ⟨fun _ _ _ _ => rfl, rfl⟩
          · skip
            refine a_iconst eX10_reading_47 ?_
            refine a_iret eX10_reading_48 rfl rfl ⟨Nat.zero_le _, Nat.zero_le _⟩ ?_
            exact h0 (fun q => by unfold vread at q; omega) σ hB ⟨fun _ _ _ _ => rfl, rfl⟩
    · skip
      refine a_iconst eX10_reading_16 ?_
      refine a_goto 31 eX10_reading_17 (by decide) ?_
      refine a_eqtop (y0 := lmin m) (by unfold lmin; first | (rw [if_pos (by omega)]; done) | (rw [if_neg (by omega)]; exact (b2 _ (by omega) (by omega)).2.1)) ?_
      refine a_icmp_lt 47 eX10_reading_31 (by decide) (by omega) (fun hT31 => ?_) (fun hF31 => ?_)
      · skip
        refine a_iconst eX10_reading_47 ?_
        refine a_iret eX10_reading_48 rfl rfl ⟨Nat.zero_le _, Nat.zero_le _⟩ ?_
        exact h0 (fun q => by unfold vread at q; omega) σ hB ⟨fun _ _ _ _ => rfl, rfl⟩
      · skip
        refine a_ild3 eX10_reading_34 ?_
        refine a_if_lt 47 eX10_reading_35 (by decide) (by omega) (fun hT35 => ?_) (fun hF35 => ?_)
        · skip
          refine a_iconst eX10_reading_47 ?_
          refine a_iret eX10_reading_48 rfl rfl ⟨Nat.zero_le _, Nat.zero_le _⟩ ?_
          exact h0 (fun q => by unfold vread at q; omega) σ hB ⟨fun _ _ _ _ => rfl, rfl⟩
        · skip
          refine a_ald0 eX10_reading_38 ?_
          refine a_getI 30 eX10_reading_39 fl_X10_252 rfl rfl sh_171 ?_
          refine a_eqtop (y0 := m 0 6) (by exact b1) ?_
          refine a_bipush eX10_reading_42 (by decide) ?_
          refine a_icmp_ne 49 eX10_reading_44 (by decide) (by omega) (fun hT44 => ?_) (fun hF44 => ?_)
          · skip
            refine a_iconst eX10_reading_49 ?_
            refine a_ist4 eX10_reading_50 (by decide) aw_n2i ?_
            refine a_ild3 eX10_reading_52 ?_
            refine a_ist5 eX10_reading_53 (by decide) aw_n2i ?_
            refine lp_rmC (D := dcnt x.toNat) ?_ _ 0 x (Nat.le_refl _) (by omega) (by omega)
            refine a_ild4 eX10_reading_73 ?_
            refine a_bipush eX10_reading_75 (by decide) ?_
            refine a_icmp_le 82 eX10_reading_77 (by decide) (by omega) (fun hT77 => ?_) (fun hF77 => ?_)
            · skip
              refine a_iconst eX10_reading_82 ?_
              refine a_ist5 eX10_reading_83 (by decide) aw_n2i ?_
              refine a_ild3 eX10_reading_85 ?_
              refine a_ist6 eX10_reading_86 (by decide) aw_n2i ?_
              refine a_ild4 eX10_reading_88 ?_
              refine a_iconst eX10_reading_90 ?_
              refine a_isub eX10_reading_91 ?_
              refine a_ist7 eX10_reading_92 (by decide) aw_n2i ?_
              have h9 := lp_rmD (l := l) hR hM wC hM2 wD hN hB wB hr (by omega) (by omega) (by omega) (by omega) (by omega) h1 h0 _ 0 σ none (Nat.le_refl _) (Nat.zero_le _) (fun i hi => by omega) ⟨fun _ _ _ => rfl, rfl⟩ (fun _ _ => rfl) (fun k k1 k2 => by omega)
              rw [Nat.pow_zero, Nat.div_one, Int.toNat_of_nonneg (by omega), show (dcnt x.toNat : Int) - 1 - ((0 : Nat) : Int) = (dcnt x.toNat : Int) - 1 by omega] at h9
              exact h9
            · skip
              refine a_iconst eX10_reading_80 ?_
              refine a_iret eX10_reading_81 rfl rfl ⟨Nat.zero_le _, Nat.zero_le _⟩ ?_
              exact h0 (fun q => by unfold vread at q; omega) σ hB ⟨fun _ _ _ _ => rfl, rfl⟩
          · skip
            refine a_iconst eX10_reading_47 ?_
            refine a_iret eX10_reading_48 rfl rfl ⟨Nat.zero_le _, Nat.zero_le _⟩ ?_
            exact h0 (fun q => by unfold vread at q; omega) σ hB ⟨fun _ _ _ _ => rfl, rfl⟩
  · skip
    dsimp only [Option.toList, List.cons_append, List.nil_append]
    refine a_if_eq 47 eX10_reading_5 (by decide) (by omega) (fun _ => ?_) (fun h => absurd h (by decide))
    refine a_iconst eX10_reading_47 ?_
    refine a_iret eX10_reading_48 rfl rfl ⟨Nat.zero_le _, Nat.zero_le _⟩ ?_
    exact h0 (fun q => by unfold vread at q; omega) σ hB ⟨fun _ _ _ _ => rfl, rfl⟩
