set_option maxHeartbeats 4000000 in
set_option maxRecDepth 100000 in
theorem c_J6_bitCount_0f7a4 {l : Launch} {σ : aw_S} {Post : Option Value → aw_S → Prop} {x : Nat} (hx : x < 65536) (hk : Post (some (.int (jI ((pop x : Nat) : Int)))) σ) : AE l yJ6_bitCount_0f7a4 cJ6_bitCount_0f7a4 1 (some .int) 0 0 0 0 SH SH σ [.int (jI (x : Int))] Post := by
  show AW l yJ6_bitCount_0f7a4 cJ6_bitCount_0f7a4 1 (some .int) 0 0 0 0 SH Post SH 0 0 σ 0 [some (.int (jI (x : Int)))] []
  have b1 : bc1 x ≤ x := by unfold bc1; omega
  have b2 : bc2 (bc1 x) ≤ 2 * bc1 x := by unfold bc2; have h1 := bc_le (bc1 x) 858993459; have h2 := bc_le (bc1 x / 4) 858993459; omega
  have b3 : bc3 (bc2 (bc1 x)) ≤ 2 * bc2 (bc1 x) := by unfold bc3; have h1 := bc_le (bc2 (bc1 x) + bc2 (bc1 x) / 16) 252645135; omega
  have b4 : bc4 (bc3 (bc2 (bc1 x))) ≤ 2 * bc3 (bc2 (bc1 x)) := by unfold bc4; omega
  have b5 : bc5 (bc4 (bc3 (bc2 (bc1 x)))) ≤ 2 * bc4 (bc3 (bc2 (bc1 x))) := by unfold bc5; omega
  have h0 := bc_le (x / 2) 1431655765
  refine a_ild0 eJ6_bitCount_0f7a4_0 ?_
  refine a_ild0 eJ6_bitCount_0f7a4_1 ?_
  refine a_iconst eJ6_bitCount_0f7a4_2 ?_
  refine a_iushr ((x / 2 ^ 1 : Nat) : Int) eJ6_bitCount_0f7a4_3 (jN_ushr (k := 1) (by omega) (by omega)) ?_
  refine a_ldcw (1431655765) (by decide) eJ6_bitCount_0f7a4_4 kc_J6_265 ?_
  refine a_iand ((x / 2 ^ 1 &&& 1431655765 : Nat) : Int) eJ6_bitCount_0f7a4_7 (jN_and _ 1431655765) ?_
  refine a_isub eJ6_bitCount_0f7a4_8 ?_
  refine a_eqtop (y0 := ((bc1 x : Nat) : Int)) (by unfold bc1; rw [Nat.pow_one]; omega) ?_
  refine a_ist0 eJ6_bitCount_0f7a4_9 (by decide) ?_
  refine a_ild0 eJ6_bitCount_0f7a4_10 ?_
  refine a_ldcw (858993459) (by decide) eJ6_bitCount_0f7a4_11 kc_J6_266 ?_
  refine a_iand ((bc1 x &&& 858993459 : Nat) : Int) eJ6_bitCount_0f7a4_14 (jN_and _ 858993459) ?_
  refine a_ild0 eJ6_bitCount_0f7a4_15 ?_
  refine a_iconst eJ6_bitCount_0f7a4_16 ?_
  refine a_iushr ((bc1 x / 2 ^ 2 : Nat) : Int) eJ6_bitCount_0f7a4_17 (jN_ushr (k := 2) (by omega) (by omega)) ?_
  refine a_ldcw (858993459) (by decide) eJ6_bitCount_0f7a4_18 kc_J6_266 ?_
  refine a_iand ((bc1 x / 2 ^ 2 &&& 858993459 : Nat) : Int) eJ6_bitCount_0f7a4_21 (jN_and _ 858993459) ?_
  refine a_iadd eJ6_bitCount_0f7a4_22 ?_
  refine a_eqtop (y0 := ((bc2 (bc1 x) : Nat) : Int)) (by rw [show (2 ^ 2 : Nat) = 4 from rfl]; unfold bc2; omega) ?_
  refine a_ist0 eJ6_bitCount_0f7a4_23 (by decide) ?_
  refine a_ild0 eJ6_bitCount_0f7a4_24 ?_
  refine a_ild0 eJ6_bitCount_0f7a4_25 ?_
  refine a_iconst eJ6_bitCount_0f7a4_26 ?_
  refine a_iushr ((bc2 (bc1 x) / 2 ^ 4 : Nat) : Int) eJ6_bitCount_0f7a4_27 (jN_ushr (k := 4) (by omega) (by omega)) ?_
  refine a_iadd eJ6_bitCount_0f7a4_28 ?_
  refine a_eqtop (y0 := ((bc2 (bc1 x) + bc2 (bc1 x) / 16 : Nat) : Int)) (by rw [show (2 ^ 4 : Nat) = 16 from rfl]; omega) ?_
  refine a_ldcw (252645135) (by decide) eJ6_bitCount_0f7a4_29 kc_J6_267 ?_
  refine a_iand ((bc2 (bc1 x) + bc2 (bc1 x) / 16 &&& 252645135 : Nat) : Int) eJ6_bitCount_0f7a4_32 (jN_and _ 252645135) ?_
  refine a_eqtop (y0 := ((bc3 (bc2 (bc1 x)) : Nat) : Int)) (by rfl) ?_
  refine a_ist0 eJ6_bitCount_0f7a4_33 (by decide) ?_
  refine a_ild0 eJ6_bitCount_0f7a4_34 ?_
  refine a_ild0 eJ6_bitCount_0f7a4_35 ?_
  refine a_bipush eJ6_bitCount_0f7a4_36 (by decide) ?_
  refine a_iushr ((bc3 (bc2 (bc1 x)) / 2 ^ 8 : Nat) : Int) eJ6_bitCount_0f7a4_38 (jN_ushr (k := 8) (by omega) (by omega)) ?_
  refine a_iadd eJ6_bitCount_0f7a4_39 ?_
  refine a_eqtop (y0 := ((bc4 (bc3 (bc2 (bc1 x))) : Nat) : Int)) (by rw [show (2 ^ 8 : Nat) = 256 from rfl]; unfold bc4; omega) ?_
  refine a_ist0 eJ6_bitCount_0f7a4_40 (by decide) ?_
  refine a_ild0 eJ6_bitCount_0f7a4_41 ?_
  refine a_ild0 eJ6_bitCount_0f7a4_42 ?_
  refine a_bipush eJ6_bitCount_0f7a4_43 (by decide) ?_
  refine a_iushr ((bc4 (bc3 (bc2 (bc1 x))) / 2 ^ 16 : Nat) : Int) eJ6_bitCount_0f7a4_45 (jN_ushr (k := 16) (by omega) (by omega)) ?_
  refine a_iadd eJ6_bitCount_0f7a4_46 ?_
  refine a_eqtop (y0 := ((bc5 (bc4 (bc3 (bc2 (bc1 x)))) : Nat) : Int)) (by rw [show (2 ^ 16 : Nat) = 65536 from rfl]; unfold bc5; omega) ?_
  refine a_ist0 eJ6_bitCount_0f7a4_47 (by decide) ?_
  refine a_ild0 eJ6_bitCount_0f7a4_48 ?_
  refine a_bipush eJ6_bitCount_0f7a4_49 (by decide) ?_
  refine a_iand ((bc5 (bc4 (bc3 (bc2 (bc1 x)))) &&& 63 : Nat) : Int) eJ6_bitCount_0f7a4_51 (jN_and _ 63) ?_
  refine a_iret eJ6_bitCount_0f7a4_52 rfl rfl ⟨Nat.zero_le _, Nat.zero_le _⟩ ?_
  rw [← bcF_pop hx] at hk
  exact hk

set_option maxHeartbeats 4000000 in
set_option maxRecDepth 100000 in
theorem lp_ones {l : Launch} {σ : aw_S} {Post : Option Value → aw_S → Prop} {x : Nat} (hx : x < 65536) (hk : Post (some (.int (jI ((pop x : Nat) : Int)))) σ)  : ∀ (n : Nat) (i : Int), ((16 - i).toNat ≤ n) → (0 ≤ i ∧ i ≤ 16) → AW l yX10_ones cX10_ones 3 (some .int) 0 0 0 0 SH Post SH 0 0 (σ) 4 [some (.int (jI (x : Int))), some (.int (jI ((popN x i.toNat : Nat) : Int))), some (.int (jI i))] [] := by
  intro n
  induction n with
  | zero =>
    intro i hm hi
    refine a_ild2 eX10_ones_4 ?_
    refine a_bipush eX10_ones_5 (by decide) ?_
    refine a_icmp_ge 24 eX10_ones_7 (by decide) (by omega) (fun hT7 => ?_) (fun hF7 => ?_)
    · skip
      refine a_ild1 eX10_ones_24 ?_
      refine a_iret eX10_ones_25 rfl rfl ⟨Nat.zero_le _, Nat.zero_le _⟩ ?_
      rw [show i.toNat = 16 by omega]
      exact hk
    · skip
      exfalso; omega
  | succ n ih =>
    intro i hm hi
    refine a_ild2 eX10_ones_4 ?_
    refine a_bipush eX10_ones_5 (by decide) ?_
    refine a_icmp_ge 24 eX10_ones_7 (by decide) (by omega) (fun hT7 => ?_) (fun hF7 => ?_)
    · skip
      refine a_ild1 eX10_ones_24 ?_
      refine a_iret eX10_ones_25 rfl rfl ⟨Nat.zero_le _, Nat.zero_le _⟩ ?_
      rw [show i.toNat = 16 by omega]
      exact hk
    · skip
      refine a_ild1 eX10_ones_10 ?_
      refine a_ild0 eX10_ones_11 ?_
      refine a_ild2 eX10_ones_12 ?_
      refine a_ishr ((x / 2 ^ i.toNat : Nat) : Int) eX10_ones_13 (by rw [jI_shr (by omega) (by omega)]; congr 1) ?_
      refine a_iconst eX10_ones_14 ?_
      refine a_iand ((x / 2 ^ i.toNat % 2 : Nat) : Int) eX10_ones_15 (by rw [jI_and1 (Int.natCast_nonneg _)]; congr 1) ?_
      refine a_iadd eX10_ones_16 ?_
      refine a_eqtop (y0 := ((popN x i.toNat + x / 2 ^ i.toNat % 2 : Nat) : Int)) (by omega) ?_
      refine a_ist1 eX10_ones_17 (by decide) aw_n2i ?_
      refine a_iinc2 eX10_ones_18 (by decide) aw_n2i ?_
      refine a_goto 4 eX10_ones_21 (by decide) ?_
      have e1 : (popN x (i + 1).toNat : Nat) = popN x i.toNat + x / 2 ^ i.toNat % 2 := by rw [show (i + 1).toNat = i.toNat + 1 by omega]; rfl
      have ih1 := ih (i + 1) (by omega) (by omega)
      rw [e1] at ih1
      exact ih1

set_option maxHeartbeats 4000000 in
set_option maxRecDepth 100000 in
theorem c_X10_ones {l : Launch} {σ : aw_S} {Post : Option Value → aw_S → Prop} {x : Nat} (hx : x < 65536) (hk : Post (some (.int (jI ((pop x : Nat) : Int)))) σ)  : AE l yX10_ones cX10_ones 3 (some .int) 0 0 0 0 SH SH σ [.int (jI (x : Int))] Post := by
  show AW l yX10_ones cX10_ones 3 (some .int) 0 0 0 0 SH Post SH 0 0 σ 0 [some (.int (jI (x : Int))), none, none] []
  refine a_iconst eX10_ones_0 ?_
  refine a_ist1 eX10_ones_1 (by decide) aw_n2i ?_
  refine a_iconst eX10_ones_2 ?_
  refine a_ist2 eX10_ones_3 (by decide) aw_n2i ?_
  exact lp_ones hx hk _ 0 (Nat.le_refl _) (by omega)

/-! ===== the dead way ===== -/
noncomputable def wayR (m : mS) (c h : Int) (L : Nat) : Nat → Int
  | 0 => 100
  | r + 1 => @ite _ (mayst m (r : Int) (m (100 + c) 0) h L) (Classical.propDecidable _) (min (wayR m c h L r) (aw_ap (m 1 (r : Int)) (m (100 + c) 2))) (wayR m c h L r)
noncomputable def mdead (m : mS) (h : Int) (L : Nat) : Nat → Int
  | 0 => 0
  | c + 1 => if m (100 + (c : Int)) 1 = 0 then mdead m h L c + wayR m (c : Int) h L (m 0 0).toNat else mdead m h L c
theorem wayR_b {m : mS} {c h : Int} {L : Nat} (wC : wfCity m) (hp : 0 ≤ m (100 + c) 2 ∧ m (100 + c) 2 ≤ 99) : ∀ r : Nat, (r : Int) ≤ m 0 0 → 0 ≤ wayR m c h L r ∧ wayR m c h L r ≤ 100
  | 0, _ => by show (0 : Int) ≤ 100 ∧ (100 : Int) ≤ 100; omega
  | r + 1, hr => by
    have ih := wayR_b wC hp (h := h) (L := L) r (by omega)
    have hb := aw_ap_b ((wC.2.1 (r : Int) (by omega) (by omega)).1) hp
    unfold wayR
    split
    · omega
    · exact ih
theorem mdead_b {m : mS} {N h : Int} {L : Nat} (wC : wfCity m) (wD : wfDay m 0 N) : ∀ c : Nat, (c : Int) ≤ m 0 4 → 0 ≤ mdead m h L c ∧ mdead m h L c ≤ 100 * (c : Int)
  | 0, _ => by show (0 : Int) ≤ 0 ∧ (0 : Int) ≤ 100 * ((0 : Nat) : Int); omega
  | c + 1, hc => by
    have ih := mdead_b wC wD (h := h) (L := L) c (by omega)
    have h5 := (wfDay_0 wD).2.2.2.2.1 (c : Int) (by omega) (by omega)
    unfold wfCab at h5
    have hw := wayR_b wC h5.2.2.1 (h := h) (L := L) (m 0 0).toNat (by have := wC.1; omega)
    unfold mdead
    split <;> omega
theorem wayR_s {m : mS} {c h i : Int} {L : Nat} (hi : 0 ≤ i) : wayR m c h L (i + 1).toNat = @ite _ (mayst m i (m (100 + c) 0) h L) (Classical.propDecidable _) (min (wayR m c h L i.toNat) (aw_ap (m 1 i) (m (100 + c) 2))) (wayR m c h L i.toNat) := by
  rw [show (i + 1).toNat = i.toNat + 1 by omega]
  conv => lhs; unfold wayR
  rw [Int.toNat_of_nonneg hi]
theorem mdead_s {m : mS} {h i : Int} {L : Nat} (hi : 0 ≤ i) : mdead m h L (i + 1).toNat = if m (100 + i) 1 = 0 then mdead m h L i.toNat + wayR m i h L (m 0 0).toNat else mdead m h L i.toNat := by
  rw [show (i + 1).toNat = i.toNat + 1 by omega]
  conv => lhs; unfold mdead
  rw [Int.toNat_of_nonneg hi]
/-- what the class has in its row of sayings -/
def sayOK (σ : aw_S) (a : Nat) (h : Int) : Prop := ∀ z : Int, 0 ≤ z → z ≤ 3 → aw_bx (∃ S : Nat, S < 256 ∧ σ.1 63 z = (S : Int) ∧ ∀ k : Nat, S.testBit k = true ↔ ((k : Int) < σ.1 a 4 ∧ aw_hit σ a (k : Int) z h))
/-- a cell alone may have changed -/
def fr1 (c : Nat) (σ σ' : aw_S) : Prop := (∀ (a : Nat) (j : Int), a ≠ c → σ'.1 a j = σ.1 a j) ∧ σ'.2 = σ.2
set_option maxHeartbeats 4000000 in
set_option maxRecDepth 100000 in
theorem lp_prep {l : Launch} {σ : aw_S} {Post : Option Value → aw_S → Prop} {a : Nat} (ha : isCity a) {tw cs : Bool} (hR : σ.2.2 = RF tw cs) {m : mS} (hC : cityC σ a m) (wC : wfCity m) {h : Int} (hh : 0 ≤ h ∧ h ≤ 23) (hk : ∀ σ', fr1 63 σ σ' → sayOK σ' a h → Post none σ')  : ∀ (n : Nat) (i : Int) (σ1 : aw_S), ((4 - i).toNat ≤ n) → (0 ≤ i ∧ i ≤ 4) → (fr1 63 σ σ1) → (∀ z : Int, 0 ≤ z → z < i → aw_bx (∃ S : Nat, S < 256 ∧ σ1.1 63 z = (S : Int) ∧ ∀ k : Nat, S.testBit k = true ↔ ((k : Int) < σ.1 a 4 ∧ aw_hit σ a (k : Int) z h))) → AW l yX6_prepare cX6_prepare 4 (none : Option Jvm.ClassFile.FieldType) 2 46 0 0 SH Post SH 0 0 (σ1) 2 [some (.ref 62), some (.ref a), some (.int (jI h)), some (.int (jI i))] [] := by
  intro n
  induction n with
  | zero =>
    intro i σ1 hm hi f1 hs
    obtain ⟨c1, c2, c3, c4, c5, c6, c7, c8⟩ := id hC
    obtain ⟨y1, y2, y3, y4, y5, y6, y7, y8⟩ := id wC
    have ha2 : a ≤ 13 := by rcases ha with rfl | rfl <;> omega
    have hR : σ1.2.2 = RF tw cs := by rw [f1.2]; exact hR
    have fa : σ1.1 a 4 = σ.1 a 4 := f1.1 _ _ (by omega)
    have fa5 : ∀ j, σ1.1 (a + 5) j = σ.1 (a + 5) j := fun j => f1.1 _ _ (by omega)
    have fa6 : ∀ j, σ1.1 (a + 6) j = σ.1 (a + 6) j := fun j => f1.1 _ _ (by omega)
    have fa7 : ∀ j, σ1.1 (a + 7) j = σ.1 (a + 7) j := fun j => f1.1 _ _ (by omega)
    refine a_ild3 eX6_prepare_2 ?_
    refine a_iconst eX6_prepare_3 ?_
    refine a_icmp_ge 25 eX6_prepare_4 (by decide) (by omega) (fun hT4 => ?_) (fun hF4 => ?_)
    · skip
      refine a_vret eX6_prepare_25 rfl rfl ⟨Nat.zero_le _, Nat.zero_le _⟩ ?_
      refine hk σ1 f1 (fun z z1 z2 => ?_)
      obtain ⟨S, s1, s2, s3⟩ := aw_ub (hs z z1 (by omega))
      refine aw_mb ⟨S, s1, s2, fun k => (s3 k).trans ?_⟩
      rw [fa]
      unfold aw_hit
      rw [fa5, fa6, fa7]
    · skip
      exfalso; omega
  | succ n ih =>
    intro i σ1 hm hi f1 hs
    obtain ⟨c1, c2, c3, c4, c5, c6, c7, c8⟩ := id hC
    obtain ⟨y1, y2, y3, y4, y5, y6, y7, y8⟩ := id wC
    have ha2 : a ≤ 13 := by rcases ha with rfl | rfl <;> omega
    have hR : σ1.2.2 = RF tw cs := by rw [f1.2]; exact hR
    have fa : σ1.1 a 4 = σ.1 a 4 := f1.1 _ _ (by omega)
    have fa5 : ∀ j, σ1.1 (a + 5) j = σ.1 (a + 5) j := fun j => f1.1 _ _ (by omega)
    have fa6 : ∀ j, σ1.1 (a + 6) j = σ.1 (a + 6) j := fun j => f1.1 _ _ (by omega)
    have fa7 : ∀ j, σ1.1 (a + 7) j = σ.1 (a + 7) j := fun j => f1.1 _ _ (by omega)
    refine a_ild3 eX6_prepare_2 ?_
    refine a_iconst eX6_prepare_3 ?_
    refine a_icmp_ge 25 eX6_prepare_4 (by decide) (by omega) (fun hT4 => ?_) (fun hF4 => ?_)
    · skip
      refine a_vret eX6_prepare_25 rfl rfl ⟨Nat.zero_le _, Nat.zero_le _⟩ ?_
      refine hk σ1 f1 (fun z z1 z2 => ?_)
      obtain ⟨S, s1, s2, s3⟩ := aw_ub (hs z z1 (by omega))
      refine aw_mb ⟨S, s1, s2, fun k => (s3 k).trans ?_⟩
      rw [fa]
      unfold aw_hit
      rw [fa5, fa6, fa7]
    · skip
      refine a_ald0 eX6_prepare_7 ?_
      refine a_getR 0 63 eX6_prepare_8 fl_X6_9 rfl rfl sh_62 ((congrFun (congrFun hR _) _).trans rf_62_0) ?_
      refine a_ild3 eX6_prepare_11 ?_
      refine a_ald1 eX6_prepare_12 ?_
      refine a_ild3 eX6_prepare_13 ?_
      refine a_ild2 eX6_prepare_14 ?_
      refine a_cV2 eX6_prepare_15 lk_X6_15 mV_X3_saying (sh_city ha) ⟨_, rfl, rfl⟩ mt_X3_saying rfl rfl rfl rfl rfl rfl (c_X3_saying ha hR (by omega) (by omega) (by omega) (fun k k1 k2 => by rw [fa] at k2; rw [fa5, fa6, fa7]; have := c4 k k1 (by omega); have := y5 k k1 (by omega); omega) (fun S15 hS15 hT15 => ?_))
      dsimp only [Option.toList, List.cons_append, List.nil_append]
      refine a_iast eX6_prepare_18 sh_63 rfl (by omega) ?_
      refine a_iinc3 eX6_prepare_19 (by decide) aw_n2i ?_
      refine a_goto 2 eX6_prepare_22 (by decide) ?_
      refine ih (i + 1) _ (by omega) (by omega) ⟨fun b j q => by simp only [rd_si]; rw [if_neg (by omega)]; exact f1.1 b j q, f1.2⟩ (fun z z1 z2 => ?_)
      by_cases q : z = i
      · subst q
        refine aw_mb ⟨S15, hS15, rd_si_eq, fun k => (hT15 k).trans ?_⟩
        rw [fa]
        unfold aw_hit
        rw [fa5, fa6, fa7]
      · obtain ⟨S, s1, s2, s3⟩ := aw_ub (hs z z1 (by omega))
        exact aw_mb ⟨S, s1, (rd_si_ni q).trans s2, s3⟩

set_option maxHeartbeats 4000000 in
set_option maxRecDepth 100000 in
theorem c_X6_prepare {l : Launch} {σ : aw_S} {Post : Option Value → aw_S → Prop} {a : Nat} (ha : isCity a) {tw cs : Bool} (hR : σ.2.2 = RF tw cs) {m : mS} (hC : cityC σ a m) (wC : wfCity m) {h : Int} (hh : 0 ≤ h ∧ h ≤ 23) (hk : ∀ σ', fr1 63 σ σ' → sayOK σ' a h → Post none σ')  : AE l yX6_prepare cX6_prepare 4 (none : Option Jvm.ClassFile.FieldType) 2 46 0 0 SH SH σ [.ref 62, .ref a, .int (jI h)] Post := by
  show AW l yX6_prepare cX6_prepare 4 (none : Option Jvm.ClassFile.FieldType) 2 46 0 0 SH Post SH 0 0 σ 0 [some (.ref 62), some (.ref a), some (.int (jI h)), none] []
  refine a_iconst eX6_prepare_0 ?_
  refine a_ist3 eX6_prepare_1 (by decide) aw_n2i ?_
  exact lp_prep ha hR hC wC hh hk _ 0 σ (Nat.le_refl _) (by omega) ⟨fun _ _ _ => rfl, rfl⟩ (fun z z1 z2 => by omega)

set_option maxHeartbeats 4000000 in
set_option maxRecDepth 100000 in
theorem lp_wayH {l : Launch} {σ : aw_S} {Post : Option Value → aw_S → Prop} {a : Nat} (ha : isCity a) {tw cs : Bool} (hR : σ.2.2 = RF tw cs) {m : mS} (hC : cityC σ a m) (wC : wfCity m) {h c N : Int} {L : Nat} (hh : 0 ≤ h ∧ h ≤ 23) (hL : L < 256) (hs : sayOK σ a h) (hD : dayC σ 21 0 m) (wD : wfDay m 0 N) (hc : 0 ≤ c ∧ c < m 0 4) (hk : Post (some (.int (jI (wayR m c h L (m 0 0).toNat)))) σ)  : ∀ (n : Nat) (i : Int), ((m 0 0 - i).toNat ≤ n) → (0 ≤ i ∧ i ≤ m 0 0) → AW l yX6_wayHome cX6_wayHome 6 (some .int) 2 43 0 0 SH Post SH 0 0 (σ) 7 [some (.ref 62), some (.ref a), some (.ref (21 + 12 + c.toNat)), some (.int (jI (L : Int))), some (.int (jI (wayR m c h L i.toNat))), some (.int (jI i))] [] := by
  intro n
  induction n with
  | zero =>
    intro i hm hi
    obtain ⟨c1, c2, c3, c4, c5, c6, c7, c8⟩ := id hC
    obtain ⟨y1, y2, y3, y4, y5, y6, y7, y8⟩ := id wC
    have ha2 : a ≤ 13 := by rcases ha with rfl | rfl <;> omega
    obtain ⟨d1, d2, d3, d4, d5, d6, d7⟩ := id hD
    obtain ⟨v1, v2, v3, v4, v5, v6, v7, v8⟩ := wfDay_0 wD
    simp only [Int.zero_add] at d4 d5 d6 d7
    have w5 := v5 c (by omega) (by omega)
    unfold wfCab at w5
    have e0 := d5 c 0 (by omega) (by omega) (by omega) (by omega)
    have e2 := d5 c 2 (by omega) (by omega) (by omega) (by omega)
    obtain ⟨S, s1, s2, s3⟩ := aw_ub (hs (m (100 + c) 0) (by omega) (by omega))
    have hs3 := aw_mb s3
    clear s3
    have es := wayR_s (m := m) (c := c) (h := h) (L := L) (i := i) (by omega)
    have hw := wayR_b wC (c := c) (h := h) (L := L) (by omega) i.toNat (by omega)
    refine a_ild5 eX6_wayHome_7 ?_
    refine a_ald1 eX6_wayHome_9 ?_
    refine a_getI 0 eX6_wayHome_10 fl_X6_39 rfl rfl (sh_city ha) ?_
    refine a_eqtop (y0 := m 0 0) (by exact c1) ?_
    refine a_icmp_ge 58 eX6_wayHome_13 (by decide) (by omega) (fun hT13 => ?_) (fun hF13 => ?_)
    · skip
      refine a_ild4 eX6_wayHome_58 ?_
      refine a_iret eX6_wayHome_60 rfl rfl ⟨Nat.zero_le _, Nat.zero_le _⟩ ?_
      rw [show (m 0 0).toNat = i.toNat by omega] at hk
      exact hk
    · skip
      exfalso; omega
  | succ n ih =>
    intro i hm hi
    obtain ⟨c1, c2, c3, c4, c5, c6, c7, c8⟩ := id hC
    obtain ⟨y1, y2, y3, y4, y5, y6, y7, y8⟩ := id wC
    have ha2 : a ≤ 13 := by rcases ha with rfl | rfl <;> omega
    obtain ⟨d1, d2, d3, d4, d5, d6, d7⟩ := id hD
    obtain ⟨v1, v2, v3, v4, v5, v6, v7, v8⟩ := wfDay_0 wD
    simp only [Int.zero_add] at d4 d5 d6 d7
    have w5 := v5 c (by omega) (by omega)
    unfold wfCab at w5
    have e0 := d5 c 0 (by omega) (by omega) (by omega) (by omega)
    have e2 := d5 c 2 (by omega) (by omega) (by omega) (by omega)
    obtain ⟨S, s1, s2, s3⟩ := aw_ub (hs (m (100 + c) 0) (by omega) (by omega))
    have hs3 := aw_mb s3
    clear s3
    have es := wayR_s (m := m) (c := c) (h := h) (L := L) (i := i) (by omega)
    have hw := wayR_b wC (c := c) (h := h) (L := L) (by omega) i.toNat (by omega)
    refine a_ild5 eX6_wayHome_7 ?_
    refine a_ald1 eX6_wayHome_9 ?_
    refine a_getI 0 eX6_wayHome_10 fl_X6_39 rfl rfl (sh_city ha) ?_
    refine a_eqtop (y0 := m 0 0) (by exact c1) ?_
    refine a_icmp_ge 58 eX6_wayHome_13 (by decide) (by omega) (fun hT13 => ?_) (fun hF13 => ?_)
    · skip
      refine a_ild4 eX6_wayHome_58 ?_
      refine a_iret eX6_wayHome_60 rfl rfl ⟨Nat.zero_le _, Nat.zero_le _⟩ ?_
      rw [show (m 0 0).toNat = i.toNat by omega] at hk
      exact hk
    · skip
      have y2i := y2 i (by omega) (by omega)
      have c2i := c2 i (by omega) (by omega)
      have hab := aw_ap_b (a := m 1 i) (b := m (100 + c) 2) (by omega) (by omega)
      refine a_ald1 eX6_wayHome_16 ?_
      refine a_ild5 eX6_wayHome_17 ?_
      refine a_ald0 eX6_wayHome_19 ?_
      refine a_getR 0 63 eX6_wayHome_20 fl_X6_9 rfl rfl sh_62 ((congrFun (congrFun hR _) _).trans rf_62_0) ?_
      refine a_ald2 eX6_wayHome_23 ?_
      refine a_getI 0 eX6_wayHome_24 fl_X6_42 rfl rfl (sh_cab (Or.inl rfl) (by omega)) ?_
      refine a_eqtop (y0 := m (100 + c) 0) (by exact e0) ?_
      refine a_iald eX6_wayHome_27 sh_63 rfl (by omega) ?_
      refine a_eqtop (y0 := (S : Int)) (by exact s2) ?_
      refine a_ild3 eX6_wayHome_28 ?_
      refine a_cV3 eX6_wayHome_29 lk_X6_45 mV_X3_letsStand (sh_city ha) ⟨_, rfl, rfl⟩ mt_X3_letsStand rfl rfl rfl rfl rfl rfl rfl (c_X3_letsStand ha hR (by omega) (c5 _ (by omega) (by omega)).1 s1 hL (fun hT29 => ?_) (fun hF29 => ?_))
      · skip
        dsimp only [Option.toList, List.cons_append, List.nil_append]
        refine a_if_eq 52 eX6_wayHome_32 (by decide) (by omega) (fun h => absurd h (by decide)) (fun _ => ?_)
        refine a_ild4 eX6_wayHome_35 ?_
        refine a_ald1 eX6_wayHome_37 ?_
        refine a_ild5 eX6_wayHome_38 ?_
        refine a_ald2 eX6_wayHome_40 ?_
        refine a_getI 2 eX6_wayHome_41 fl_X6_49 rfl rfl (sh_cab (Or.inl rfl) (by omega)) ?_
        refine a_eqtop (y0 := m (100 + c) 2) (by exact e2) ?_
        refine a_cV2 eX6_wayHome_44 lk_X6_52 mV_X3_minutesTo (sh_city ha) ⟨_, rfl, rfl⟩ mt_X3_minutesTo rfl rfl rfl rfl rfl rfl (c_X3_minutesTo ha hR (by omega) (by omega) (by omega) ?_)
        dsimp only [Option.toList, List.cons_append, List.nil_append]
        refine a_eqtop (y0 := aw_ap (m 1 i) (m (100 + c) 2)) (by rw [c2i.1]) ?_
        refine a_mmin eX6_wayHome_47 lk_X6_55 (by omega) rfl rfl ?_
        refine a_eqtop (y0 := min (wayR m c h L i.toNat) (aw_ap (m 1 i) (m (100 + c) 2))) (by rw [Int.min_def]; split <;> split <;> omega) ?_
        refine a_ist4 eX6_wayHome_50 (by decide) aw_n2i ?_
        refine a_iinc5 eX6_wayHome_52 (by decide) aw_n2i ?_
        refine a_goto 7 eX6_wayHome_55 (by decide) ?_
        have ih1 := ih (i + 1) (by omega) (by omega)
        have hms := mayst_of_ls (h := h) (z := m (100 + c) 0) (r := i) (L := L) (S := S) hC ⟨by omega, by omega⟩ (aw_ub hs3)
        rw [es] at ih1
        first
          | (rw [if_pos (hms.mp hT29)] at ih1; exact ih1)
          | (rw [if_neg (fun q => hF29 (hms.mpr q))] at ih1; exact ih1)
      · skip
        dsimp only [Option.toList, List.cons_append, List.nil_append]
        refine a_if_eq 52 eX6_wayHome_32 (by decide) (by omega) (fun _ => ?_) (fun h => absurd h (by decide))
        refine a_iinc5 eX6_wayHome_52 (by decide) aw_n2i ?_
        refine a_goto 7 eX6_wayHome_55 (by decide) ?_
        have ih1 := ih (i + 1) (by omega) (by omega)
        have hms := mayst_of_ls (h := h) (z := m (100 + c) 0) (r := i) (L := L) (S := S) hC ⟨by omega, by omega⟩ (aw_ub hs3)
        rw [es] at ih1
        first
          | (rw [if_pos (hms.mp hT29)] at ih1; exact ih1)
          | (rw [if_neg (fun q => hF29 (hms.mpr q))] at ih1; exact ih1)

set_option maxHeartbeats 4000000 in
set_option maxRecDepth 100000 in
theorem c_X6_wayHome {l : Launch} {σ : aw_S} {Post : Option Value → aw_S → Prop} {a : Nat} (ha : isCity a) {tw cs : Bool} (hR : σ.2.2 = RF tw cs) {m : mS} (hC : cityC σ a m) (wC : wfCity m) {h c N : Int} {L : Nat} (hh : 0 ≤ h ∧ h ≤ 23) (hL : L < 256) (hs : sayOK σ a h) (hD : dayC σ 21 0 m) (wD : wfDay m 0 N) (hc : 0 ≤ c ∧ c < m 0 4) (hk : Post (some (.int (jI (wayR m c h L (m 0 0).toNat)))) σ)  : AE l yX6_wayHome cX6_wayHome 6 (some .int) 2 43 0 0 SH SH σ [.ref 62, .ref a, .ref (21 + 12 + c.toNat), .int (jI (L : Int))] Post := by
  show AW l yX6_wayHome cX6_wayHome 6 (some .int) 2 43 0 0 SH Post SH 0 0 σ 0 [some (.ref 62), some (.ref a), some (.ref (21 + 12 + c.toNat)), some (.int (jI (L : Int))), none, none] []
  have y1 := wC.1
  obtain ⟨v1, v2, v3, v4, v5, v6, v7, v8⟩ := wfDay_0 wD
  refine a_bipush eX6_wayHome_0 (by decide) ?_
  refine a_ist4 eX6_wayHome_2 (by decide) aw_n2i ?_
  refine a_iconst eX6_wayHome_4 ?_
  refine a_ist5 eX6_wayHome_5 (by decide) aw_n2i ?_
  exact lp_wayH ha hR hC wC hh hL hs hD wD hc hk _ 0 (Nat.le_refl _) (by omega)

set_option maxHeartbeats 4000000 in
set_option maxRecDepth 100000 in
theorem lp_deadW {l : Launch} {σ : aw_S} {Post : Option Value → aw_S → Prop} {a : Nat} (ha : isCity a) {tw cs : Bool} (hR : σ.2.2 = RF tw cs) {m : mS} (hC : cityC σ a m) (wC : wfCity m) {h N : Int} {L : Nat} (hh : 0 ≤ h ∧ h ≤ 23) (hL : L < 256) (hs : sayOK σ a h) (hD : dayC σ 21 0 m) (wD : wfDay m 0 N) (hk : Post (some (.int (jI (mdead m h L (m 0 4).toNat)))) σ)  : ∀ (n : Nat) (i : Int), ((m 0 4 - i).toNat ≤ n) → (0 ≤ i ∧ i ≤ m 0 4) → AW l yX6_deadWay cX6_deadWay 6 (some .int) 3 68 0 0 SH Post SH 0 0 (σ) 6 [some (.ref 62), some (.ref a), some (.ref 21), some (.int (jI (L : Int))), some (.int (jI (mdead m h L i.toNat))), some (.int (jI i))] [] := by
  intro n
  induction n with
  | zero =>
    intro i hm hi
    obtain ⟨d1, d2, d3, d4, d5, d6, d7⟩ := id hD
    obtain ⟨v1, v2, v3, v4, v5, v6, v7, v8⟩ := wfDay_0 wD
    simp only [Int.zero_add] at d4 d5 d6 d7
    have es := mdead_s (m := m) (h := h) (L := L) (i := i) (by omega)
    have hw := mdead_b wC wD (h := h) (L := L) i.toNat (by omega)
    refine a_ild5 eX6_deadWay_6 ?_
    refine a_ald2 eX6_deadWay_8 ?_
    refine a_getI 1 eX6_deadWay_9 fl_X6_20 rfl rfl (sh_day (Or.inl rfl)) ?_
    refine a_eqtop (y0 := m 0 4) (by exact d2) ?_
    refine a_icmp_ge 52 eX6_deadWay_12 (by decide) (by omega) (fun hT12 => ?_) (fun hF12 => ?_)
    · skip
      refine a_ild4 eX6_deadWay_52 ?_
      refine a_iret eX6_deadWay_54 rfl rfl ⟨Nat.zero_le _, Nat.zero_le _⟩ ?_
      rw [show (m 0 4).toNat = i.toNat by omega] at hk
      exact hk
    · skip
      exfalso; omega
  | succ n ih =>
    intro i hm hi
    obtain ⟨d1, d2, d3, d4, d5, d6, d7⟩ := id hD
    obtain ⟨v1, v2, v3, v4, v5, v6, v7, v8⟩ := wfDay_0 wD
    simp only [Int.zero_add] at d4 d5 d6 d7
    have es := mdead_s (m := m) (h := h) (L := L) (i := i) (by omega)
    have hw := mdead_b wC wD (h := h) (L := L) i.toNat (by omega)
    refine a_ild5 eX6_deadWay_6 ?_
    refine a_ald2 eX6_deadWay_8 ?_
    refine a_getI 1 eX6_deadWay_9 fl_X6_20 rfl rfl (sh_day (Or.inl rfl)) ?_
    refine a_eqtop (y0 := m 0 4) (by exact d2) ?_
    refine a_icmp_ge 52 eX6_deadWay_12 (by decide) (by omega) (fun hT12 => ?_) (fun hF12 => ?_)
    · skip
      refine a_ild4 eX6_deadWay_52 ?_
      refine a_iret eX6_deadWay_54 rfl rfl ⟨Nat.zero_le _, Nat.zero_le _⟩ ?_
      rw [show (m 0 4).toNat = i.toNat by omega] at hk
      exact hk
    · skip
      have w5 := v5 i (by omega) (by omega)
      unfold wfCab at w5
      refine a_ald2 eX6_deadWay_15 ?_
      refine a_getR 2 (21 + 1) eX6_deadWay_16 fl_X6_26 rfl rfl (sh_day (Or.inl rfl)) ((congrFun (congrFun hR _) _).trans (rf_day_2 (Or.inl rfl))) ?_
      refine a_ild5 eX6_deadWay_19 ?_
      refine a_aald _ eX6_deadWay_21 (sh_day_1 (Or.inl rfl)) rfl rfl rfl (by omega) ((congrFun (congrFun hR _) _).trans (rf_cab (Or.inl rfl) (by omega))) ?_
      refine a_getI 1 eX6_deadWay_22 fl_X6_30 rfl rfl (sh_cab (Or.inl rfl) (by omega)) ?_
      refine a_eqtop (y0 := m (100 + i) 1) (by exact d5 i 1 (by omega) (by omega) (by omega) (by omega)) ?_
      refine a_if_ne 46 eX6_deadWay_25 (by decide) (by omega) (fun hT25 => ?_) (fun hF25 => ?_)
      · skip
        refine a_iinc5 eX6_deadWay_46 (by decide) aw_n2i ?_
        refine a_goto 6 eX6_deadWay_49 (by decide) ?_
        have ih1 := ih (i + 1) (by omega) (by omega)
        rw [es, if_neg (by omega)] at ih1
        exact ih1
      · skip
        refine a_ild4 eX6_deadWay_28 ?_
        refine a_ald0 eX6_deadWay_30 ?_
        refine a_ald1 eX6_deadWay_31 ?_
        refine a_ald2 eX6_deadWay_32 ?_
        refine a_getR 2 (21 + 1) eX6_deadWay_33 fl_X6_26 rfl rfl (sh_day (Or.inl rfl)) ((congrFun (congrFun hR _) _).trans (rf_day_2 (Or.inl rfl))) ?_
        refine a_ild5 eX6_deadWay_36 ?_
        refine a_aald _ eX6_deadWay_38 (sh_day_1 (Or.inl rfl)) rfl rfl rfl (by omega) ((congrFun (congrFun hR _) _).trans (rf_cab (Or.inl rfl) (by omega))) ?_
        refine a_ild3 eX6_deadWay_39 ?_
        refine a_cV3 eX6_deadWay_40 lk_X6_35 mV_X6_wayHome sh_62 ⟨_, rfl, rfl⟩ mt_X6_wayHome rfl rfl rfl rfl rfl rfl rfl (c_X6_wayHome ha hR hC wC hh hL hs hD wD (by omega) ?_)
        dsimp only [Option.toList, List.cons_append, List.nil_append]
        refine a_iadd eX6_deadWay_43 ?_
        refine a_ist4 eX6_deadWay_44 (by decide) aw_n2i ?_
        refine a_iinc5 eX6_deadWay_46 (by decide) aw_n2i ?_
        refine a_goto 6 eX6_deadWay_49 (by decide) ?_
        have ih1 := ih (i + 1) (by omega) (by omega)
        rw [es, if_pos (by omega)] at ih1
        exact ih1

set_option maxHeartbeats 4000000 in
set_option maxRecDepth 100000 in
theorem c_X6_deadWay {l : Launch} {σ : aw_S} {Post : Option Value → aw_S → Prop} {a : Nat} (ha : isCity a) {tw cs : Bool} (hR : σ.2.2 = RF tw cs) {m : mS} (hC : cityC σ a m) (wC : wfCity m) {h N : Int} {L : Nat} (hh : 0 ≤ h ∧ h ≤ 23) (hL : L < 256) (hs : sayOK σ a h) (hD : dayC σ 21 0 m) (wD : wfDay m 0 N) (hk : Post (some (.int (jI (mdead m h L (m 0 4).toNat)))) σ)  : AE l yX6_deadWay cX6_deadWay 6 (some .int) 3 68 0 0 SH SH σ [.ref 62, .ref a, .ref 21, .int (jI (L : Int))] Post := by
  show AW l yX6_deadWay cX6_deadWay 6 (some .int) 3 68 0 0 SH Post SH 0 0 σ 0 [some (.ref 62), some (.ref a), some (.ref 21), some (.int (jI (L : Int))), none, none] []
  obtain ⟨v1, v2, v3, v4, v5, v6, v7, v8⟩ := wfDay_0 wD
  refine a_iconst eX6_deadWay_0 ?_
  refine a_ist4 eX6_deadWay_1 (by decide) aw_n2i ?_
  refine a_iconst eX6_deadWay_3 ?_
  refine a_ist5 eX6_deadWay_4 (by decide) aw_n2i ?_
  exact lp_deadW ha hR hC wC hh hL hs hD wD hk _ 0 (Nat.le_refl _) (by omega)
