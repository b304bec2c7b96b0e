theorem bt_lift (A L k : Nat) : (A &&& (A ^^^ L)).testBit k = true ↔ (A.testBit k = true ∧ L.testBit k = false) := by
  rw [Nat.testBit_and, Nat.testBit_xor]
  cases A.testBit k <;> cases L.testBit k <;> decide
theorem lift_zero {A L : Nat} : A &&& (A ^^^ L) = 0 ↔ ∀ k, ¬ (A.testBit k = true ∧ L.testBit k = false) := by
  constructor
  · intro h k hk
    exact nz_of_bit ((bt_lift A L k).mpr hk) h
  · intro h
    apply Classical.byContradiction
    intro hn
    obtain ⟨k, hk⟩ := bit_of_nz hn
    exact h k ((bt_lift A L k).mp hk)
theorem lift_and {A L S : Nat} : (A &&& (A ^^^ L)) &&& S = 0 ↔ ∀ k, ¬ ((A.testBit k = true ∧ L.testBit k = false) ∧ S.testBit k = true) := by
  constructor
  · intro h k hk
    refine nz_of_bit (k := k) ?_ h
    rw [Nat.testBit_and, (bt_lift A L k).mpr hk.1, hk.2]
    rfl
  · intro h
    apply Classical.byContradiction
    intro hn
    obtain ⟨k, hk⟩ := bit_of_nz hn
    rw [Nat.testBit_and, Bool.and_eq_true] at hk
    exact h k ⟨(bt_lift A L k).mp hk.1, hk.2⟩
/-- what the bits of a RANK's LETS say -/
def aw_ls (A L S : Nat) : Prop := (∀ k, ¬ (A.testBit k = true ∧ L.testBit k = false)) ∨ ∃ k, (A.testBit k = true ∧ L.testBit k = false) ∧ S.testBit k = true
theorem jI_notN (L : Nat) : jI (L : Int) ^^^ jI (-1) = jI (-1 - (L : Int)) := by
  have e : jI (-1 - (L : Int)) = -jI (L : Int) - 1 := by
    rw [jI_neg, show (1 : Int32) = jI 1 from rfl, jI_sub]
    congr 1
    omega
  rw [e]
  apply Int32.toBitVec_inj.mp
  rw [Int32.toBitVec_xor, show (jI (-1)).toBitVec = BitVec.allOnes 32 by decide, BitVec.xor_allOnes]
  show ~~~ (jI (L : Int)).toBitVec = -(jI (L : Int)).toBitVec - 1#32
  rw [BitVec.neg_eq_not_add, BitVec.add_sub_cancel]
set_option maxHeartbeats 4000000 in
set_option maxRecDepth 100000 in
theorem c_X3_letsStand {l : Launch} {σ : aw_S} {Post : Option Value → aw_S → Prop} {a : Nat} (ha : isCity a) {r : Int} {S L : Nat} {tw cs : Bool} (hR : σ.2.2 = RF tw cs) (hr : 0 ≤ r ∧ r < 6) (hA : 0 ≤ σ.1 (a + 4) r ∧ σ.1 (a + 4) r ≤ 255) (hS : S < 256) (hL : L < 256) (h1 : aw_ls (σ.1 (a + 4) r).toNat L S → Post (some (.int (jI 1))) σ) (h0 : ¬ aw_ls (σ.1 (a + 4) r).toNat L S → Post (some (.int (jI 0))) σ) : AE l yX3_letsStand cX3_letsStand 5 (some .boolean) 0 0 0 0 SH SH σ [.ref a, .int (jI r), .int (jI (S : Int)), .int (jI (L : Int))] Post := by
  show AW l yX3_letsStand cX3_letsStand 5 (some .boolean) 0 0 0 0 SH Post SH 0 0 σ 0 [some (.ref a), some (.int (jI r)), some (.int (jI (S : Int))), some (.int (jI (L : Int))), none] []
  have hlt : (σ.1 (a + 4) r).toNat &&& ((σ.1 (a + 4) r).toNat ^^^ L) < 256 := Nat.and_lt_two_pow (n := 8) _ (Nat.xor_lt_two_pow (by omega) (by omega))
  have hlt2 : ((σ.1 (a + 4) r).toNat &&& ((σ.1 (a + 4) r).toNat ^^^ L)) &&& S < 256 := Nat.and_lt_two_pow (n := 8) _ (by omega)
  refine a_ald0 eX3_letsStand_0 ?_
  refine a_getR 5 (a + 4) eX3_letsStand_1 fl_X3_21 rfl rfl (sh_city ha) ((congrFun (congrFun hR _) _).trans (rf_city_5 ha)) ?_
  refine a_ild1 eX3_letsStand_4 ?_
  refine a_iald eX3_letsStand_5 (sh_city_4 ha) rfl (by omega) ?_
  refine a_ild3 eX3_letsStand_6 ?_
  refine a_iconst eX3_letsStand_7 ?_
  refine a_ixor (-1 - (L : Int)) eX3_letsStand_8 (jI_notN L) ?_
  refine a_iand (((σ.1 (a + 4) r).toNat &&& ((σ.1 (a + 4) r).toNat ^^^ L) : Nat) : Int) eX3_letsStand_9 (by rw [← jI_notN]; exact jI_andnot hA.1 (Int.natCast_nonneg L)) ?_
  refine a_ist4 eX3_letsStand_10 (by decide) aw_n2i ?_
  refine a_ild4 eX3_letsStand_12 ?_
  refine a_if_eq 24 eX3_letsStand_14 (by decide) (by omega) (fun hT14 => ?_) (fun hF14 => ?_)
  · skip
    refine a_iconst eX3_letsStand_24 ?_
    refine a_goto 29 eX3_letsStand_25 (by decide) ?_
    refine a_zret eX3_letsStand_29 rfl (by first | exact Or.inl rfl | exact Or.inr rfl | omega) rfl ⟨Nat.zero_le _, Nat.zero_le _⟩ ?_
    first | exact h1 (Or.inl (lift_zero.mp (by omega))) | exact h1 (by apply Classical.byContradiction; intro hn; exact absurd (lift_and.mpr (fun k hk => hn (Or.inr ⟨k, hk⟩))) (by omega)) | exact h0 (fun h => by rcases h with h | ⟨k, hk⟩; exact absurd (lift_zero.mpr h) (by omega); exact lift_and.mp (by omega) k hk)
  · skip
    refine a_ild4 eX3_letsStand_17 ?_
    refine a_ild2 eX3_letsStand_19 ?_
    refine a_iand ((((σ.1 (a + 4) r).toNat &&& ((σ.1 (a + 4) r).toNat ^^^ L)) &&& S : Nat) : Int) eX3_letsStand_20 (jI_and (Int.natCast_nonneg _) (Int.natCast_nonneg _)) ?_
    refine a_if_eq 28 eX3_letsStand_21 (by decide) (by omega) (fun hT21 => ?_) (fun hF21 => ?_)
    · skip
      refine a_iconst eX3_letsStand_28 ?_
      refine a_zret eX3_letsStand_29 rfl (by first | exact Or.inl rfl | exact Or.inr rfl | omega) rfl ⟨Nat.zero_le _, Nat.zero_le _⟩ ?_
      first | exact h1 (Or.inl (lift_zero.mp (by omega))) | exact h1 (by apply Classical.byContradiction; intro hn; exact absurd (lift_and.mpr (fun k hk => hn (Or.inr ⟨k, hk⟩))) (by omega)) | exact h0 (fun h => by rcases h with h | ⟨k, hk⟩; exact absurd (lift_zero.mpr h) (by omega); exact lift_and.mp (by omega) k hk)
    · skip
      refine a_iconst eX3_letsStand_24 ?_
      refine a_goto 29 eX3_letsStand_25 (by decide) ?_
      refine a_zret eX3_letsStand_29 rfl (by first | exact Or.inl rfl | exact Or.inr rfl | omega) rfl ⟨Nat.zero_le _, Nat.zero_le _⟩ ?_
      first | exact h1 (Or.inl (lift_zero.mp (by omega))) | exact h1 (by apply Classical.byContradiction; intro hn; exact absurd (lift_and.mpr (fun k hk => hn (Or.inr ⟨k, hk⟩))) (by omega)) | exact h0 (fun h => by rcases h with h | ⟨k, hk⟩; exact absurd (lift_zero.mpr h) (by omega); exact lift_and.mp (by omega) k hk)

/-- the LET k lets a plate of the zone stand in the hour (as City a has it) -/
def aw_hit (σ : aw_S) (a : Nat) (k z h : Int) : Prop := σ.1 (a + 5) k = z ∧ σ.1 (a + 6) k ≤ h ∧ h ≤ σ.1 (a + 7) k
theorem aw_pow8 {k : Int} (h : k < 8) : (1 : Int) * 2 ^ k.toNat < 4294967296 := by
  have h1 : (2 : Nat) ^ k.toNat < 2 ^ 8 := Nat.pow_lt_pow_right (by decide) (by omega)
  have e : ((2 ^ k.toNat : Nat) : Int) = 2 ^ k.toNat := by rw [Int.natCast_pow]; rfl
  omega
theorem aw_or_pow (B : Nat) {k : Int} (h : k < 8) : jI (B : Int) ||| jI (1 * 2 ^ k.toNat) = jI ((B ||| 2 ^ k.toNat : Nat) : Int) := by
  have e : (1 : Int) * 2 ^ k.toNat = ((2 ^ k.toNat : Nat) : Int) := by rw [Int.natCast_pow, Int.one_mul]; rfl
  rw [e]
  exact jI_or (Int.natCast_nonneg _) (Int.natCast_nonneg _)
set_option maxHeartbeats 4000000 in
set_option maxRecDepth 100000 in
theorem lp_saying {l : Launch} {σ : aw_S} {Post : Option Value → aw_S → Prop} {a : Nat} (ha : isCity a) {tw cs : Bool} (hR : σ.2.2 = RF tw cs) {z h : Int} (hz : 0 ≤ z ∧ z ≤ 3) (hh : 0 ≤ h ∧ h ≤ 23) (hl : 0 ≤ σ.1 a 4 ∧ σ.1 a 4 ≤ 8) (hb : ∀ k : Int, 0 ≤ k → k < σ.1 a 4 → (0 ≤ σ.1 (a + 5) k ∧ σ.1 (a + 5) k ≤ 3) ∧ (0 ≤ σ.1 (a + 6) k ∧ σ.1 (a + 6) k ≤ 23) ∧ (0 ≤ σ.1 (a + 7) k ∧ σ.1 (a + 7) k ≤ 23)) (hk : ∀ S : Nat, S < 256 → (∀ k : Nat, S.testBit k = true ↔ ((k : Int) < σ.1 a 4 ∧ aw_hit σ a (k : Int) z h)) → Post (some (.int (jI (S : Int)))) σ) : ∀ (n : Nat) (k : Int) (B : Nat), ((σ.1 a 4 - k).toNat ≤ n) → (0 ≤ k ∧ k ≤ σ.1 a 4) → (B < 256) → (∀ j : Nat, B.testBit j = true ↔ ((j : Int) < k ∧ aw_hit σ a (j : Int) z h)) → AW l yX3_saying cX3_saying 5 (some .int) 1 22 0 0 SH Post SH 0 0 (σ) 5 [some (.ref a), some (.int (jI z)), some (.int (jI h)), some (.int (jI (B : Int))), some (.int (jI k))] [] := by
  intro n
  induction n with
  | zero =>
    intro k B hm hkk hB8 hB
    refine a_ild4 eX3_saying_5 ?_
    refine a_ald0 eX3_saying_7 ?_
    refine a_getI 4 eX3_saying_8 fl_X3_43 rfl rfl (sh_city ha) ?_
    refine a_icmp_ge 59 eX3_saying_11 (by decide) (by omega) (fun hT11 => ?_) (fun hF11 => ?_)
    · skip
      refine a_ild3 eX3_saying_59 ?_
      refine a_iret eX3_saying_60 rfl rfl ⟨Nat.zero_le _, Nat.zero_le _⟩ ?_
      exact hk B hB8 (fun j => by rw [hB j]; constructor <;> rintro ⟨q1, q2⟩ <;> exact ⟨by omega, q2⟩)
    · skip
      exfalso; omega
  | succ n ih =>
    intro k B hm hkk hB8 hB
    refine a_ild4 eX3_saying_5 ?_
    refine a_ald0 eX3_saying_7 ?_
    refine a_getI 4 eX3_saying_8 fl_X3_43 rfl rfl (sh_city ha) ?_
    refine a_icmp_ge 59 eX3_saying_11 (by decide) (by omega) (fun hT11 => ?_) (fun hF11 => ?_)
    · skip
      refine a_ild3 eX3_saying_59 ?_
      refine a_iret eX3_saying_60 rfl rfl ⟨Nat.zero_le _, Nat.zero_le _⟩ ?_
      exact hk B hB8 (fun j => by rw [hB j]; constructor <;> rintro ⟨q1, q2⟩ <;> exact ⟨by omega, q2⟩)
    · skip
      have hbk := hb k (by omega) (by omega)
      refine a_ald0 eX3_saying_14 ?_
      refine a_getR 6 (a + 5) eX3_saying_15 fl_X3_24 rfl rfl (sh_city ha) ((congrFun (congrFun hR _) _).trans (rf_city_6 ha)) ?_
      refine a_ild4 eX3_saying_18 ?_
      refine a_iald eX3_saying_20 (sh_city_5 ha) rfl (by omega) ?_
      refine a_ild1 eX3_saying_21 ?_
      refine a_icmp_ne 53 eX3_saying_22 (by decide) (by omega) (fun hT22 => ?_) (fun hF22 => ?_)
      · skip
        refine a_iinc4 eX3_saying_53 (by decide) aw_n2i ?_
        refine a_goto 5 eX3_saying_56 (by decide) ?_
        exact ih (k + 1) B (by omega) (by omega) hB8 (fun j => by
          constructor
          · intro hj
            obtain ⟨q1, q2⟩ := (hB j).mp hj
            exact ⟨by omega, q2⟩
          · rintro ⟨q1, q2⟩
            by_cases e : (j : Int) < k
            · exact (hB j).mpr ⟨e, q2⟩
            · exfalso
              have e2 : (j : Int) = k := by omega
              rw [e2] at q2
              unfold aw_hit at q2
              omega)
      · skip
        refine a_ild2 eX3_saying_25 ?_
        refine a_ald0 eX3_saying_26 ?_
        refine a_getR 7 (a + 6) eX3_saying_27 fl_X3_27 rfl rfl (sh_city ha) ((congrFun (congrFun hR _) _).trans (rf_city_7 ha)) ?_
        refine a_ild4 eX3_saying_30 ?_
        refine a_iald eX3_saying_32 (sh_city_6 ha) rfl (by omega) ?_
        refine a_ald0 eX3_saying_33 ?_
        refine a_getR 8 (a + 7) eX3_saying_34 fl_X3_30 rfl rfl (sh_city ha) ((congrFun (congrFun hR _) _).trans (rf_city_8 ha)) ?_
        refine a_ild4 eX3_saying_37 ?_
        refine a_iald eX3_saying_39 (sh_city_7 ha) rfl (by omega) ?_
        refine a_cN3 eX3_saying_40 ln_X3_64 mS_X9_within mt_X9_within rfl rfl rfl rfl rfl rfl rfl (c_X9_within (by omega) (fun hT40 => ?_) (fun hF40 => ?_))
        · skip
          dsimp only [Option.toList, List.cons_append, List.nil_append]
          refine a_if_eq 53 eX3_saying_43 (by decide) (by omega) (fun h => absurd h (by decide)) (fun _ => ?_)
          refine a_ild3 eX3_saying_46 ?_
          refine a_iconst eX3_saying_47 ?_
          refine a_ild4 eX3_saying_48 ?_
          refine a_ishl (1 * 2 ^ k.toNat) eX3_saying_50 (jI_shl (by decide) (by omega) (aw_pow8 (by omega))) ?_
          refine a_ior ((B ||| 2 ^ k.toNat : Nat) : Int) eX3_saying_51 (aw_or_pow B (by omega)) ?_
          refine a_ist3 eX3_saying_52 (by decide) aw_n2i ?_
          refine a_iinc4 eX3_saying_53 (by decide) aw_n2i ?_
          refine a_goto 5 eX3_saying_56 (by decide) ?_
          refine ih (k + 1) (B ||| 2 ^ k.toNat) (by omega) (by omega) (Nat.or_lt_two_pow (n := 8) hB8 (Nat.pow_lt_pow_right (by decide) (by omega))) (fun j => ?_)
          rw [bt_or_pow, Bool.or_eq_true, hB j, decide_eq_true_iff]
          constructor
          · rintro (⟨q1, q2⟩ | q)
            · exact ⟨by omega, q2⟩
            · subst q
              have e : ((k.toNat : Nat) : Int) = k := Int.toNat_of_nonneg hkk.1
              rw [e]
              exact ⟨by omega, by unfold aw_hit; omega⟩
          · rintro ⟨q1, q2⟩
            by_cases e : (j : Int) < k
            · exact Or.inl ⟨e, q2⟩
            · exact Or.inr (by omega)
        · skip
          dsimp only [Option.toList, List.cons_append, List.nil_append]
          refine a_if_eq 53 eX3_saying_43 (by decide) (by omega) (fun _ => ?_) (fun h => absurd h (by decide))
          refine a_iinc4 eX3_saying_53 (by decide) aw_n2i ?_
          refine a_goto 5 eX3_saying_56 (by decide) ?_
          exact ih (k + 1) B (by omega) (by omega) hB8 (fun j => by
            constructor
            · intro hj
              obtain ⟨q1, q2⟩ := (hB j).mp hj
              exact ⟨by omega, q2⟩
            · rintro ⟨q1, q2⟩
              by_cases e : (j : Int) < k
              · exact (hB j).mpr ⟨e, q2⟩
              · exfalso
                have e2 : (j : Int) = k := by omega
                rw [e2] at q2
                unfold aw_hit at q2
                omega)

set_option maxHeartbeats 4000000 in
set_option maxRecDepth 100000 in
theorem c_X3_saying {l : Launch} {σ : aw_S} {Post : Option Value → aw_S → Prop} {a : Nat} (ha : isCity a) {tw cs : Bool} (hR : σ.2.2 = RF tw cs) {z h : Int} (hz : 0 ≤ z ∧ z ≤ 3) (hh : 0 ≤ h ∧ h ≤ 23) (hl : 0 ≤ σ.1 a 4 ∧ σ.1 a 4 ≤ 8) (hb : ∀ k : Int, 0 ≤ k → k < σ.1 a 4 → (0 ≤ σ.1 (a + 5) k ∧ σ.1 (a + 5) k ≤ 3) ∧ (0 ≤ σ.1 (a + 6) k ∧ σ.1 (a + 6) k ≤ 23) ∧ (0 ≤ σ.1 (a + 7) k ∧ σ.1 (a + 7) k ≤ 23)) (hk : ∀ S : Nat, S < 256 → (∀ k : Nat, S.testBit k = true ↔ ((k : Int) < σ.1 a 4 ∧ aw_hit σ a (k : Int) z h)) → Post (some (.int (jI (S : Int)))) σ) : AE l yX3_saying cX3_saying 5 (some .int) 1 22 0 0 SH SH σ [.ref a, .int (jI z), .int (jI h)] Post := by
  show AW l yX3_saying cX3_saying 5 (some .int) 1 22 0 0 SH Post SH 0 0 σ 0 [some (.ref a), some (.int (jI z)), some (.int (jI h)), none, none] []
  refine a_iconst eX3_saying_0 ?_
  refine a_ist3 eX3_saying_1 (by decide) aw_n2i ?_
  refine a_iconst eX3_saying_2 ?_
  refine a_ist4 eX3_saying_3 (by decide) aw_n2i ?_
  exact lp_saying ha hR hz hh hl hb hk _ 0 0 (Nat.le_refl _) (by omega) (by decide) (fun j => by simp; omega)
