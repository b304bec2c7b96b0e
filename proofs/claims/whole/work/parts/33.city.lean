set_option maxHeartbeats 4000000 in
set_option maxRecDepth 100000 in
theorem lp_fill {l : Launch} {σ : aw_S} {Post : Option Value → aw_S → Prop} {a N : Nat} {v : Int} (hs : SH[a]? = some (.inr (0, N))) (hN : Nat.ble N 2147483647 = true) (hk : Post none (aw_sa σ a (fun j => if 0 ≤ j ∧ j < (N : Int) then v else σ.1 a j))) : ∀ (n : Nat) (i : Int), (((N : Int) - i).toNat ≤ n) → (0 ≤ i ∧ i ≤ (N : Int)) → AW l yJ7_fill_53178 cJ7_fill_53178 4 (none : Option Jvm.ClassFile.FieldType) 0 0 0 0 SH Post SH 0 0 (aw_sa σ a (fun j => if 0 ≤ j ∧ j < i then v else σ.1 a j)) 5 [some (.ref a), some (.int (jI v)), some (.int (jI i)), some (.int (jI (N : Int)))] [] := by
  intro n
  induction n with
  | zero =>
    intro i hm hi
    have hN2 := Nat.le_of_ble_eq_true hN
    refine a_ild2 eJ7_fill_53178_5 ?_
    refine a_ild3 eJ7_fill_53178_6 ?_
    refine a_icmp_ge 20 eJ7_fill_53178_7 (by decide) (by omega) (fun hT7 => ?_) (fun hF7 => ?_)
    · skip
      refine a_vret eJ7_fill_53178_20 rfl rfl ⟨Nat.zero_le _, Nat.zero_le _⟩ ?_
      exact aw_rets hk (aw_sa_congr (fun j => by rw [show i = (N : Int) by omega]))
    · skip
      exfalso; omega
  | succ n ih =>
    intro i hm hi
    have hN2 := Nat.le_of_ble_eq_true hN
    refine a_ild2 eJ7_fill_53178_5 ?_
    refine a_ild3 eJ7_fill_53178_6 ?_
    refine a_icmp_ge 20 eJ7_fill_53178_7 (by decide) (by omega) (fun hT7 => ?_) (fun hF7 => ?_)
    · skip
      refine a_vret eJ7_fill_53178_20 rfl rfl ⟨Nat.zero_le _, Nat.zero_le _⟩ ?_
      exact aw_rets hk (aw_sa_congr (fun j => by rw [show i = (N : Int) by omega]))
    · skip
      refine a_ald0 eJ7_fill_53178_10 ?_
      refine a_ild2 eJ7_fill_53178_11 ?_
      refine a_ild1 eJ7_fill_53178_12 ?_
      refine a_iast eJ7_fill_53178_13 hs hN (by omega) ?_
      refine a_iinc2 eJ7_fill_53178_14 (by decide) aw_n2i ?_
      refine a_goto 5 eJ7_fill_53178_17 (by decide) ?_
      refine AW.st (aw_si_sa σ a _ i v) ?_
      refine AW.st (aw_sa_congr (g' := fun j => if 0 ≤ j ∧ j < i + 1 then v else σ.1 a j) (fun j => ?_)) (ih (i + 1) (by omega) (by omega))
      by_cases h1 : j = i
      · rw [if_pos h1, if_pos (by omega)]
      · rw [if_neg h1]
        by_cases h2 : 0 ≤ j ∧ j < i
        · rw [if_pos h2, if_pos (by omega)]
        · rw [if_neg h2, if_neg (by omega)]

set_option maxHeartbeats 4000000 in
set_option maxRecDepth 100000 in
theorem c_J7_fill_53178 {l : Launch} {σ : aw_S} {Post : Option Value → aw_S → Prop} {a N : Nat} {v : Int} (hs : SH[a]? = some (.inr (0, N))) (hN : Nat.ble N 2147483647 = true) (hk : Post none (aw_sa σ a (fun j => if 0 ≤ j ∧ j < (N : Int) then v else σ.1 a j))) : AE l yJ7_fill_53178 cJ7_fill_53178 4 (none : Option Jvm.ClassFile.FieldType) 0 0 0 0 SH SH σ [.ref a, .int (jI v)] Post := by
  show AW l yJ7_fill_53178 cJ7_fill_53178 4 (none : Option Jvm.ClassFile.FieldType) 0 0 0 0 SH Post SH 0 0 σ 0 [some (.ref a), some (.int (jI v)), none, none] []
  refine a_iconst eJ7_fill_53178_0 ?_
  refine a_ist2 eJ7_fill_53178_1 (by decide) aw_n2i ?_
  refine a_ald0 eJ7_fill_53178_2 ?_
  refine a_alen eJ7_fill_53178_3 hs ?_
  refine a_ist3 eJ7_fill_53178_4 (by decide) aw_n2i ?_
  exact AW.st (aw_sa_self σ a (fun j => if_neg (by omega))).symm (lp_fill hs hN hk _ 0 (Nat.le_refl _) (by omega))

set_option maxHeartbeats 4000000 in
set_option maxRecDepth 100000 in
theorem c_X3_minutesTo {l : Launch} {σ : aw_S} {Post : Option Value → aw_S → Prop} {a : Nat} (ha : isCity a) {r p : Int} {tw cs : Bool} (hR : σ.2.2 = RF tw cs) (hr : 0 ≤ r ∧ r < 6) (hp : 0 ≤ p ∧ p ≤ 99) (hq : 0 ≤ σ.1 (a + 1) r ∧ σ.1 (a + 1) r ≤ 99) (hk : Post (some (.int (jI (aw_ap (σ.1 (a + 1) r) p)))) σ) : AE l yX3_minutesTo cX3_minutesTo 3 (some .int) 1 21 0 0 SH SH σ [.ref a, .int (jI r), .int (jI p)] Post := by
  show AW l yX3_minutesTo cX3_minutesTo 3 (some .int) 1 21 0 0 SH Post SH 0 0 σ 0 [some (.ref a), some (.int (jI r)), some (.int (jI p))] []
  refine a_ald0 eX3_minutesTo_0 ?_
  refine a_getR 1 (a + 1) eX3_minutesTo_1 fl_X3_9 rfl rfl (sh_city ha) ((congrFun (congrFun hR _) _).trans (rf_city_1 ha)) ?_
  refine a_ild1 eX3_minutesTo_4 ?_
  refine a_iald eX3_minutesTo_5 (sh_city_1 ha) rfl (by omega) ?_
  refine a_ild2 eX3_minutesTo_6 ?_
  refine a_isub eX3_minutesTo_7 ?_
  refine a_mabs eX3_minutesTo_8 lk_X3_58 (by omega) rfl rfl ?_
  refine a_iret eX3_minutesTo_11 rfl rfl ⟨Nat.zero_le _, Nat.zero_le _⟩ ?_
  exact aw_ret hk (by unfold aw_ap; split <;> split <;> omega)

set_option maxHeartbeats 4000000 in
set_option maxRecDepth 100000 in
theorem c_X3_room {l : Launch} {σ : aw_S} {Post : Option Value → aw_S → Prop} {a : Nat} (ha : isCity a) {r : Int} {tw cs : Bool} (hR : σ.2.2 = RF tw cs) (hr : 0 ≤ r ∧ r < 6) (hk : Post (some (.int (jI (σ.1 (a + 2) r + σ.1 (a + 3) r)))) σ) : AE l yX3_room cX3_room 2 (some .int) 0 0 0 0 SH SH σ [.ref a, .int (jI r)] Post := by
  show AW l yX3_room cX3_room 2 (some .int) 0 0 0 0 SH Post SH 0 0 σ 0 [some (.ref a), some (.int (jI r))] []
  refine a_ald0 eX3_room_0 ?_
  refine a_getR 2 (a + 2) eX3_room_1 fl_X3_15 rfl rfl (sh_city ha) ((congrFun (congrFun hR _) _).trans (rf_city_2 ha)) ?_
  refine a_ild1 eX3_room_4 ?_
  refine a_iald eX3_room_5 (sh_city_2 ha) rfl (by omega) ?_
  refine a_ald0 eX3_room_6 ?_
  refine a_getR 3 (a + 3) eX3_room_7 fl_X3_18 rfl rfl (sh_city ha) ((congrFun (congrFun hR _) _).trans (rf_city_3 ha)) ?_
  refine a_ild1 eX3_room_10 ?_
  refine a_iald eX3_room_11 (sh_city_3 ha) rfl (by omega) ?_
  refine a_iadd eX3_room_12 ?_
  refine a_iret eX3_room_13 rfl rfl ⟨Nat.zero_le _, Nat.zero_le _⟩ ?_
  exact hk

set_option maxHeartbeats 4000000 in
set_option maxRecDepth 100000 in
theorem c_X3_roundUp {l : Launch} {σ : aw_S} {Post : Option Value → aw_S → Prop} {v u : Int} (hr : 0 ≤ v ∧ v ≤ 1000000000 ∧ -1000000000 ≤ u ∧ u ≤ 1000000000) (hk : Post (some (.int (jI (aw_bg v u * u)))) σ) : AE l yX3_roundUp cX3_roundUp 2 (some .int) 1 21 0 0 SH SH σ [.int (jI v), .int (jI u)] Post := by
  show AW l yX3_roundUp cX3_roundUp 2 (some .int) 1 21 0 0 SH Post SH 0 0 σ 0 [some (.int (jI v)), some (.int (jI u))] []
  refine a_ild0 eX3_roundUp_0 ?_
  refine a_ild1 eX3_roundUp_1 ?_
  refine a_cS2 eX3_roundUp_2 lk_X3_74 mS_X3_begun mt_X3_begun rfl rfl rfl rfl rfl rfl (c_X3_begun (by omega) ?_)
  dsimp only [Option.toList, List.cons_append, List.nil_append]
  refine a_ild1 eX3_roundUp_5 ?_
  refine a_imul eX3_roundUp_6 ?_
  refine a_iret eX3_roundUp_7 rfl rfl ⟨Nat.zero_le _, Nat.zero_le _⟩ ?_
  exact hk

/-- what a fare costs -/
def aw_price (f0 f1 f2 f3 co m v : Int) : Int := (f0 + f1 * ((m + f2 - 1) / f2) + f3 * v + co - 1) / co * co
theorem aw_price_b {f0 f1 f2 f3 m v : Int} (h0 : 0 ≤ f0 ∧ f0 ≤ 999) (h1 : 0 ≤ f1 ∧ f1 ≤ 999) (h2 : 1 ≤ f2 ∧ f2 ≤ 99) (h3 : 0 ≤ f3 ∧ f3 ≤ 99) (hm : 1 ≤ m ∧ m ≤ 240) (hv : 0 ≤ v ∧ v ≤ 240) :
    0 ≤ (m + f2 - 1) / f2 ∧ (m + f2 - 1) / f2 ≤ 240 ∧ 0 ≤ f1 * ((m + f2 - 1) / f2) ∧ f1 * ((m + f2 - 1) / f2) ≤ 239760 ∧ 0 ≤ f3 * v ∧ f3 * v ≤ 23760 := by
  have a1 : 0 ≤ (m + f2 - 1) / f2 := Int.ediv_nonneg (by omega) (by omega)
  have a2 : (m + f2 - 1) / f2 ≤ 240 := by
    have h := (Int.ediv_lt_iff_lt_mul (a := m + f2 - 1) (b := 241) (c := f2) (by omega)).mpr (by
      have : 241 * 1 ≤ 241 * f2 := by omega
      rcases Int.lt_or_le f2 2 with h | h
      · have : f2 = 1 := by omega
        subst this; omega
      · have : (241 : Int) * f2 = f2 + 240 * f2 := by omega
        omega)
    omega
  have a3 : 0 ≤ f1 * ((m + f2 - 1) / f2) := Int.mul_nonneg h1.1 a1
  have a4 : f1 * ((m + f2 - 1) / f2) ≤ 999 * 240 := Int.mul_le_mul h1.2 a2 a1 (by omega)
  have a5 : 0 ≤ f3 * v := Int.mul_nonneg h3.1 hv.1
  have a6 : f3 * v ≤ 99 * 240 := Int.mul_le_mul h3.2 hv.2 hv.1 (by omega)
  omega
theorem aw_bg_pos {a u : Int} (h : 1 ≤ u) : aw_bg a u = (a + u - 1) / u := if_neg (by omega)
set_option maxHeartbeats 4000000 in
set_option maxRecDepth 100000 in
theorem c_X3_priceOf {l : Launch} {σ : aw_S} {Post : Option Value → aw_S → Prop} {a : Nat} (ha : isCity a) {m v : Int} (h0 : 0 ≤ σ.1 a 9 ∧ σ.1 a 9 ≤ 999) (h1 : 0 ≤ σ.1 a 10 ∧ σ.1 a 10 ≤ 999) (h2 : 1 ≤ σ.1 a 11 ∧ σ.1 a 11 ≤ 99) (h3 : 0 ≤ σ.1 a 12 ∧ σ.1 a 12 ≤ 99) (h4 : 1 ≤ σ.1 a 15 ∧ σ.1 a 15 ≤ 50) (hm : 1 ≤ m ∧ m ≤ 240) (hv : 0 ≤ v ∧ v ≤ 240) (hk : Post (some (.int (jI (aw_price (σ.1 a 9) (σ.1 a 10) (σ.1 a 11) (σ.1 a 12) (σ.1 a 15) m v)))) σ) : AE l yX3_priceOf cX3_priceOf 3 (some .int) 2 42 0 0 SH SH σ [.ref a, .int (jI m), .int (jI v)] Post := by
  show AW l yX3_priceOf cX3_priceOf 3 (some .int) 2 42 0 0 SH Post SH 0 0 σ 0 [some (.ref a), some (.int (jI m)), some (.int (jI v))] []
  have hb := aw_price_b h0 h1 h2 h3 hm hv
  have e1 : aw_bg m (σ.1 a 11) = (m + σ.1 a 11 - 1) / σ.1 a 11 := aw_bg_pos h2.1
  refine a_ald0 eX3_priceOf_0 ?_
  refine a_getI 9 eX3_priceOf_1 fl_X3_68 rfl rfl (sh_city ha) ?_
  refine a_ald0 eX3_priceOf_4 ?_
  refine a_getI 10 eX3_priceOf_5 fl_X3_71 rfl rfl (sh_city ha) ?_
  refine a_ild1 eX3_priceOf_8 ?_
  refine a_ald0 eX3_priceOf_9 ?_
  refine a_getI 11 eX3_priceOf_10 fl_X3_33 rfl rfl (sh_city ha) ?_
  refine a_cS2 eX3_priceOf_13 lk_X3_74 mS_X3_begun mt_X3_begun rfl rfl rfl rfl rfl rfl (c_X3_begun (by omega) ?_)
  dsimp only [Option.toList, List.cons_append, List.nil_append]
  refine a_imul eX3_priceOf_16 ?_
  refine a_iadd eX3_priceOf_17 ?_
  refine a_ald0 eX3_priceOf_18 ?_
  refine a_getI 12 eX3_priceOf_19 fl_X3_78 rfl rfl (sh_city ha) ?_
  refine a_ild2 eX3_priceOf_22 ?_
  refine a_imul eX3_priceOf_23 ?_
  refine a_iadd eX3_priceOf_24 ?_
  refine a_ald0 eX3_priceOf_25 ?_
  refine a_getI 15 eX3_priceOf_26 fl_X3_37 rfl rfl (sh_city ha) ?_
  refine a_cS2 eX3_priceOf_29 lk_X3_81 mS_X3_roundUp mt_X3_roundUp rfl rfl rfl rfl rfl rfl (c_X3_roundUp (by rw [e1]; omega) ?_)
  dsimp only [Option.toList, List.cons_append, List.nil_append]
  refine a_iret eX3_priceOf_32 rfl rfl ⟨Nat.zero_le _, Nat.zero_le _⟩ ?_
  exact aw_ret hk (by rw [e1, aw_bg_pos h4.1]; rfl)

set_option maxHeartbeats 4000000 in
set_option maxRecDepth 100000 in
theorem c_X10_priceOf {l : Launch} {σ : aw_S} {Post : Option Value → aw_S → Prop} {m v : Int} {tw cs : Bool} (hR : σ.2.2 = RF tw cs) (h0 : 0 ≤ σ.1 180 0 ∧ σ.1 180 0 ≤ 999) (h1 : 0 ≤ σ.1 180 1 ∧ σ.1 180 1 ≤ 999) (h2 : 1 ≤ σ.1 180 2 ∧ σ.1 180 2 ≤ 99) (h3 : 0 ≤ σ.1 180 3 ∧ σ.1 180 3 ≤ 99) (h4 : 1 ≤ σ.1 171 20 ∧ σ.1 171 20 ≤ 50) (hm : 1 ≤ m ∧ m ≤ 240) (hv : 0 ≤ v ∧ v ≤ 240) (hk : Post (some (.int (jI (aw_price (σ.1 180 0) (σ.1 180 1) (σ.1 180 2) (σ.1 180 3) (σ.1 171 20) m v)))) σ) : AE l yX10_priceOf cX10_priceOf 4 (some .int) 0 0 0 0 SH SH σ [.ref 171, .int (jI m), .int (jI v)] Post := by
  show AW l yX10_priceOf cX10_priceOf 4 (some .int) 0 0 0 0 SH Post SH 0 0 σ 0 [some (.ref 171), some (.int (jI m)), some (.int (jI v)), none] []
  have hb := aw_price_b h0 h1 h2 h3 hm hv
  refine a_ald0 eX10_priceOf_0 ?_
  refine a_getR 18 180 eX10_priceOf_1 fl_X10_36 rfl rfl sh_171 ((congrFun (congrFun hR _) _).trans rf_171_18) ?_
  refine a_iconst eX10_priceOf_4 ?_
  refine a_iald eX10_priceOf_5 sh_180 rfl (by omega) ?_
  refine a_ald0 eX10_priceOf_6 ?_
  refine a_getR 18 180 eX10_priceOf_7 fl_X10_36 rfl rfl sh_171 ((congrFun (congrFun hR _) _).trans rf_171_18) ?_
  refine a_iconst eX10_priceOf_10 ?_
  refine a_iald eX10_priceOf_11 sh_180 rfl (by omega) ?_
  refine a_ild1 eX10_priceOf_12 ?_
  refine a_ald0 eX10_priceOf_13 ?_
  refine a_getR 18 180 eX10_priceOf_14 fl_X10_36 rfl rfl sh_171 ((congrFun (congrFun hR _) _).trans rf_171_18) ?_
  refine a_iconst eX10_priceOf_17 ?_
  refine a_iald eX10_priceOf_18 sh_180 rfl (by omega) ?_
  refine a_iadd eX10_priceOf_19 ?_
  refine a_iconst eX10_priceOf_20 ?_
  refine a_isub eX10_priceOf_21 ?_
  refine a_ald0 eX10_priceOf_22 ?_
  refine a_getR 18 180 eX10_priceOf_23 fl_X10_36 rfl rfl sh_171 ((congrFun (congrFun hR _) _).trans rf_171_18) ?_
  refine a_iconst eX10_priceOf_26 ?_
  refine a_iald eX10_priceOf_27 sh_180 rfl (by omega) ?_
  refine a_idiv eX10_priceOf_28 (by omega) (by omega) ?_
  refine a_imul eX10_priceOf_29 ?_
  refine a_iadd eX10_priceOf_30 ?_
  refine a_ald0 eX10_priceOf_31 ?_
  refine a_getR 18 180 eX10_priceOf_32 fl_X10_36 rfl rfl sh_171 ((congrFun (congrFun hR _) _).trans rf_171_18) ?_
  refine a_iconst eX10_priceOf_35 ?_
  refine a_iald eX10_priceOf_36 sh_180 rfl (by omega) ?_
  refine a_ild2 eX10_priceOf_37 ?_
  refine a_imul eX10_priceOf_38 ?_
  refine a_iadd eX10_priceOf_39 ?_
  refine a_ist3 eX10_priceOf_40 (by decide) aw_n2i ?_
  refine a_ild3 eX10_priceOf_41 ?_
  refine a_ald0 eX10_priceOf_42 ?_
  refine a_getI 20 eX10_priceOf_43 fl_X10_241 rfl rfl sh_171 ?_
  refine a_iadd eX10_priceOf_46 ?_
  refine a_iconst eX10_priceOf_47 ?_
  refine a_isub eX10_priceOf_48 ?_
  refine a_ald0 eX10_priceOf_49 ?_
  refine a_getI 20 eX10_priceOf_50 fl_X10_241 rfl rfl sh_171 ?_
  refine a_idiv eX10_priceOf_53 (by omega) (by omega) ?_
  refine a_ald0 eX10_priceOf_54 ?_
  refine a_getI 20 eX10_priceOf_55 fl_X10_241 rfl rfl sh_171 ?_
  refine a_imul eX10_priceOf_58 ?_
  refine a_iret eX10_priceOf_59 rfl rfl ⟨Nat.zero_le _, Nat.zero_le _⟩ ?_
  exact hk
