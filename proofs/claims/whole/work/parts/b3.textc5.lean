/-! ===== feeding, both sides; a new city, the class ===== -/
/-- the byte k of a number -/
def shv (w : Int) (k : Nat) : Int := (jI w >>> (jI (24 - 8 * (k : Int)) &&& 31)).toInt
def bv (w : Int) (k : Nat) : Int := ((jI (shv w k)).toInt8.toInt32).toInt
theorem bv_b (w : Int) (k : Nat) : -128 ≤ bv w k ∧ bv w k ≤ 127 := by
  unfold bv
  rw [Int8.toInt_toInt32]
  have h1 := Int8.le_toInt (jI (shv w k)).toInt8
  have h2 := Int8.toInt_lt (jI (shv w k)).toInt8
  omega
theorem nar_b {v : Int} (h : -128 ≤ v ∧ v ≤ 127) : (vp_nar FieldType.byte (jI v)).toInt = v := by
  show ((jI v).toInt8.toInt32).toInt = v
  rw [Int8.toInt_toInt32, Int32.toInt_toInt8, jI_toInt (by omega) (by omega)]
  exact Int.bmod_eq_of_le (by omega) (by omega)
abbrev txt : Type := (Int → Int) × Int
def tput (T : txt) (v : Int) : txt := (uf T.1 T.2 v, T.2 + 1)
def tpk (T : txt) (w : Int) : Nat → txt
  | 0 => T
  | k + 1 => tput (tpk T w k) (bv w k)
def wdk (a b c d e : Int) (k : Nat) : Int := if k < 4 then a else if k < 8 then b else if k < 12 then c else if k < 16 then d else e
def tfd (T : txt) (a b c d e : Int) : Nat → txt
  | 0 => T
  | k + 1 => tput (tfd T a b c d e k) (bv (wdk a b c d e k) (k % 4))
theorem tpk_n {T : txt} {w : Int} : ∀ k : Nat, (tpk T w k).2 = T.2 + (k : Int)
  | 0 => by show T.2 = T.2 + ((0 : Nat) : Int); omega
  | k + 1 => by
    show (tpk T w k).2 + 1 = _
    rw [tpk_n k]; omega
theorem tfd_n {T : txt} {a b c d e : Int} : ∀ k : Nat, (tfd T a b c d e k).2 = T.2 + (k : Int)
  | 0 => by show T.2 = T.2 + ((0 : Nat) : Int); omega
  | k + 1 => by
    show (tfd T a b c d e k).2 + 1 = _
    rw [tfd_n k]; omega
theorem tput_w {T : txt} {v : Int} (hv : -128 ≤ v ∧ v ≤ 127) (h : wfTx T.1 T.2) (hn : T.2 < 500) : wfTx (tput T v).1 (tput T v).2 := by
  refine ⟨by have := h.1; show 0 ≤ T.2 + 1 ∧ T.2 + 1 ≤ 500; omega, fun i i1 i2 => ?_⟩
  show -128 ≤ uf T.1 T.2 v i ∧ uf T.1 T.2 v i ≤ 127
  unfold uf
  split
  · exact hv
  · exact h.2 i i1 (by have : i < T.2 + 1 := i2; omega)
theorem tpk_w {T : txt} {w : Int} (h : wfTx T.1 T.2) : ∀ k : Nat, T.2 + (k : Int) ≤ 500 → wfTx (tpk T w k).1 (tpk T w k).2
  | 0, _ => h
  | k + 1, hk => tput_w (bv_b _ _) (tpk_w h k (by omega)) (by rw [tpk_n]; omega)
theorem txC_p {σ σ' : aw_S} {T : txt} {v : Int} (hT : txC σ T.1 T.2) (h1 : σ'.1 1 1 = T.2 + 1) (h2 : ∀ j : Int, σ'.1 2 j = if j = T.2 then v else σ.1 2 j) : txC σ' (tput T v).1 (tput T v).2 := by
  refine ⟨h1, fun i i1 i2 => ?_⟩
  rw [h2]
  show _ = uf T.1 T.2 v i
  unfold uf
  split
  · rfl
  · exact hT.2 i i1 (by have : i < T.2 + 1 := i2; omega)
def fr12 (σ σ' : aw_S) : Prop := (∀ (b : Nat) (j : Int), ¬ (b = 1 ∧ j = 1) → b ≠ 2 → σ'.1 b j = σ.1 b j) ∧ σ'.2 = σ.2
theorem fr12_tr {σ σ1 σ2 : aw_S} (h : fr12 σ σ1) (h2 : fr12 σ1 σ2) : fr12 σ σ2 := ⟨fun b j q1 q2 => (h2.1 b j q1 q2).trans (h.1 b j q1 q2), h2.2.trans h.2⟩
set_option maxHeartbeats 4000000 in
set_option maxRecDepth 100000 in
theorem lp_app {l : Launch} {σ : aw_S} {Post : Option Value → aw_S → Prop} {tw cs : Bool} (hR : σ.2.2 = RF tw cs) {T : txt} {w : Int} (hT : txC σ T.1 T.2) (hn : 0 ≤ T.2 ∧ T.2 ≤ 496) (hk : ∀ σ', fr12 σ σ' → txC σ' (tpk T w 4).1 (tpk T w 4).2 → Post none σ')  : ∀ (n : Nat) (k : Nat) (σ1 : aw_S), (4 - k ≤ n) → (k ≤ 4) → (fr12 σ σ1) → (txC σ1 (tpk T w k).1 (tpk T w k).2) → AW l yX4_append cX4_append 3 (none : Option Jvm.ClassFile.FieldType) 0 0 0 0 SH Post SH 0 0 (σ1) 3 [some (.ref 1), some (.int (jI w)), some (.int (jI (24 - 8 * (k : Int))))] [] := by
  intro n
  induction n with
  | zero =>
    intro k σ1 hm hkb f1 h1
    have hnk := tpk_n (T := T) (w := w) k
    have hR : σ1.2.2 = RF tw cs := by rw [f1.2]; exact hR
    have e1 : σ1.1 1 1 = T.2 + (k : Int) := h1.1.trans hnk
    refine a_ild2 eX4_append_3 ?_
    refine a_if_lt 46 eX4_append_4 (by decide) (by omega) (fun hT4 => ?_) (fun hF4 => ?_)
    · skip
      refine a_vret eX4_append_46 rfl rfl ⟨Nat.zero_le _, Nat.zero_le _⟩ ?_
      rw [show k = 4 by omega] at h1
      exact hk σ1 f1 h1
    · skip
      refine a_ald0 eX4_append_7 ?_
      refine a_getI 1 eX4_append_8 fl_X4_29 rfl rfl sh_1 ?_
      refine a_eqtop (y0 := T.2 + (k : Int)) (by exact e1) ?_
      refine a_sipush eX4_append_11 (by decide) ?_
      refine a_icmp_ge 46 eX4_append_14 (by decide) (by omega) (fun hT14 => ?_) (fun hF14 => ?_)
      · skip
        refine a_vret eX4_append_46 rfl rfl ⟨Nat.zero_le _, Nat.zero_le _⟩ ?_
        rw [show k = 4 by omega] at h1
        exact hk σ1 f1 h1
      · skip
        exfalso; omega
  | succ n ih =>
    intro k σ1 hm hkb f1 h1
    have hnk := tpk_n (T := T) (w := w) k
    have hR : σ1.2.2 = RF tw cs := by rw [f1.2]; exact hR
    have e1 : σ1.1 1 1 = T.2 + (k : Int) := h1.1.trans hnk
    refine a_ild2 eX4_append_3 ?_
    refine a_if_lt 46 eX4_append_4 (by decide) (by omega) (fun hT4 => ?_) (fun hF4 => ?_)
    · skip
      refine a_vret eX4_append_46 rfl rfl ⟨Nat.zero_le _, Nat.zero_le _⟩ ?_
      rw [show k = 4 by omega] at h1
      exact hk σ1 f1 h1
    · skip
      refine a_ald0 eX4_append_7 ?_
      refine a_getI 1 eX4_append_8 fl_X4_29 rfl rfl sh_1 ?_
      refine a_eqtop (y0 := T.2 + (k : Int)) (by exact e1) ?_
      refine a_sipush eX4_append_11 (by decide) ?_
      refine a_icmp_ge 46 eX4_append_14 (by decide) (by omega) (fun hT14 => ?_) (fun hF14 => ?_)
      · skip
        refine a_vret eX4_append_46 rfl rfl ⟨Nat.zero_le _, Nat.zero_le _⟩ ?_
        rw [show k = 4 by omega] at h1
        exact hk σ1 f1 h1
      · skip
        refine a_ald0 eX4_append_17 ?_
        refine a_getR 0 2 eX4_append_18 fl_X4_9 rfl rfl sh_1 ((congrFun (congrFun hR _) _).trans rf_1_0) ?_
        refine a_ald0 eX4_append_21 ?_
        refine a_getI 1 eX4_append_22 fl_X4_29 rfl rfl sh_1 ?_
        refine a_eqtop (y0 := T.2 + (k : Int)) (by exact e1) ?_
        refine a_ild1 eX4_append_25 ?_
        refine a_ild2 eX4_append_26 ?_
        refine a_ishr (shv w k) eX4_append_27 (jI_self _).symm ?_
        refine a_i2b (bv w k) eX4_append_28 (jI_self _).symm ?_
        refine a_bast eX4_append_29 sh_2 rfl (by omega) ?_
        refine a_ald0 eX4_append_30 ?_
        refine a_dup eX4_append_31 rfl ?_
        refine a_getI 1 eX4_append_32 fl_X4_29 rfl rfl sh_1 ?_
        refine a_eqtop (y0 := T.2 + (k : Int)) (by rw [rd_si_ne (by omega)]; exact e1) ?_
        refine a_iconst eX4_append_35 ?_
        refine a_iadd eX4_append_36 ?_
        refine a_putI 1 eX4_append_37 fl_X4_29 rfl rfl sh_1 (fun q h => Or.inl (by cases h; rfl)) ?_
        refine a_iinc2 eX4_append_40 (by decide) aw_n2i ?_
        refine a_goto 3 eX4_append_43 (by decide) ?_
        rw [show 24 - 8 * (k : Int) + -8 = 24 - 8 * ((k + 1 : Nat) : Int) by omega]
        refine ih (k + 1) _ (by omega) (by omega) (fr12_tr f1 ⟨fun b j z1 z2 => by rw [rd_si, if_neg (by omega), rd_si, if_neg (by omega)], rfl⟩) (txC_p h1 (by rw [hnk]; exact rd_si_eq) (fun j => ?_))
        rw [rd_si_ne (by omega), rd_si, hnk, nar_b (bv_b _ _)]
        simp only [true_and]

set_option maxHeartbeats 4000000 in
set_option maxRecDepth 100000 in
theorem c_X4_append {l : Launch} {σ : aw_S} {Post : Option Value → aw_S → Prop} {tw cs : Bool} (hR : σ.2.2 = RF tw cs) {T : txt} {w : Int} (hT : txC σ T.1 T.2) (hn : 0 ≤ T.2 ∧ T.2 ≤ 496) (hk : ∀ σ', fr12 σ σ' → txC σ' (tpk T w 4).1 (tpk T w 4).2 → Post none σ')  : AE l yX4_append cX4_append 3 (none : Option Jvm.ClassFile.FieldType) 0 0 0 0 SH SH σ [.ref 1, .int (jI w)] Post := by
  show AW l yX4_append cX4_append 3 (none : Option Jvm.ClassFile.FieldType) 0 0 0 0 SH Post SH 0 0 σ 0 [some (.ref 1), some (.int (jI w)), none] []
  refine a_bipush eX4_append_0 (by decide) ?_
  refine a_ist2 eX4_append_2 (by decide) aw_n2i ?_
  exact lp_app hR hT hn hk _ 0 σ (Nat.le_refl _) (by omega) ⟨fun _ _ _ _ => rfl, rfl⟩ hT

set_option maxHeartbeats 4000000 in
set_option maxRecDepth 100000 in
theorem c_X9_feed {l : Launch} {σ : aw_S} {Post : Option Value → aw_S → Prop} {tw cs : Bool} (hR : σ.2.2 = RF tw cs) {T : txt} {a b c d e : Int} (hr : (-2147483648 ≤ a ∧ a ≤ 2147483647) ∧ (-2147483648 ≤ b ∧ b ≤ 2147483647) ∧ (-2147483648 ≤ c ∧ c ≤ 2147483647) ∧ (-2147483648 ≤ d ∧ d ≤ 2147483647) ∧ (-2147483648 ≤ e ∧ e ≤ 2147483647)) (hT : txC σ T.1 T.2) (wT : wfTx T.1 T.2) (h1 : T.2 ≤ 480 → ∀ σ', fr12 σ σ' → txC σ' (tfd T a b c d e 20).1 (tfd T a b c d e 20).2 → Post (some (.int (jI (T.2 + 20)))) σ') (h0 : ¬ T.2 ≤ 480 → Post (some (.int (jI (-1)))) σ)  : AE l yX9_feed cX9_feed 6 (some .int) 1 22 0 0 SH SH σ [.ref 0, .int (jI a), .int (jI b), .int (jI c), .int (jI d), .int (jI e)] Post := by
  show AW l yX9_feed cX9_feed 6 (some .int) 1 22 0 0 SH Post SH 0 0 σ 0 [some (.ref 0), some (.int (jI a)), some (.int (jI b)), some (.int (jI c)), some (.int (jI d)), some (.int (jI e))] []
  have u1 := wT.1
  have n1 := tpk_n (T := T) (w := a) 4
  have n2 := tpk_n (T := (tpk T a 4)) (w := b) 4
  have n3 := tpk_n (T := (tpk (tpk T a 4) b 4)) (w := c) 4
  have n4 := tpk_n (T := (tpk (tpk (tpk T a 4) b 4) c 4)) (w := d) 4
  have n5 := tpk_n (T := (tpk (tpk (tpk (tpk T a 4) b 4) c 4) d 4)) (w := e) 4
  refine a_ald0 eX9_feed_0 ?_
  refine a_getR 0 1 eX9_feed_1 fl_X9_10 rfl rfl sh_0 ((congrFun (congrFun hR _) _).trans rf_0_0) ?_
  refine a_getI 1 eX9_feed_4 fl_X9_73 rfl rfl sh_1 ?_
  refine a_eqtop (y0 := T.2) (by exact hT.1) ?_
  refine a_sipush eX9_feed_7 (by decide) ?_
  refine a_icmp_le 15 eX9_feed_10 (by decide) (by omega) (fun hT10 => ?_) (fun hF10 => ?_)
  · skip
    refine a_ald0 eX9_feed_15 ?_
    refine a_getR 0 1 eX9_feed_16 fl_X9_10 rfl rfl sh_0 ((congrFun (congrFun hR _) _).trans rf_0_0) ?_
    refine a_ild1 eX9_feed_19 ?_
    refine a_cV1 eX9_feed_20 lk_X9_77 mV_X4_append sh_1 ⟨_, rfl, rfl⟩ mt_X4_append rfl rfl rfl rfl rfl (c_X4_append hR (T := T) hT (by omega) (fun σ1 f1 hT1 => ?_))
    dsimp only [Option.toList, List.cons_append, List.nil_append]
    have hR1 : σ1.2.2 = RF tw cs := by rw [f1.2]; exact hR
    have hR := hR1
    refine a_ald0 eX9_feed_23 ?_
    refine a_getR 0 1 eX9_feed_24 fl_X9_10 rfl rfl sh_0 ((congrFun (congrFun hR _) _).trans rf_0_0) ?_
    refine a_ild2 eX9_feed_27 ?_
    refine a_cV1 eX9_feed_28 lk_X9_77 mV_X4_append sh_1 ⟨_, rfl, rfl⟩ mt_X4_append rfl rfl rfl rfl rfl (c_X4_append hR (T := (tpk T a 4)) hT1 (by omega) (fun σ2 f2 hT2 => ?_))
    dsimp only [Option.toList, List.cons_append, List.nil_append]
    have hR2 : σ2.2.2 = RF tw cs := by rw [f2.2]; exact hR
    have hR := hR2
    refine a_ald0 eX9_feed_31 ?_
    refine a_getR 0 1 eX9_feed_32 fl_X9_10 rfl rfl sh_0 ((congrFun (congrFun hR _) _).trans rf_0_0) ?_
    refine a_ild3 eX9_feed_35 ?_
    refine a_cV1 eX9_feed_36 lk_X9_77 mV_X4_append sh_1 ⟨_, rfl, rfl⟩ mt_X4_append rfl rfl rfl rfl rfl (c_X4_append hR (T := (tpk (tpk T a 4) b 4)) hT2 (by omega) (fun σ3 f3 hT3 => ?_))
    dsimp only [Option.toList, List.cons_append, List.nil_append]
    have hR3 : σ3.2.2 = RF tw cs := by rw [f3.2]; exact hR
    have hR := hR3
    refine a_ald0 eX9_feed_39 ?_
    refine a_getR 0 1 eX9_feed_40 fl_X9_10 rfl rfl sh_0 ((congrFun (congrFun hR _) _).trans rf_0_0) ?_
    refine a_ild4 eX9_feed_43 ?_
    refine a_cV1 eX9_feed_45 lk_X9_77 mV_X4_append sh_1 ⟨_, rfl, rfl⟩ mt_X4_append rfl rfl rfl rfl rfl (c_X4_append hR (T := (tpk (tpk (tpk T a 4) b 4) c 4)) hT3 (by omega) (fun σ4 f4 hT4 => ?_))
    dsimp only [Option.toList, List.cons_append, List.nil_append]
    have hR4 : σ4.2.2 = RF tw cs := by rw [f4.2]; exact hR
    have hR := hR4
    refine a_ald0 eX9_feed_48 ?_
    refine a_getR 0 1 eX9_feed_49 fl_X9_10 rfl rfl sh_0 ((congrFun (congrFun hR _) _).trans rf_0_0) ?_
    refine a_ild5 eX9_feed_52 ?_
    refine a_cV1 eX9_feed_54 lk_X9_77 mV_X4_append sh_1 ⟨_, rfl, rfl⟩ mt_X4_append rfl rfl rfl rfl rfl (c_X4_append hR (T := (tpk (tpk (tpk (tpk T a 4) b 4) c 4) d 4)) hT4 (by omega) (fun σ5 f5 hT5 => ?_))
    dsimp only [Option.toList, List.cons_append, List.nil_append]
    have hR5 : σ5.2.2 = RF tw cs := by rw [f5.2]; exact hR
    have hR := hR5
    refine a_ald0 eX9_feed_57 ?_
    refine a_getR 0 1 eX9_feed_58 fl_X9_10 rfl rfl sh_0 ((congrFun (congrFun hR _) _).trans rf_0_0) ?_
    refine a_getI 1 eX9_feed_61 fl_X9_73 rfl rfl sh_1 ?_
    refine a_eqtop (y0 := T.2 + 20) (by exact hT5.1.trans (by omega)) ?_
    refine a_iret eX9_feed_64 rfl rfl ⟨Nat.zero_le _, Nat.zero_le _⟩ ?_
    exact h1 (by omega) σ5 (fr12_tr (fr12_tr (fr12_tr (fr12_tr f1 f2) f3) f4) f5) hT5
  · skip
    refine a_iconst eX9_feed_13 ?_
    refine a_iret eX9_feed_14 rfl rfl ⟨Nat.zero_le _, Nat.zero_le _⟩ ?_
    exact h0 (by omega)

def txM (σ : aw_S) (B : Int → Int) (n : Int) : Prop := σ.1 171 1 = n ∧ ∀ i : Int, 0 ≤ i → i < n → σ.1 172 i = B i
theorem txM_p {σ σ' : aw_S} {T : txt} {v : Int} (hT : txM σ T.1 T.2) (h1 : σ'.1 171 1 = T.2 + 1) (h2 : ∀ j : Int, σ'.1 172 j = if j = T.2 then v else σ.1 172 j) : txM σ' (tput T v).1 (tput T v).2 := by
  refine ⟨h1, fun i i1 i2 => ?_⟩
  rw [h2]
  show _ = uf T.1 T.2 v i
  unfold uf
  split
  · rfl
  · exact hT.2 i i1 (by have : i < T.2 + 1 := i2; omega)
def fr12M (σ σ' : aw_S) : Prop := (∀ (b : Nat) (j : Int), ¬ (b = 171 ∧ j = 1) → b ≠ 172 → σ'.1 b j = σ.1 b j) ∧ σ'.2 = σ.2
theorem fr12M_tr {σ σ1 σ2 : aw_S} (h : fr12M σ σ1) (h2 : fr12M σ1 σ2) : fr12M σ σ2 := ⟨fun b j q1 q2 => (h2.1 b j q1 q2).trans (h.1 b j q1 q2), h2.2.trans h.2⟩
set_option maxHeartbeats 4000000 in
set_option maxRecDepth 100000 in
theorem lp_fd {l : Launch} {σ : aw_S} {Post : Option Value → aw_S → Prop} {tw cs : Bool} (hR : σ.2.2 = RF tw cs) {T : txt} {a b c d e : Int} (hr : (-2147483648 ≤ a ∧ a ≤ 2147483647) ∧ (-2147483648 ≤ b ∧ b ≤ 2147483647) ∧ (-2147483648 ≤ c ∧ c ≤ 2147483647) ∧ (-2147483648 ≤ d ∧ d ≤ 2147483647) ∧ (-2147483648 ≤ e ∧ e ≤ 2147483647)) (hT : txM σ T.1 T.2) (wT : wfTx T.1 T.2) (h1 : T.2 ≤ 480 → ∀ σ', fr12M σ σ' → txM σ' (tfd T a b c d e 20).1 (tfd T a b c d e 20).2 → Post (some (.int (jI (T.2 + 20)))) σ') (h0 : ¬ T.2 ≤ 480 → Post (some (.int (jI (-1)))) σ) (hle : T.2 ≤ 480)  : ∀ (n : Nat) (k : Nat) (σ1 : aw_S) (l7 : Option Value), (20 - k ≤ n) → (k ≤ 20) → (fr12M σ σ1) → (txM σ1 (tfd T a b c d e k).1 (tfd T a b c d e k).2) → AW l yX10_feed cX10_feed 8 (some .int) 0 0 0 0 SH Post SH 0 0 (σ1) 18 [some (.ref 171), some (.int (jI a)), some (.int (jI b)), some (.int (jI c)), some (.int (jI d)), some (.int (jI e)), some (.int (jI (k : Int))), l7] [] := by
  intro n
  induction n with
  | zero =>
    intro k σ1 l7 hm hkb f1 h2
    have u1 := wT.1
    have hnk := tfd_n (T := T) (a := a) (b := b) (c := c) (d := d) (e := e) k
    have hR : σ1.2.2 = RF tw cs := by rw [f1.2]; exact hR
    have e1 : σ1.1 171 1 = T.2 + (k : Int) := h2.1.trans hnk
    refine a_ild6 eX10_feed_18 ?_
    refine a_bipush eX10_feed_20 (by decide) ?_
    refine a_icmp_ge 112 eX10_feed_22 (by decide) (by omega) (fun hT22 => ?_) (fun hF22 => ?_)
    · skip
      refine a_ald0 eX10_feed_112 ?_
      refine a_getI 1 eX10_feed_113 fl_X10_124 rfl rfl sh_171 ?_
      refine a_eqtop (y0 := T.2 + 20) (by rw [e1]; omega) ?_
      refine a_iret eX10_feed_116 rfl rfl ⟨Nat.zero_le _, Nat.zero_le _⟩ ?_
      rw [show k = 20 by omega] at h2
      exact h1 hle σ1 f1 h2
    · skip
      exfalso; omega
  | succ n ih =>
    intro k σ1 l7 hm hkb f1 h2
    have u1 := wT.1
    have hnk := tfd_n (T := T) (a := a) (b := b) (c := c) (d := d) (e := e) k
    have hR : σ1.2.2 = RF tw cs := by rw [f1.2]; exact hR
    have e1 : σ1.1 171 1 = T.2 + (k : Int) := h2.1.trans hnk
    refine a_ild6 eX10_feed_18 ?_
    refine a_bipush eX10_feed_20 (by decide) ?_
    refine a_icmp_ge 112 eX10_feed_22 (by decide) (by omega) (fun hT22 => ?_) (fun hF22 => ?_)
    · skip
      refine a_ald0 eX10_feed_112 ?_
      refine a_getI 1 eX10_feed_113 fl_X10_124 rfl rfl sh_171 ?_
      refine a_eqtop (y0 := T.2 + 20) (by rw [e1]; omega) ?_
      refine a_iret eX10_feed_116 rfl rfl ⟨Nat.zero_le _, Nat.zero_le _⟩ ?_
      rw [show k = 20 by omega] at h2
      exact h1 hle σ1 f1 h2
    · skip
      refine a_ild6 eX10_feed_25 ?_
      refine a_iconst eX10_feed_27 ?_
      refine a_icmp_ge 35 eX10_feed_28 (by decide) (by omega) (fun hT28 => ?_) (fun hF28 => ?_)
      · skip
        refine a_ild6 eX10_feed_35 ?_
        refine a_bipush eX10_feed_37 (by decide) ?_
        refine a_icmp_ge 46 eX10_feed_39 (by decide) (by omega) (fun hT39 => ?_) (fun hF39 => ?_)
        · skip
          refine a_ild6 eX10_feed_46 ?_
          refine a_bipush eX10_feed_48 (by decide) ?_
          refine a_icmp_ge 57 eX10_feed_50 (by decide) (by omega) (fun hT50 => ?_) (fun hF50 => ?_)
          · skip
            refine a_ild6 eX10_feed_57 ?_
            refine a_bipush eX10_feed_59 (by decide) ?_
            refine a_icmp_ge 69 eX10_feed_61 (by decide) (by omega) (fun hT61 => ?_) (fun hF61 => ?_)
            · skip
              refine a_ild5 eX10_feed_69 ?_
              refine a_eqtop (y0 := wdk a b c d e k) (by unfold wdk; first | exact (if_pos (by omega)).symm | exact ((if_neg (by omega)).trans (if_pos (by omega))).symm | exact ((if_neg (by omega)).trans ((if_neg (by omega)).trans (if_pos (by omega)))).symm | exact ((if_neg (by omega)).trans ((if_neg (by omega)).trans ((if_neg (by omega)).trans (if_pos (by omega))))).symm | exact ((if_neg (by omega)).trans ((if_neg (by omega)).trans ((if_neg (by omega)).trans (if_neg (by omega))))).symm) ?_
              refine a_ist7 eX10_feed_71 (by decide) aw_n2i ?_
              refine a_ald0 eX10_feed_73 ?_
              refine a_getR 0 172 eX10_feed_74 fl_X10_9 rfl rfl sh_171 ((congrFun (congrFun hR _) _).trans rf_171_0) ?_
              refine a_ald0 eX10_feed_77 ?_
              refine a_getI 1 eX10_feed_78 fl_X10_124 rfl rfl sh_171 ?_
              refine a_eqtop (y0 := T.2 + (k : Int)) (by exact e1) ?_
              refine a_ild7 eX10_feed_81 ?_
              refine a_bipush eX10_feed_83 (by decide) ?_
              refine a_bipush eX10_feed_85 (by decide) ?_
              refine a_ild6 eX10_feed_87 ?_
              refine a_iconst eX10_feed_89 ?_
              refine a_irem eX10_feed_90 (by omega) (by omega) ?_
              refine a_imul eX10_feed_91 ?_
              refine a_isub eX10_feed_92 ?_
              refine a_eqtop (y0 := 24 - 8 * ((k % 4 : Nat) : Int)) (by omega) ?_
              refine a_ishr (shv (wdk a b c d e k) (k % 4)) eX10_feed_93 (jI_self _).symm ?_
              refine a_i2b (bv (wdk a b c d e k) (k % 4)) eX10_feed_94 (jI_self _).symm ?_
              refine a_bast eX10_feed_95 sh_172 rfl (by omega) ?_
              refine a_ald0 eX10_feed_96 ?_
              refine a_dup eX10_feed_97 rfl ?_
              refine a_getI 1 eX10_feed_98 fl_X10_124 rfl rfl sh_171 ?_
              refine a_eqtop (y0 := T.2 + (k : Int)) (by rw [rd_si_ne (by omega)]; exact e1) ?_
              refine a_iconst eX10_feed_101 ?_
              refine a_iadd eX10_feed_102 ?_
              refine a_putI 1 eX10_feed_103 fl_X10_124 rfl rfl sh_171 (fun q h => Or.inl (by cases h; rfl)) ?_
              refine a_iinc6 eX10_feed_106 (by decide) aw_n2i ?_
              refine a_goto 18 eX10_feed_109 (by decide) ?_
              rw [show ((k : Nat) : Int) + 1 = ((k + 1 : Nat) : Int) by omega]
              refine ih (k + 1) _ _ (by omega) (by omega) (fr12M_tr f1 ⟨fun b j z1 z2 => by rw [rd_si, if_neg (by omega), rd_si, if_neg (by omega)], rfl⟩) (txM_p h2 (by rw [hnk]; exact rd_si_eq) (fun j => ?_))
              rw [rd_si_ne (by omega), rd_si, hnk, nar_b (bv_b _ _)]
              simp only [true_and]
            · skip
              refine a_ild4 eX10_feed_64 ?_
              refine a_goto 71 eX10_feed_66 (by decide) ?_
              refine a_eqtop (y0 := wdk a b c d e k) (by unfold wdk; first | exact (if_pos (by omega)).symm | exact ((if_neg (by omega)).trans (if_pos (by omega))).symm | exact ((if_neg (by omega)).trans ((if_neg (by omega)).trans (if_pos (by omega)))).symm | exact ((if_neg (by omega)).trans ((if_neg (by omega)).trans ((if_neg (by omega)).trans (if_pos (by omega))))).symm | exact ((if_neg (by omega)).trans ((if_neg (by omega)).trans ((if_neg (by omega)).trans (if_neg (by omega))))).symm) ?_
              refine a_ist7 eX10_feed_71 (by decide) aw_n2i ?_
              refine a_ald0 eX10_feed_73 ?_
              refine a_getR 0 172 eX10_feed_74 fl_X10_9 rfl rfl sh_171 ((congrFun (congrFun hR _) _).trans rf_171_0) ?_
              refine a_ald0 eX10_feed_77 ?_
              refine a_getI 1 eX10_feed_78 fl_X10_124 rfl rfl sh_171 ?_
              refine a_eqtop (y0 := T.2 + (k : Int)) (by exact e1) ?_
              refine a_ild7 eX10_feed_81 ?_
              refine a_bipush eX10_feed_83 (by decide) ?_
              refine a_bipush eX10_feed_85 (by decide) ?_
              refine a_ild6 eX10_feed_87 ?_
              refine a_iconst eX10_feed_89 ?_
              refine a_irem eX10_feed_90 (by omega) (by omega) ?_
              refine a_imul eX10_feed_91 ?_
              refine a_isub eX10_feed_92 ?_
              refine a_eqtop (y0 := 24 - 8 * ((k % 4 : Nat) : Int)) (by omega) ?_
              refine a_ishr (shv (wdk a b c d e k) (k % 4)) eX10_feed_93 (jI_self _).symm ?_
              refine a_i2b (bv (wdk a b c d e k) (k % 4)) eX10_feed_94 (jI_self _).symm ?_
              refine a_bast eX10_feed_95 sh_172 rfl (by omega) ?_
              refine a_ald0 eX10_feed_96 ?_
              refine a_dup eX10_feed_97 rfl ?_
              refine a_getI 1 eX10_feed_98 fl_X10_124 rfl rfl sh_171 ?_
              refine a_eqtop (y0 := T.2 + (k : Int)) (by rw [rd_si_ne (by omega)]; exact e1) ?_
              refine a_iconst eX10_feed_101 ?_
              refine a_iadd eX10_feed_102 ?_
              refine a_putI 1 eX10_feed_103 fl_X10_124 rfl rfl sh_171 (fun q h => Or.inl (by cases h; rfl)) ?_
              refine a_iinc6 eX10_feed_106 (by decide) aw_n2i ?_
              refine a_goto 18 eX10_feed_109 (by decide) ?_
              rw [show ((k : Nat) : Int) + 1 = ((k + 1 : Nat) : Int) by omega]
              refine ih (k + 1) _ _ (by omega) (by omega) (fr12M_tr f1 ⟨fun b j z1 z2 => by rw [rd_si, if_neg (by omega), rd_si, if_neg (by omega)], rfl⟩) (txM_p h2 (by rw [hnk]; exact rd_si_eq) (fun j => ?_))
              rw [rd_si_ne (by omega), rd_si, hnk, nar_b (bv_b _ _)]
              simp only [true_and]
          · skip
            refine a_ild3 eX10_feed_53 ?_
            refine a_goto 71 eX10_feed_54 (by decide) ?_
            refine a_eqtop (y0 := wdk a b c d e k) (by unfold wdk; first | exact (if_pos (by omega)).symm | exact ((if_neg (by omega)).trans (if_pos (by omega))).symm | exact ((if_neg (by omega)).trans ((if_neg (by omega)).trans (if_pos (by omega)))).symm | exact ((if_neg (by omega)).trans ((if_neg (by omega)).trans ((if_neg (by omega)).trans (if_pos (by omega))))).symm | exact ((if_neg (by omega)).trans ((if_neg (by omega)).trans ((if_neg (by omega)).trans (if_neg (by omega))))).symm) ?_
            refine a_ist7 eX10_feed_71 (by decide) aw_n2i ?_
            refine a_ald0 eX10_feed_73 ?_
            refine a_getR 0 172 eX10_feed_74 fl_X10_9 rfl rfl sh_171 ((congrFun (congrFun hR _) _).trans rf_171_0) ?_
            refine a_ald0 eX10_feed_77 ?_
            refine a_getI 1 eX10_feed_78 fl_X10_124 rfl rfl sh_171 ?_
            refine a_eqtop (y0 := T.2 + (k : Int)) (by exact e1) ?_
            refine a_ild7 eX10_feed_81 ?_
            refine a_bipush eX10_feed_83 (by decide) ?_
            refine a_bipush eX10_feed_85 (by decide) ?_
            refine a_ild6 eX10_feed_87 ?_
            refine a_iconst eX10_feed_89 ?_
            refine a_irem eX10_feed_90 (by omega) (by omega) ?_
            refine a_imul eX10_feed_91 ?_
            refine a_isub eX10_feed_92 ?_
            refine a_eqtop (y0 := 24 - 8 * ((k % 4 : Nat) : Int)) (by omega) ?_
            refine a_ishr (shv (wdk a b c d e k) (k % 4)) eX10_feed_93 (jI_self _).symm ?_
            refine a_i2b (bv (wdk a b c d e k) (k % 4)) eX10_feed_94 (jI_self _).symm ?_
            refine a_bast eX10_feed_95 sh_172 rfl (by omega) ?_
            refine a_ald0 eX10_feed_96 ?_
            refine a_dup eX10_feed_97 rfl ?_
            refine a_getI 1 eX10_feed_98 fl_X10_124 rfl rfl sh_171 ?_
            refine a_eqtop (y0 := T.2 + (k : Int)) (by rw [rd_si_ne (by omega)]; exact e1) ?_
            refine a_iconst eX10_feed_101 ?_
            refine a_iadd eX10_feed_102 ?_
            refine a_putI 1 eX10_feed_103 fl_X10_124 rfl rfl sh_171 (fun q h => Or.inl (by cases h; rfl)) ?_
            refine a_iinc6 eX10_feed_106 (by decide) aw_n2i ?_
            refine a_goto 18 eX10_feed_109 (by decide) ?_
            rw [show ((k : Nat) : Int) + 1 = ((k + 1 : Nat) : Int) by omega]
            refine ih (k + 1) _ _ (by omega) (by omega) (fr12M_tr f1 ⟨fun b j z1 z2 => by rw [rd_si, if_neg (by omega), rd_si, if_neg (by omega)], rfl⟩) (txM_p h2 (by rw [hnk]; exact rd_si_eq) (fun j => ?_))
            rw [rd_si_ne (by omega), rd_si, hnk, nar_b (bv_b _ _)]
            simp only [true_and]
        · skip
          refine a_ild2 eX10_feed_42 ?_
          refine a_goto 71 eX10_feed_43 (by decide) ?_
          refine a_eqtop (y0 := wdk a b c d e k) (by unfold wdk; first | exact (if_pos (by omega)).symm | exact ((if_neg (by omega)).trans (if_pos (by omega))).symm | exact ((if_neg (by omega)).trans ((if_neg (by omega)).trans (if_pos (by omega)))).symm | exact ((if_neg (by omega)).trans ((if_neg (by omega)).trans ((if_neg (by omega)).trans (if_pos (by omega))))).symm | exact ((if_neg (by omega)).trans ((if_neg (by omega)).trans ((if_neg (by omega)).trans (if_neg (by omega))))).symm) ?_
          refine a_ist7 eX10_feed_71 (by decide) aw_n2i ?_
          refine a_ald0 eX10_feed_73 ?_
          refine a_getR 0 172 eX10_feed_74 fl_X10_9 rfl rfl sh_171 ((congrFun (congrFun hR _) _).trans rf_171_0) ?_
          refine a_ald0 eX10_feed_77 ?_
          refine a_getI 1 eX10_feed_78 fl_X10_124 rfl rfl sh_171 ?_
          refine a_eqtop (y0 := T.2 + (k : Int)) (by exact e1) ?_
          refine a_ild7 eX10_feed_81 ?_
          refine a_bipush eX10_feed_83 (by decide) ?_
          refine a_bipush eX10_feed_85 (by decide) ?_
          refine a_ild6 eX10_feed_87 ?_
          refine a_iconst eX10_feed_89 ?_
          refine a_irem eX10_feed_90 (by omega) (by omega) ?_
          refine a_imul eX10_feed_91 ?_
          refine a_isub eX10_feed_92 ?_
          refine a_eqtop (y0 := 24 - 8 * ((k % 4 : Nat) : Int)) (by omega) ?_
          refine a_ishr (shv (wdk a b c d e k) (k % 4)) eX10_feed_93 (jI_self _).symm ?_
          refine a_i2b (bv (wdk a b c d e k) (k % 4)) eX10_feed_94 (jI_self _).symm ?_
          refine a_bast eX10_feed_95 sh_172 rfl (by omega) ?_
          refine a_ald0 eX10_feed_96 ?_
          refine a_dup eX10_feed_97 rfl ?_
          refine a_getI 1 eX10_feed_98 fl_X10_124 rfl rfl sh_171 ?_
          refine a_eqtop (y0 := T.2 + (k : Int)) (by rw [rd_si_ne (by omega)]; exact e1) ?_
          refine a_iconst eX10_feed_101 ?_
          refine a_iadd eX10_feed_102 ?_
          refine a_putI 1 eX10_feed_103 fl_X10_124 rfl rfl sh_171 (fun q h => Or.inl (by cases h; rfl)) ?_
          refine a_iinc6 eX10_feed_106 (by decide) aw_n2i ?_
          refine a_goto 18 eX10_feed_109 (by decide) ?_
          rw [show ((k : Nat) : Int) + 1 = ((k + 1 : Nat) : Int) by omega]
          refine ih (k + 1) _ _ (by omega) (by omega) (fr12M_tr f1 ⟨fun b j z1 z2 => by rw [rd_si, if_neg (by omega), rd_si, if_neg (by omega)], rfl⟩) (txM_p h2 (by rw [hnk]; exact rd_si_eq) (fun j => ?_))
          rw [rd_si_ne (by omega), rd_si, hnk, nar_b (bv_b _ _)]
          simp only [true_and]
      · skip
        refine a_ild1 eX10_feed_31 ?_
        refine a_goto 71 eX10_feed_32 (by decide) ?_
        refine a_eqtop (y0 := wdk a b c d e k) (by unfold wdk; first | exact (if_pos (by omega)).symm | exact ((if_neg (by omega)).trans (if_pos (by omega))).symm | exact ((if_neg (by omega)).trans ((if_neg (by omega)).trans (if_pos (by omega)))).symm | exact ((if_neg (by omega)).trans ((if_neg (by omega)).trans ((if_neg (by omega)).trans (if_pos (by omega))))).symm | exact ((if_neg (by omega)).trans ((if_neg (by omega)).trans ((if_neg (by omega)).trans (if_neg (by omega))))).symm) ?_
        refine a_ist7 eX10_feed_71 (by decide) aw_n2i ?_
        refine a_ald0 eX10_feed_73 ?_
        refine a_getR 0 172 eX10_feed_74 fl_X10_9 rfl rfl sh_171 ((congrFun (congrFun hR _) _).trans rf_171_0) ?_
        refine a_ald0 eX10_feed_77 ?_
        refine a_getI 1 eX10_feed_78 fl_X10_124 rfl rfl sh_171 ?_
        refine a_eqtop (y0 := T.2 + (k : Int)) (by exact e1) ?_
        refine a_ild7 eX10_feed_81 ?_
        refine a_bipush eX10_feed_83 (by decide) ?_
        refine a_bipush eX10_feed_85 (by decide) ?_
        refine a_ild6 eX10_feed_87 ?_
        refine a_iconst eX10_feed_89 ?_
        refine a_irem eX10_feed_90 (by omega) (by omega) ?_
        refine a_imul eX10_feed_91 ?_
        refine a_isub eX10_feed_92 ?_
        refine a_eqtop (y0 := 24 - 8 * ((k % 4 : Nat) : Int)) (by omega) ?_
        refine a_ishr (shv (wdk a b c d e k) (k % 4)) eX10_feed_93 (jI_self _).symm ?_
        refine a_i2b (bv (wdk a b c d e k) (k % 4)) eX10_feed_94 (jI_self _).symm ?_
        refine a_bast eX10_feed_95 sh_172 rfl (by omega) ?_
        refine a_ald0 eX10_feed_96 ?_
        refine a_dup eX10_feed_97 rfl ?_
        refine a_getI 1 eX10_feed_98 fl_X10_124 rfl rfl sh_171 ?_
        refine a_eqtop (y0 := T.2 + (k : Int)) (by rw [rd_si_ne (by omega)]; exact e1) ?_
        refine a_iconst eX10_feed_101 ?_
        refine a_iadd eX10_feed_102 ?_
        refine a_putI 1 eX10_feed_103 fl_X10_124 rfl rfl sh_171 (fun q h => Or.inl (by cases h; rfl)) ?_
        refine a_iinc6 eX10_feed_106 (by decide) aw_n2i ?_
        refine a_goto 18 eX10_feed_109 (by decide) ?_
        rw [show ((k : Nat) : Int) + 1 = ((k + 1 : Nat) : Int) by omega]
        refine ih (k + 1) _ _ (by omega) (by omega) (fr12M_tr f1 ⟨fun b j z1 z2 => by rw [rd_si, if_neg (by omega), rd_si, if_neg (by omega)], rfl⟩) (txM_p h2 (by rw [hnk]; exact rd_si_eq) (fun j => ?_))
        rw [rd_si_ne (by omega), rd_si, hnk, nar_b (bv_b _ _)]
        simp only [true_and]

set_option maxHeartbeats 4000000 in
set_option maxRecDepth 100000 in
theorem c_X10_feed {l : Launch} {σ : aw_S} {Post : Option Value → aw_S → Prop} {tw cs : Bool} (hR : σ.2.2 = RF tw cs) {T : txt} {a b c d e : Int} (hr : (-2147483648 ≤ a ∧ a ≤ 2147483647) ∧ (-2147483648 ≤ b ∧ b ≤ 2147483647) ∧ (-2147483648 ≤ c ∧ c ≤ 2147483647) ∧ (-2147483648 ≤ d ∧ d ≤ 2147483647) ∧ (-2147483648 ≤ e ∧ e ≤ 2147483647)) (hT : txM σ T.1 T.2) (wT : wfTx T.1 T.2) (h1 : T.2 ≤ 480 → ∀ σ', fr12M σ σ' → txM σ' (tfd T a b c d e 20).1 (tfd T a b c d e 20).2 → Post (some (.int (jI (T.2 + 20)))) σ') (h0 : ¬ T.2 ≤ 480 → Post (some (.int (jI (-1)))) σ)  : AE l yX10_feed cX10_feed 8 (some .int) 0 0 0 0 SH SH σ [.ref 171, .int (jI a), .int (jI b), .int (jI c), .int (jI d), .int (jI e)] Post := by
  show AW l yX10_feed cX10_feed 8 (some .int) 0 0 0 0 SH Post SH 0 0 σ 0 [some (.ref 171), some (.int (jI a)), some (.int (jI b)), some (.int (jI c)), some (.int (jI d)), some (.int (jI e)), none, none] []
  have u1 := wT.1
  refine a_ald0 eX10_feed_0 ?_
  refine a_getI 1 eX10_feed_1 fl_X10_124 rfl rfl sh_171 ?_
  refine a_eqtop (y0 := T.2) (by exact hT.1) ?_
  refine a_bipush eX10_feed_4 (by decide) ?_
  refine a_iadd eX10_feed_6 ?_
  refine a_sipush eX10_feed_7 (by decide) ?_
  refine a_icmp_le 15 eX10_feed_10 (by decide) (by omega) (fun hT10 => ?_) (fun hF10 => ?_)
  · skip
    refine a_iconst eX10_feed_15 ?_
    refine a_ist6 eX10_feed_16 (by decide) aw_n2i ?_
    exact lp_fd hR hr hT wT h1 h0 (by omega) _ 0 σ none (Nat.le_refl _) (by omega) ⟨fun _ _ _ _ => rfl, rfl⟩ hT
  · skip
    refine a_iconst eX10_feed_13 ?_
    refine a_iret eX10_feed_14 rfl rfl ⟨Nat.zero_le _, Nat.zero_le _⟩ ?_
    exact h0 (by omega)

set_option maxHeartbeats 4000000 in
set_option maxRecDepth 100000 in
theorem c_X5_clear {l : Launch} {σ : aw_S} {Post : Option Value → aw_S → Prop} {tw cs : Bool} (hR : σ.2.2 = RF tw cs) (hk : ∀ σ', ((∀ (b : Nat) (j : Int), ¬ (b = 21 ∧ (j = 0 ∨ j = 1 ∨ j = 6)) → b ≠ 30 → b ≠ 31 → σ'.1 b j = σ.1 b j) ∧ σ'.2 = σ.2) → (σ'.1 21 0 = 0 ∧ σ'.1 21 1 = 0 ∧ σ'.1 21 6 = 0) → (∀ r : Int, 0 ≤ r → r < 6 → σ'.1 30 r = 0 ∧ σ'.1 31 r = 0) → Post none σ')  : AE l yX5_clear cX5_clear 1 (none : Option Jvm.ClassFile.FieldType) 1 23 0 0 SH SH σ [.ref 21] Post := by
  show AW l yX5_clear cX5_clear 1 (none : Option Jvm.ClassFile.FieldType) 1 23 0 0 SH Post SH 0 0 σ 0 [some (.ref 21)] []
  refine a_ald0 eX5_clear_0 ?_
  refine a_iconst eX5_clear_1 ?_
  refine a_putI 0 eX5_clear_2 fl_X5_33 rfl rfl (sh_day (Or.inl rfl)) (fun q h => Or.inl (by cases h; rfl)) ?_
  refine a_ald0 eX5_clear_5 ?_
  refine a_iconst eX5_clear_6 ?_
  refine a_putI 1 eX5_clear_7 fl_X5_37 rfl rfl (sh_day (Or.inl rfl)) (fun q h => Or.inl (by cases h; rfl)) ?_
  refine a_ald0 eX5_clear_10 ?_
  refine a_iconst eX5_clear_11 ?_
  refine a_putI 6 eX5_clear_12 fl_X5_40 rfl rfl (sh_day (Or.inl rfl)) (fun q h => Or.inl (by cases h; rfl)) ?_
  refine a_ald0 eX5_clear_15 ?_
  refine a_getR 4 (21 + 9) eX5_clear_16 fl_X5_22 rfl rfl (sh_day (Or.inl rfl)) ((congrFun (congrFun hR _) _).trans (rf_day_4 (Or.inl rfl))) ?_
  refine a_iconst eX5_clear_19 ?_
  refine a_cS2 eX5_clear_20 lk_X5_43 mS_J7_fill_53178 mt_J7_fill_53178 rfl rfl rfl rfl rfl rfl (c_J7_fill_53178 (sh_day_9 (Or.inl rfl)) rfl ?_)
  dsimp only [Option.toList, List.cons_append, List.nil_append]
  refine a_ald0 eX5_clear_23 ?_
  refine a_getR 5 (21 + 10) eX5_clear_24 fl_X5_26 rfl rfl (sh_day (Or.inl rfl)) ((congrFun (congrFun hR _) _).trans (rf_day_5 (Or.inl rfl))) ?_
  refine a_iconst eX5_clear_27 ?_
  refine a_cS2 eX5_clear_28 lk_X5_43 mS_J7_fill_53178 mt_J7_fill_53178 rfl rfl rfl rfl rfl rfl (c_J7_fill_53178 (sh_day_10 (Or.inl rfl)) rfl ?_)
  dsimp only [Option.toList, List.cons_append, List.nil_append]
  refine a_vret eX5_clear_31 rfl rfl ⟨Nat.zero_le _, Nat.zero_le _⟩ ?_
  refine hk _ ⟨fun b j z1 z2 z3 => ?_, rfl⟩ ⟨?_, ?_, ?_⟩ (fun r r1 r2 => ⟨?_, ?_⟩)
  · rw [rd_sa_ne (by omega), rd_sa_ne (by omega), rd_si, if_neg (by omega), rd_si, if_neg (by omega), rd_si, if_neg (by omega)]
  · rw [rd_sa_ne (by omega), rd_sa_ne (by omega), rd_si_ni (by omega), rd_si_ni (by omega), rd_si_eq]
  · rw [rd_sa_ne (by omega), rd_sa_ne (by omega), rd_si_ni (by omega), rd_si_eq]
  · rw [rd_sa_ne (by omega), rd_sa_ne (by omega), rd_si_eq]
  · rw [rd_sa_ne (by omega), rd_sa_eq, if_pos (by omega)]
  · rw [rd_sa_eq, if_pos (by omega)]

set_option maxHeartbeats 4000000 in
set_option maxRecDepth 100000 in
theorem c_X8_clear {l : Launch} {σ : aw_S} {Post : Option Value → aw_S → Prop} {tw cs : Bool} (hR : σ.2.2 = RF tw cs) (hk : ∀ σ', ((∀ (b : Nat) (j : Int), ¬ (b = 51 ∧ j = 5) → b ≠ 52 → σ'.1 b j = σ.1 b j) ∧ σ'.2 = σ.2) → σ'.1 51 5 = 0 → (∀ r : Int, 0 ≤ r → r < 6 → σ'.1 52 r = 0) → Post none σ')  : AE l yX8_clear cX8_clear 1 (none : Option Jvm.ClassFile.FieldType) 1 23 0 0 SH SH σ [.ref 51] Post := by
  show AW l yX8_clear cX8_clear 1 (none : Option Jvm.ClassFile.FieldType) 1 23 0 0 SH Post SH 0 0 σ 0 [some (.ref 51)] []
  refine a_ald0 eX8_clear_0 ?_
  refine a_getR 0 52 eX8_clear_1 fl_X8_11 rfl rfl sh_51 ((congrFun (congrFun hR _) _).trans rf_51_0) ?_
  refine a_iconst eX8_clear_4 ?_
  refine a_cS2 eX8_clear_5 lk_X8_27 mS_J7_fill_53178 mt_J7_fill_53178 rfl rfl rfl rfl rfl rfl (c_J7_fill_53178 sh_52 rfl ?_)
  dsimp only [Option.toList, List.cons_append, List.nil_append]
  refine a_ald0 eX8_clear_8 ?_
  refine a_iconst eX8_clear_9 ?_
  refine a_putI 5 eX8_clear_10 fl_X8_33 rfl rfl sh_51 (fun q h => Or.inl (by cases h; rfl)) ?_
  refine a_vret eX8_clear_13 rfl rfl ⟨Nat.zero_le _, Nat.zero_le _⟩ ?_
  refine hk _ ⟨fun b j z1 z2 => ?_, rfl⟩ rd_si_eq (fun r r1 r2 => ?_)
  · rw [rd_si, if_neg (by omega), rd_sa_ne (by omega)]
  · rw [rd_si_ne (by omega), rd_sa_eq, if_pos (by omega)]

set_option maxHeartbeats 4000000 in
set_option maxRecDepth 100000 in
theorem c_X9_fault {l : Launch} {σ : aw_S} {Post : Option Value → aw_S → Prop} {tw cs : Bool} (hR : σ.2.2 = RF tw cs) {a : Nat} (ha : isCity a) (hrd : RF tw cs 1 2 = some a) {B : Int → Int} {nn : Int} (hT : txC σ B nn) (wT : wfTx B nn) (hk : ∀ σ', frTx a σ σ' → Post (some (.int (jI (flt B nn).1))) σ')  : AE l yX9_fault cX9_fault 1 (some .int) 10 210 0 0 SH SH σ [.ref 0] Post := by
  show AW l yX9_fault cX9_fault 1 (some .int) 10 210 0 0 SH Post SH 0 0 σ 0 [some (.ref 0)] []
  refine a_ald0 eX9_fault_0 ?_
  refine a_getR 0 1 eX9_fault_1 fl_X9_10 rfl rfl sh_0 ((congrFun (congrFun hR _) _).trans rf_0_0) ?_
  refine a_cV0 eX9_fault_4 lk_X9_85 mV_X4_faultPlace sh_1 ⟨_, rfl, rfl⟩ mt_X4_faultPlace rfl rfl rfl rfl (c_X4_faultPlace hR ha hrd hT wT (fun σ1 f1 h1 => ?_))
  dsimp only [Option.toList, List.cons_append, List.nil_append]
  refine a_iret eX9_fault_7 rfl rfl ⟨Nat.zero_le _, Nat.zero_le _⟩ ?_
  exact hk σ1 f1

theorem tw_rf {tw cs : Bool} {a t : Nat} (hd : RF tw cs 1 2 = some a) (ht : RF tw cs 0 1 = some t) {σ : aw_S} (hR : σ.2.2 = RF tw cs) : (aw_sr (aw_sr σ 0 1 (some a)) 1 2 (some t)).2.2 = RF (!tw) cs := by
  funext b j
  show (if b = 1 ∧ j = 2 then some t else if b = 0 ∧ j = 1 then some a else σ.2.2 b j) = _
  rw [hR]
  unfold RF
  by_cases q5 : b = 1 ∧ j = 2
  · obtain ⟨rfl, rfl⟩ := q5
    rw [← ht]
    cases tw <;> rfl
  · by_cases q4 : b = 0 ∧ j = 1
    · obtain ⟨rfl, rfl⟩ := q4
      rw [← hd]
      cases tw <;> rfl
    · simp only [if_neg q5, if_neg q4]
theorem tw_n {tw cs : Bool} {a t : Nat} (hd : RF tw cs 1 2 = some a) (ht : RF tw cs 0 1 = some t) : (isCity a ∧ isCity t) ∧ (RF (!tw) cs 0 1 = some a ∧ RF (!tw) cs 1 2 = some t) := by
  cases tw
  · cases hd; cases ht
    exact ⟨⟨Or.inl rfl, Or.inr rfl⟩, rfl, rfl⟩
  · cases hd; cases ht
    exact ⟨⟨Or.inr rfl, Or.inl rfl⟩, rfl, rfl⟩
/-- what a new city has changed in the class -/
def frCt (a : Nat) (σ σ' : aw_S) : Prop := (∀ (b : Nat) (j : Int), b ≠ 1 → b ≠ 11 → b ≠ 12 → ¬ (a ≤ b ∧ b ≤ a + 7) → ¬ (b = 21 ∧ (j = 0 ∨ j = 1 ∨ j = 6)) → b ≠ 30 → b ≠ 31 → ¬ (b = 51 ∧ j = 5) → b ≠ 52 → ¬ (b = 64 ∧ j = 0) → b ≠ 50 → σ'.1 b j = σ.1 b j) ∧ σ'.2.1 = σ.2.1
def newC (σ : aw_S) : Prop := σ.1 1 1 = 0 ∧ (σ.1 21 0 = 0 ∧ σ.1 21 1 = 0 ∧ σ.1 21 6 = 0) ∧ (∀ r : Int, 0 ≤ r → r < 6 → σ.1 30 r = 0 ∧ σ.1 31 r = 0) ∧ σ.1 51 5 = 0 ∧ (∀ r : Int, 0 ≤ r → r < 6 → σ.1 52 r = 0) ∧ σ.1 64 0 = 0 ∧ (∀ k : Int, 0 ≤ k → k ≤ 2 → σ.1 50 k = 0)
theorem drC_f {a : Nat} (ha : isCity a) {σ σ' : aw_S} {d : mS} (h : ∀ (b : Nat) (j : Int), (b = 1 ∧ (5 ≤ j ∧ j ≤ 7)) ∨ b = 11 ∨ b = 12 ∨ (a ≤ b ∧ b ≤ a + 7) → σ'.1 b j = σ.1 b j) (hG : drC σ a d) : drC σ' a d := by
  obtain ⟨⟨g1, g2⟩, ⟨g3, g4⟩, g5, g6, g7, g8, g9, g10⟩ := hG
  have h13 : a = 3 ∨ a = 13 := ha
  refine ⟨⟨?_, fun r r1 r2 => ?_⟩, ⟨?_, fun k k1 k2 => ?_⟩, fun r r1 r2 => ?_, fun z => ?_, ?_, ?_, ?_, fun r r1 r2 => ?_⟩
  · rw [h a 0 (by omega)]; exact g1
  · rw [h (a + 1) r (by omega), h (a + 2) r (by omega), h (a + 3) r (by omega)]; exact g2 r r1 r2
  · rw [h a 4 (by omega)]; exact g3
  · rw [h (a + 5) k (by omega), h (a + 6) k (by omega), h (a + 7) k (by omega)]; exact g4 k k1 k2
  · rw [h (a + 4) r (by omega)]; exact g5 r r1 r2
  · rw [h a 9 (by omega), h a 10 (by omega), h a 11 (by omega), h a 12 (by omega)]; exact g6 z
  · rw [h a 13 (by omega), h a 14 (by omega)]; exact g7
  · rw [h a 15 (by omega)]; exact g8
  · rw [h 1 5 (by omega), h 1 6 (by omega), h 1 7 (by omega)]; exact g9
  · rw [h 11 r (by omega), h 12 r (by omega)]; exact g10 r r1 r2
set_option maxHeartbeats 4000000 in
set_option maxRecDepth 100000 in
theorem lp_ci {l : Launch} {σ : aw_S} {Post : Option Value → aw_S → Prop} {tw cs : Bool} (hR : σ.2.2 = RF tw cs) {t : Nat} (hk : ∀ σ2 l2, fr1 50 σ σ2 → (∀ k : Int, 0 ≤ k → k ≤ 2 → σ2.1 50 k = 0) → AW l yX9_city cX9_city 3 (some .int) 10 210 0 0 SH Post SH 0 0 (σ2) 87 [some (.ref 0), some (.ref t), l2] [])  : ∀ (n : Nat) (i : Int) (σ1 : aw_S), ((3 - i).toNat ≤ n) → (0 ≤ i ∧ i ≤ 3) → (fr1 50 σ σ1) → (∀ k : Int, 0 ≤ k → k < i → σ1.1 50 k = 0) → AW l yX9_city cX9_city 3 (some .int) 10 210 0 0 SH Post SH 0 0 (σ1) 69 [some (.ref 0), some (.ref t), some (.int (jI i))] [] := by
  intro n
  induction n with
  | zero =>
    intro i σ1 hm hi f1 hz
    have hR : σ1.2.2 = RF tw cs := by rw [f1.2]; exact hR
    refine a_ild2 eX9_city_69 ?_
    refine a_iconst eX9_city_70 ?_
    refine a_icmp_ge 87 eX9_city_71 (by decide) (by omega) (fun hT71 => ?_) (fun hF71 => ?_)
    · skip
      exact hk σ1 _ f1 (fun k k1 k2 => hz k k1 (by omega))
    · skip
      exfalso; omega
  | succ n ih =>
    intro i σ1 hm hi f1 hz
    have hR : σ1.2.2 = RF tw cs := by rw [f1.2]; exact hR
    refine a_ild2 eX9_city_69 ?_
    refine a_iconst eX9_city_70 ?_
    refine a_icmp_ge 87 eX9_city_71 (by decide) (by omega) (fun hT71 => ?_) (fun hF71 => ?_)
    · skip
      exact hk σ1 _ f1 (fun k k1 k2 => hz k k1 (by omega))
    · skip
      refine a_ald0 eX9_city_74 ?_
      refine a_getR 4 50 eX9_city_75 fl_X9_34 rfl rfl sh_0 ((congrFun (congrFun hR _) _).trans rf_0_4) ?_
      refine a_ild2 eX9_city_78 ?_
      refine a_iconst eX9_city_79 ?_
      refine a_zast eX9_city_80 sh_50 rfl (by omega) ?_
      refine a_iinc2 eX9_city_81 (by decide) aw_n2r ?_
      refine a_goto 69 eX9_city_84 (by decide) ?_
      refine ih (i + 1) _ (by omega) (by omega) ⟨fun b j z => by rw [rd_si_ne z]; exact f1.1 b j z, f1.2⟩ (fun k k1 k2 => ?_)
      by_cases q : k = i
      · rw [q, rd_si_eq]; rfl
      · rw [rd_si_ni q]; exact hz k k1 (by omega)

set_option maxHeartbeats 4000000 in
set_option maxRecDepth 100000 in
theorem c_X9_city {l : Launch} {σ : aw_S} {Post : Option Value → aw_S → Prop} {tw cs : Bool} (hR : σ.2.2 = RF tw cs) {a t : Nat} (hrd : RF tw cs 1 2 = some a) (hrt : RF tw cs 0 1 = some t) {B : Int → Int} {nn : Int} (hT : txC σ B nn) (wT : wfTx B nn) (hk0 : (flt B nn).1 ≠ -1 → ∀ σ', frTx a σ σ' → Post (some (.int (jI (-1)))) σ') (hk1 : (flt B nn).1 = -1 → ∀ σ', frCt a σ σ' → σ'.2.2 = RF (!tw) cs → drC σ' a (flt B nn).2 → newC σ' → Post (some (.int (jI ((flt B nn).2 0 0)))) σ')  : AE l yX9_city cX9_city 3 (some .int) 10 210 0 0 SH SH σ [.ref 0] Post := by
  show AW l yX9_city cX9_city 3 (some .int) 10 210 0 0 SH Post SH 0 0 σ 0 [some (.ref 0), none, none] []
  have htn := tw_n hrd hrt
  have ha := htn.1.1
  have ht := htn.1.2
  have h13 : a = 3 ∨ a = 13 := ha
  have u1 := wT.1
  refine a_ald0 eX9_city_0 ?_
  refine a_getR 0 1 eX9_city_1 fl_X9_10 rfl rfl sh_0 ((congrFun (congrFun hR _) _).trans rf_0_0) ?_
  refine a_cV0 eX9_city_4 lk_X9_85 mV_X4_faultPlace sh_1 ⟨_, rfl, rfl⟩ mt_X4_faultPlace rfl rfl rfl rfl (c_X4_faultPlace hR ha hrd hT wT (fun σ1 f1 h1 => ?_))
  dsimp only [Option.toList, List.cons_append, List.nil_append]
  have hfb := flF_g (B := B) (n := nn) (nn.toNat + 1) dr0 0 (by omega) wf_dr0
  have hfb2 : -1 ≤ (flt B nn).1 ∧ (flt B nn).1 ≤ nn := hfb.2
  have hR1 : σ1.2.2 = RF tw cs := by rw [f1.2]; exact hR
  have hR := hR1
  refine a_iconst eX9_city_7 ?_
  refine a_icmp_eq 13 eX9_city_8 (by decide) (by omega) (fun hT8 => ?_) (fun hF8 => ?_)
  · skip
    have hG1 := h1 (by omega)
    refine a_ald0 eX9_city_13 ?_
    refine a_getR 1 t eX9_city_14 fl_X9_19 rfl rfl sh_0 ((congrFun (congrFun hR _) _).trans hrt) ?_
    refine a_ast1 eX9_city_17 (by decide) aw_n2r ?_
    refine a_ald0 eX9_city_18 ?_
    refine a_ald0 eX9_city_19 ?_
    refine a_getR 0 1 eX9_city_20 fl_X9_10 rfl rfl sh_0 ((congrFun (congrFun hR _) _).trans rf_0_0) ?_
    refine a_getR 2 a eX9_city_23 fl_X9_89 rfl rfl sh_1 ((congrFun (congrFun hR _) _).trans hrd) ?_
    refine a_putR 1 eX9_city_26 fl_X9_19 rfl (by first | exact Or.inl ⟨_, rfl⟩ | exact Or.inr ⟨_, rfl⟩) sh_0 (fun q h => Or.inl (by cases h; rfl)) ?_
    refine a_ald0 eX9_city_29 ?_
    refine a_getR 0 1 eX9_city_30 fl_X9_10 rfl rfl sh_0 (show (aw_sr σ1 0 1 (some a)).2.2 0 0 = some 1 by show (if (0 : Nat) = 0 ∧ (0 : Int) = 1 then some a else σ1.2.2 0 0) = _; rw [if_neg (by omega), hR]; rfl) ?_
    refine a_ald1 eX9_city_33 ?_
    refine a_putR 2 eX9_city_34 fl_X9_89 rfl (by first | exact Or.inl ⟨_, rfl⟩ | exact Or.inr ⟨_, rfl⟩) sh_1 (fun q h => Or.inl (by cases h; rfl)) ?_
    have hRn : (aw_sr (aw_sr σ1 0 1 (some a)) 1 2 (some t)).2.2 = RF (!tw) cs := tw_rf hrd hrt hR
    refine AW.ex (fun s => (s.1 = σ1.1 ∧ s.2.1 = σ1.2.1) ∧ s.2.2 = RF (!tw) cs) ⟨⟨rfl, rfl⟩, hRn⟩ (fun σ2 h2 => ?_)
    obtain ⟨⟨e21, e22⟩, hR2⟩ := h2
    have hR := hR2
    refine a_ald0 eX9_city_37 ?_
    refine a_getR 0 1 eX9_city_38 fl_X9_10 rfl rfl sh_0 ((congrFun (congrFun hR _) _).trans rf_0_0) ?_
    refine a_iconst eX9_city_41 ?_
    refine a_putI 1 eX9_city_42 fl_X9_73 rfl rfl sh_1 (fun q h => Or.inl (by cases h; rfl)) ?_
    refine a_ald0 eX9_city_45 ?_
    refine a_getR 2 21 eX9_city_46 fl_X9_26 rfl rfl sh_0 ((congrFun (congrFun hR _) _).trans rf_0_2) ?_
    refine a_cV0 eX9_city_49 lk_X9_92 mV_X5_clear (sh_day (Or.inl rfl)) ⟨_, rfl, rfl⟩ mt_X5_clear rfl rfl rfl rfl (c_X5_clear (by exact hR) (fun σ3 f3 z3 z33 => ?_))
    dsimp only [Option.toList, List.cons_append, List.nil_append]
    have hR3 : σ3.2.2 = RF (!tw) cs := by rw [f3.2]; exact hR
    have hR := hR3
    refine a_ald0 eX9_city_52 ?_
    refine a_getR 5 51 eX9_city_53 fl_X9_41 rfl rfl sh_0 ((congrFun (congrFun hR _) _).trans rf_0_5) ?_
    refine a_cV0 eX9_city_56 lk_X9_95 mV_X8_clear sh_51 ⟨_, rfl, rfl⟩ mt_X8_clear rfl rfl rfl rfl (c_X8_clear hR (fun σ4 f4 z4 z44 => ?_))
    dsimp only [Option.toList, List.cons_append, List.nil_append]
    have hR4 : σ4.2.2 = RF (!tw) cs := by rw [f4.2]; exact hR
    have hR := hR4
    refine a_ald0 eX9_city_59 ?_
    refine a_getR 8 64 eX9_city_60 fl_X9_62 rfl rfl sh_0 ((congrFun (congrFun hR _) _).trans rf_0_8) ?_
    refine a_iconst eX9_city_63 ?_
    refine a_putI 0 eX9_city_64 fl_X9_96 rfl rfl sh_64 (fun q h => Or.inl (by cases h; rfl)) ?_
    refine a_iconst eX9_city_67 ?_
    refine a_ist2 eX9_city_68 (by decide) aw_n2r ?_
    refine lp_ci (σ := aw_si σ4 64 0 0) (by exact hR) (fun σ5 l2 f5 z5 => ?_) _ 0 _ (Nat.le_refl _) (by omega) ⟨fun _ _ _ => rfl, rfl⟩ (fun k k1 k2 => by omega)
    have hR5 : σ5.2.2 = RF (!tw) cs := by rw [f5.2]; exact hR
    have hR := hR5
    have eall : ∀ (b : Nat) (j : Int), ¬ (b = 1 ∧ j = 1) → ¬ (b = 21 ∧ (j = 0 ∨ j = 1 ∨ j = 6)) → b ≠ 30 → b ≠ 31 → ¬ (b = 51 ∧ j = 5) → b ≠ 52 → ¬ (b = 64 ∧ j = 0) → b ≠ 50 → σ5.1 b j = σ1.1 b j := fun b j z1 z2 z3 z4 z5 z6 z7 z8 => by
      rw [f5.1 b j z8, rd_si, if_neg z7, f4.1 b j z5 z6, f3.1 b j z2 z3 z4, rd_si, if_neg z1, e21]
    have hG5 : drC σ5 a (flt B nn).2 := drC_f ha (fun b j z => eall b j (by omega) (by omega) (by omega) (by omega) (by omega) (by omega) (by omega) (by omega)) hG1
    refine a_ald0 eX9_city_87 ?_
    refine a_getR 1 a eX9_city_88 fl_X9_19 rfl rfl sh_0 ((congrFun (congrFun hR _) _).trans htn.2.1) ?_
    refine a_getI 0 eX9_city_91 fl_X9_99 rfl rfl (sh_city ha) ?_
    refine a_eqtop (y0 := (flt B nn).2 0 0) (by exact hG5.1.1) ?_
    refine a_iret eX9_city_94 rfl rfl ⟨Nat.zero_le _, Nat.zero_le _⟩ ?_
    refine hk1 (by omega) σ5 ⟨fun b j y1 y2 y3 y4 y5 y6 y7 y8 y9 y10 y11 => ?_, ?_⟩ hR5 hG5 ⟨?_, ⟨?_, ?_, ?_⟩, fun r r1 r2 => ⟨?_, ?_⟩, ?_, fun r r1 r2 => ?_, ?_, z5⟩
    · rw [eall b j (by omega) y5 y6 y7 y8 y9 y10 y11]
      exact f1.1 b j (by omega) y2 y3 y4
    · rw [f5.2, show (aw_si σ4 64 0 0).2 = σ4.2 from rfl, f4.2, f3.2, show (aw_si σ2 1 1 0).2 = σ2.2 from rfl, e22, f1.2]
    · rw [f5.1 _ _ (by omega), rd_si_ne (by omega), f4.1 _ _ (by omega) (by omega), f3.1 _ _ (by omega) (by omega) (by omega), rd_si_eq]
    · rw [f5.1 _ _ (by omega), rd_si_ne (by omega), f4.1 _ _ (by omega) (by omega)]; exact z3.1
    · rw [f5.1 _ _ (by omega), rd_si_ne (by omega), f4.1 _ _ (by omega) (by omega)]; exact z3.2.1
    · rw [f5.1 _ _ (by omega), rd_si_ne (by omega), f4.1 _ _ (by omega) (by omega)]; exact z3.2.2
    · rw [f5.1 _ _ (by omega), rd_si_ne (by omega), f4.1 _ _ (by omega) (by omega)]; exact (z33 r r1 r2).1
    · rw [f5.1 _ _ (by omega), rd_si_ne (by omega), f4.1 _ _ (by omega) (by omega)]; exact (z33 r r1 r2).2
    · rw [f5.1 _ _ (by omega), rd_si_ne (by omega)]; exact z4
    · rw [f5.1 _ _ (by omega), rd_si_ne (by omega)]; exact z44 r r1 r2
    · rw [f5.1 _ _ (by omega), rd_si_eq]
  · skip
    refine a_iconst eX9_city_11 ?_
    refine a_iret eX9_city_12 rfl rfl ⟨Nat.zero_le _, Nat.zero_le _⟩ ?_
    exact hk0 (by omega) σ1 f1
