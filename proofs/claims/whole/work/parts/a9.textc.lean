/-! ===== the text, the class ===== -/
def txC (σ : aw_S) (B : Int → Int) (nn : Int) : Prop := σ.1 1 1 = nn ∧ ∀ i : Int, 0 ≤ i → i < nn → σ.1 2 i = B i
def wfTx (B : Int → Int) (nn : Int) : Prop := (0 ≤ nn ∧ nn ≤ 500) ∧ ∀ i : Int, 0 ≤ i → i < nn → -128 ≤ B i ∧ B i ≤ 127
def fr8 (σ σ' : aw_S) : Prop := (∀ (b : Nat) (j : Int), ¬ (b = 1 ∧ j = 8) → σ'.1 b j = σ.1 b j) ∧ σ'.2 = σ.2
def frK (σ σ' : aw_S) : Prop := (∀ (b : Nat) (j : Int), ¬ (b = 1 ∧ (8 ≤ j ∧ j ≤ 11)) → σ'.1 b j = σ.1 b j) ∧ σ'.2 = σ.2
theorem frK_rf (σ : aw_S) : frK σ σ := ⟨fun _ _ _ => rfl, rfl⟩
theorem frK_tr {σ σ1 σ2 : aw_S} (h : frK σ σ1) (h2 : frK σ1 σ2) : frK σ σ2 := ⟨fun b j q => (h2.1 b j q).trans (h.1 b j q), h2.2.trans h.2⟩
theorem txC_K {σ σ' : aw_S} {B : Int → Int} {nn : Int} (h : frK σ σ') (hT : txC σ B nn) : txC σ' B nn := ⟨(h.1 1 1 (by omega)).trans hT.1, fun i i1 i2 => (h.1 2 i (by omega)).trans (hT.2 i i1 i2)⟩
/-- the last TOKEN read is the one from q on -/
def tkC (σ : aw_S) (B : Int → Int) (nn q : Int) : Prop := σ.1 1 8 = te B nn q ∧ σ.1 1 9 = ts B nn q ∧ σ.1 1 10 = tkd B nn q
set_option maxHeartbeats 4000000 in
set_option maxRecDepth 100000 in
theorem c_X4_kindOf {l : Launch} {σ : aw_S} {Post : Option Value → aw_S → Prop} {b : Int} (hb : -128 ≤ b ∧ b ≤ 127) (hk : Post (some (.int (jI (kd b)))) σ) : AE l yX4_kindOf cX4_kindOf 1 (some .int) 0 0 0 0 SH SH σ [.int (jI b)] Post := by
  show AW l yX4_kindOf cX4_kindOf 1 (some .int) 0 0 0 0 SH Post SH 0 0 σ 0 [some (.int (jI b))] []
  refine a_ild0 eX4_kindOf_0 ?_
  refine a_bipush eX4_kindOf_1 (by decide) ?_
  refine a_icmp_lt 14 eX4_kindOf_3 (by decide) (by omega) (fun hT3 => ?_) (fun hF3 => ?_)
  · skip
    refine a_ild0 eX4_kindOf_14 ?_
    refine a_bipush eX4_kindOf_15 (by decide) ?_
    refine a_icmp_lt 28 eX4_kindOf_17 (by decide) (by omega) (fun hT17 => ?_) (fun hF17 => ?_)
    · skip
      refine a_ild0 eX4_kindOf_28 ?_
      refine a_bipush eX4_kindOf_29 (by decide) ?_
      refine a_icmp_ne 36 eX4_kindOf_31 (by decide) (by omega) (fun hT31 => ?_) (fun hF31 => ?_)
      · skip
        refine a_ild0 eX4_kindOf_36 ?_
        refine a_bipush eX4_kindOf_37 (by decide) ?_
        refine a_icmp_eq 48 eX4_kindOf_39 (by decide) (by omega) (fun hT39 => ?_) (fun hF39 => ?_)
        · skip
          refine a_iconst eX4_kindOf_48 ?_
          refine a_goto 53 eX4_kindOf_49 (by decide) ?_
          refine a_iret eX4_kindOf_53 rfl rfl ⟨Nat.zero_le _, Nat.zero_le _⟩ ?_
          exact aw_ret hk (by unfold kd; (repeat' split) <;> omega)
        · skip
          refine a_ild0 eX4_kindOf_42 ?_
          refine a_bipush eX4_kindOf_43 (by decide) ?_
          refine a_icmp_ne 52 eX4_kindOf_45 (by decide) (by omega) (fun hT45 => ?_) (fun hF45 => ?_)
          · skip
            refine a_iconst eX4_kindOf_52 ?_
            refine a_iret eX4_kindOf_53 rfl rfl ⟨Nat.zero_le _, Nat.zero_le _⟩ ?_
            exact aw_ret hk (by unfold kd; (repeat' split) <;> omega)
          · skip
            refine a_iconst eX4_kindOf_48 ?_
            refine a_goto 53 eX4_kindOf_49 (by decide) ?_
            refine a_iret eX4_kindOf_53 rfl rfl ⟨Nat.zero_le _, Nat.zero_le _⟩ ?_
            exact aw_ret hk (by unfold kd; (repeat' split) <;> omega)
      · skip
        refine a_iconst eX4_kindOf_34 ?_
        refine a_iret eX4_kindOf_35 rfl rfl ⟨Nat.zero_le _, Nat.zero_le _⟩ ?_
        exact aw_ret hk (by unfold kd; (repeat' split) <;> omega)
    · skip
      refine a_ild0 eX4_kindOf_20 ?_
      refine a_bipush eX4_kindOf_21 (by decide) ?_
      refine a_icmp_gt 28 eX4_kindOf_23 (by decide) (by omega) (fun hT23 => ?_) (fun hF23 => ?_)
      · skip
        refine a_ild0 eX4_kindOf_28 ?_
        refine a_bipush eX4_kindOf_29 (by decide) ?_
        refine a_icmp_ne 36 eX4_kindOf_31 (by decide) (by omega) (fun hT31 => ?_) (fun hF31 => ?_)
        · skip
          refine a_ild0 eX4_kindOf_36 ?_
          refine a_bipush eX4_kindOf_37 (by decide) ?_
          refine a_icmp_eq 48 eX4_kindOf_39 (by decide) (by omega) (fun hT39 => ?_) (fun hF39 => ?_)
          · skip
            refine a_iconst eX4_kindOf_48 ?_
            refine a_goto 53 eX4_kindOf_49 (by decide) ?_
            refine a_iret eX4_kindOf_53 rfl rfl ⟨Nat.zero_le _, Nat.zero_le _⟩ ?_
            exact aw_ret hk (by unfold kd; (repeat' split) <;> omega)
          · skip
            refine a_ild0 eX4_kindOf_42 ?_
            refine a_bipush eX4_kindOf_43 (by decide) ?_
            refine a_icmp_ne 52 eX4_kindOf_45 (by decide) (by omega) (fun hT45 => ?_) (fun hF45 => ?_)
            · skip
              refine a_iconst eX4_kindOf_52 ?_
              refine a_iret eX4_kindOf_53 rfl rfl ⟨Nat.zero_le _, Nat.zero_le _⟩ ?_
              exact aw_ret hk (by unfold kd; (repeat' split) <;> omega)
            · skip
              refine a_iconst eX4_kindOf_48 ?_
              refine a_goto 53 eX4_kindOf_49 (by decide) ?_
              refine a_iret eX4_kindOf_53 rfl rfl ⟨Nat.zero_le _, Nat.zero_le _⟩ ?_
              exact aw_ret hk (by unfold kd; (repeat' split) <;> omega)
        · skip
          refine a_iconst eX4_kindOf_34 ?_
          refine a_iret eX4_kindOf_35 rfl rfl ⟨Nat.zero_le _, Nat.zero_le _⟩ ?_
          exact aw_ret hk (by unfold kd; (repeat' split) <;> omega)
      · skip
        refine a_iconst eX4_kindOf_26 ?_
        refine a_iret eX4_kindOf_27 rfl rfl ⟨Nat.zero_le _, Nat.zero_le _⟩ ?_
        exact aw_ret hk (by unfold kd; (repeat' split) <;> omega)
  · skip
    refine a_ild0 eX4_kindOf_6 ?_
    refine a_bipush eX4_kindOf_7 (by decide) ?_
    refine a_icmp_gt 14 eX4_kindOf_9 (by decide) (by omega) (fun hT9 => ?_) (fun hF9 => ?_)
    · skip
      refine a_ild0 eX4_kindOf_14 ?_
      refine a_bipush eX4_kindOf_15 (by decide) ?_
      refine a_icmp_lt 28 eX4_kindOf_17 (by decide) (by omega) (fun hT17 => ?_) (fun hF17 => ?_)
      · skip
        refine a_ild0 eX4_kindOf_28 ?_
        refine a_bipush eX4_kindOf_29 (by decide) ?_
        refine a_icmp_ne 36 eX4_kindOf_31 (by decide) (by omega) (fun hT31 => ?_) (fun hF31 => ?_)
        · skip
          refine a_ild0 eX4_kindOf_36 ?_
          refine a_bipush eX4_kindOf_37 (by decide) ?_
          refine a_icmp_eq 48 eX4_kindOf_39 (by decide) (by omega) (fun hT39 => ?_) (fun hF39 => ?_)
          · skip
            refine a_iconst eX4_kindOf_48 ?_
            refine a_goto 53 eX4_kindOf_49 (by decide) ?_
            refine a_iret eX4_kindOf_53 rfl rfl ⟨Nat.zero_le _, Nat.zero_le _⟩ ?_
            exact aw_ret hk (by unfold kd; (repeat' split) <;> omega)
          · skip
            refine a_ild0 eX4_kindOf_42 ?_
            refine a_bipush eX4_kindOf_43 (by decide) ?_
            refine a_icmp_ne 52 eX4_kindOf_45 (by decide) (by omega) (fun hT45 => ?_) (fun hF45 => ?_)
            · skip
              refine a_iconst eX4_kindOf_52 ?_
              refine a_iret eX4_kindOf_53 rfl rfl ⟨Nat.zero_le _, Nat.zero_le _⟩ ?_
              exact aw_ret hk (by unfold kd; (repeat' split) <;> omega)
            · skip
              refine a_iconst eX4_kindOf_48 ?_
              refine a_goto 53 eX4_kindOf_49 (by decide) ?_
              refine a_iret eX4_kindOf_53 rfl rfl ⟨Nat.zero_le _, Nat.zero_le _⟩ ?_
              exact aw_ret hk (by unfold kd; (repeat' split) <;> omega)
        · skip
          refine a_iconst eX4_kindOf_34 ?_
          refine a_iret eX4_kindOf_35 rfl rfl ⟨Nat.zero_le _, Nat.zero_le _⟩ ?_
          exact aw_ret hk (by unfold kd; (repeat' split) <;> omega)
      · skip
        refine a_ild0 eX4_kindOf_20 ?_
        refine a_bipush eX4_kindOf_21 (by decide) ?_
        refine a_icmp_gt 28 eX4_kindOf_23 (by decide) (by omega) (fun hT23 => ?_) (fun hF23 => ?_)
        · skip
          refine a_ild0 eX4_kindOf_28 ?_
          refine a_bipush eX4_kindOf_29 (by decide) ?_
          refine a_icmp_ne 36 eX4_kindOf_31 (by decide) (by omega) (fun hT31 => ?_) (fun hF31 => ?_)
          · skip
            refine a_ild0 eX4_kindOf_36 ?_
            refine a_bipush eX4_kindOf_37 (by decide) ?_
            refine a_icmp_eq 48 eX4_kindOf_39 (by decide) (by omega) (fun hT39 => ?_) (fun hF39 => ?_)
            · skip
              refine a_iconst eX4_kindOf_48 ?_
              refine a_goto 53 eX4_kindOf_49 (by decide) ?_
              refine a_iret eX4_kindOf_53 rfl rfl ⟨Nat.zero_le _, Nat.zero_le _⟩ ?_
              exact aw_ret hk (by unfold kd; (repeat' split) <;> omega)
            · skip
              refine a_ild0 eX4_kindOf_42 ?_
              refine a_bipush eX4_kindOf_43 (by decide) ?_
              refine a_icmp_ne 52 eX4_kindOf_45 (by decide) (by omega) (fun hT45 => ?_) (fun hF45 => ?_)
              · skip
                refine a_iconst eX4_kindOf_52 ?_
                refine a_iret eX4_kindOf_53 rfl rfl ⟨Nat.zero_le _, Nat.zero_le _⟩ ?_
                exact aw_ret hk (by unfold kd; (repeat' split) <;> omega)
              · skip
                refine a_iconst eX4_kindOf_48 ?_
                refine a_goto 53 eX4_kindOf_49 (by decide) ?_
                refine a_iret eX4_kindOf_53 rfl rfl ⟨Nat.zero_le _, Nat.zero_le _⟩ ?_
                exact aw_ret hk (by unfold kd; (repeat' split) <;> omega)
          · skip
            refine a_iconst eX4_kindOf_34 ?_
            refine a_iret eX4_kindOf_35 rfl rfl ⟨Nat.zero_le _, Nat.zero_le _⟩ ?_
            exact aw_ret hk (by unfold kd; (repeat' split) <;> omega)
        · skip
          refine a_iconst eX4_kindOf_26 ?_
          refine a_iret eX4_kindOf_27 rfl rfl ⟨Nat.zero_le _, Nat.zero_le _⟩ ?_
          exact aw_ret hk (by unfold kd; (repeat' split) <;> omega)
    · skip
      refine a_iconst eX4_kindOf_12 ?_
      refine a_iret eX4_kindOf_13 rfl rfl ⟨Nat.zero_le _, Nat.zero_le _⟩ ?_
      exact aw_ret hk (by unfold kd; (repeat' split) <;> omega)

set_option maxHeartbeats 4000000 in
set_option maxRecDepth 100000 in
theorem lp_rt1 {l : Launch} {σ : aw_S} {Post : Option Value → aw_S → Prop} {tw cs : Bool} (hR : σ.2.2 = RF tw cs) {B : Int → Int} {nn : Int} (hT : txC σ B nn) (wT : wfTx B nn) {q : Int} (hq : 0 ≤ q ∧ q ≤ nn) (hk : ∀ σ2, fr8 σ σ2 → σ2.1 1 8 = ts B nn q → AW l yX4_readToken cX4_readToken 1 (none : Option Jvm.ClassFile.FieldType) 1 20 0 0 SH Post SH 0 0 (σ2) 39 [some (.ref 1)] [])  : ∀ (n : Nat) (i : Int) (σ1 : aw_S), ((nn - i).toNat ≤ n) → (q ≤ i ∧ i ≤ nn) → (fr8 σ σ1) → (σ1.1 1 8 = i) → (sp B nn 0 i = ts B nn q) → AW l yX4_readToken cX4_readToken 1 (none : Option Jvm.ClassFile.FieldType) 1 20 0 0 SH Post SH 0 0 (σ1) 0 [some (.ref 1)] [] := by
  intro n
  induction n with
  | zero =>
    intro i σ1 hm hi f1 hat hsp
    obtain ⟨t1, t2⟩ := id hT
    obtain ⟨u1, u2⟩ := id wT
    have hR : σ1.2.2 = RF tw cs := by rw [f1.2]; exact hR
    have e1 : σ1.1 1 1 = nn := (f1.1 _ _ (by omega)).trans t1
    have hby : i < nn → σ1.1 2 i = B i ∧ (-128 ≤ B i ∧ B i ≤ 127) := fun h => ⟨(f1.1 _ _ (by omega)).trans (t2 i (by omega) h), u2 i (by omega) h⟩
    have hkb := kd_b (B i)
    refine a_ald0 eX4_readToken_0 ?_
    refine a_getI 8 eX4_readToken_1 fl_X4_46 rfl rfl sh_1 ?_
    refine a_eqtop (y0 := i) (by exact hat) ?_
    refine a_ald0 eX4_readToken_4 ?_
    refine a_getI 1 eX4_readToken_5 fl_X4_29 rfl rfl sh_1 ?_
    refine a_eqtop (y0 := nn) (by exact e1) ?_
    refine a_icmp_ge 39 eX4_readToken_8 (by decide) (by omega) (fun hT8 => ?_) (fun hF8 => ?_)
    · skip
      refine hk σ1 f1 ?_
      rw [hat, ← hsp]
      exact (sp_n (by omega)).symm
    · skip
      exfalso; omega
  | succ n ih =>
    intro i σ1 hm hi f1 hat hsp
    obtain ⟨t1, t2⟩ := id hT
    obtain ⟨u1, u2⟩ := id wT
    have hR : σ1.2.2 = RF tw cs := by rw [f1.2]; exact hR
    have e1 : σ1.1 1 1 = nn := (f1.1 _ _ (by omega)).trans t1
    have hby : i < nn → σ1.1 2 i = B i ∧ (-128 ≤ B i ∧ B i ≤ 127) := fun h => ⟨(f1.1 _ _ (by omega)).trans (t2 i (by omega) h), u2 i (by omega) h⟩
    have hkb := kd_b (B i)
    refine a_ald0 eX4_readToken_0 ?_
    refine a_getI 8 eX4_readToken_1 fl_X4_46 rfl rfl sh_1 ?_
    refine a_eqtop (y0 := i) (by exact hat) ?_
    refine a_ald0 eX4_readToken_4 ?_
    refine a_getI 1 eX4_readToken_5 fl_X4_29 rfl rfl sh_1 ?_
    refine a_eqtop (y0 := nn) (by exact e1) ?_
    refine a_icmp_ge 39 eX4_readToken_8 (by decide) (by omega) (fun hT8 => ?_) (fun hF8 => ?_)
    · skip
      refine hk σ1 f1 ?_
      rw [hat, ← hsp]
      exact (sp_n (by omega)).symm
    · skip
      have hby := hby (by omega)
      refine a_ald0 eX4_readToken_11 ?_
      refine a_getR 0 2 eX4_readToken_12 fl_X4_9 rfl rfl sh_1 ((congrFun (congrFun hR _) _).trans rf_1_0) ?_
      refine a_ald0 eX4_readToken_15 ?_
      refine a_getI 8 eX4_readToken_16 fl_X4_46 rfl rfl sh_1 ?_
      refine a_eqtop (y0 := i) (by exact hat) ?_
      refine a_bald eX4_readToken_19 sh_2 rfl (by omega) ?_
      refine a_eqtop (y0 := B i) (by exact hby.1) ?_
      refine a_cS1 eX4_readToken_20 lk_X4_65 mS_X4_kindOf mt_X4_kindOf rfl rfl rfl rfl rfl (c_X4_kindOf (by omega) ?_)
      dsimp only [Option.toList, List.cons_append, List.nil_append]
      refine a_if_ne 39 eX4_readToken_23 (by decide) (by omega) (fun hT23 => ?_) (fun hF23 => ?_)
      · skip
        refine hk σ1 f1 ?_
        rw [hat, ← hsp]
        exact (sp_n (by omega)).symm
      · skip
        refine a_ald0 eX4_readToken_26 ?_
        refine a_dup eX4_readToken_27 rfl ?_
        refine a_getI 8 eX4_readToken_28 fl_X4_46 rfl rfl sh_1 ?_
        refine a_eqtop (y0 := i) (by exact hat) ?_
        refine a_iconst eX4_readToken_31 ?_
        refine a_iadd eX4_readToken_32 ?_
        refine a_putI 8 eX4_readToken_33 fl_X4_46 rfl rfl sh_1 (fun q h => Or.inl (by cases h; rfl)) ?_
        refine a_goto 0 eX4_readToken_36 (by decide) ?_
        refine ih (i + 1) _ (by omega) (by omega) ⟨fun b j z => by rw [rd_si]; rw [if_neg (by omega)]; exact f1.1 b j z, f1.2⟩ rd_si_eq ?_
        rw [← hsp]
        exact (sp_y (by omega) (by omega)).symm

set_option maxHeartbeats 4000000 in
set_option maxRecDepth 100000 in
theorem lp_rt2 {l : Launch} {σ : aw_S} {Post : Option Value → aw_S → Prop} {tw cs : Bool} (hR : σ.2.2 = RF tw cs) {B : Int → Int} {nn : Int} (hT : txC σ B nn) (wT : wfTx B nn) {q k : Int} (hk12 : k = 1 ∨ k = 2) (hk3 : σ.1 1 10 = k) (hk : ∀ σ2, fr8 σ σ2 → σ2.1 1 8 = q → Post none σ2)  : ∀ (n : Nat) (i : Int) (σ1 : aw_S), ((nn - i).toNat ≤ n) → (0 ≤ i ∧ i ≤ nn) → (fr8 σ σ1) → (σ1.1 1 8 = i) → (sp B nn k i = q) → AW l yX4_readToken cX4_readToken 1 (none : Option Jvm.ClassFile.FieldType) 1 20 0 0 SH Post SH 0 0 (σ1) 90 [some (.ref 1)] [] := by
  intro n
  induction n with
  | zero =>
    intro i σ1 hm hi f1 hat hsp
    obtain ⟨t1, t2⟩ := id hT
    obtain ⟨u1, u2⟩ := id wT
    have hR : σ1.2.2 = RF tw cs := by rw [f1.2]; exact hR
    have e1 : σ1.1 1 1 = nn := (f1.1 _ _ (by omega)).trans t1
    have hby : i < nn → σ1.1 2 i = B i ∧ (-128 ≤ B i ∧ B i ≤ 127) := fun h => ⟨(f1.1 _ _ (by omega)).trans (t2 i (by omega) h), u2 i (by omega) h⟩
    have hkb := kd_b (B i)
    have e10 : σ1.1 1 10 = k := (f1.1 _ _ (by omega)).trans hk3
    refine a_ald0 eX4_readToken_90 ?_
    refine a_getI 8 eX4_readToken_91 fl_X4_46 rfl rfl sh_1 ?_
    refine a_eqtop (y0 := i) (by exact hat) ?_
    refine a_ald0 eX4_readToken_94 ?_
    refine a_getI 1 eX4_readToken_95 fl_X4_29 rfl rfl sh_1 ?_
    refine a_eqtop (y0 := nn) (by exact e1) ?_
    refine a_icmp_ge 149 eX4_readToken_98 (by decide) (by omega) (fun hT98 => ?_) (fun hF98 => ?_)
    · skip
      refine a_vret eX4_readToken_149 rfl rfl ⟨Nat.zero_le _, Nat.zero_le _⟩ ?_
      first
        | (exfalso; omega)
        | (refine hk σ1 f1 ?_
           rw [hat, ← hsp]
           exact (sp_n (by omega)).symm)
    · skip
      exfalso; omega
  | succ n ih =>
    intro i σ1 hm hi f1 hat hsp
    obtain ⟨t1, t2⟩ := id hT
    obtain ⟨u1, u2⟩ := id wT
    have hR : σ1.2.2 = RF tw cs := by rw [f1.2]; exact hR
    have e1 : σ1.1 1 1 = nn := (f1.1 _ _ (by omega)).trans t1
    have hby : i < nn → σ1.1 2 i = B i ∧ (-128 ≤ B i ∧ B i ≤ 127) := fun h => ⟨(f1.1 _ _ (by omega)).trans (t2 i (by omega) h), u2 i (by omega) h⟩
    have hkb := kd_b (B i)
    have e10 : σ1.1 1 10 = k := (f1.1 _ _ (by omega)).trans hk3
    refine a_ald0 eX4_readToken_90 ?_
    refine a_getI 8 eX4_readToken_91 fl_X4_46 rfl rfl sh_1 ?_
    refine a_eqtop (y0 := i) (by exact hat) ?_
    refine a_ald0 eX4_readToken_94 ?_
    refine a_getI 1 eX4_readToken_95 fl_X4_29 rfl rfl sh_1 ?_
    refine a_eqtop (y0 := nn) (by exact e1) ?_
    refine a_icmp_ge 149 eX4_readToken_98 (by decide) (by omega) (fun hT98 => ?_) (fun hF98 => ?_)
    · skip
      refine a_vret eX4_readToken_149 rfl rfl ⟨Nat.zero_le _, Nat.zero_le _⟩ ?_
      first
        | (exfalso; omega)
        | (refine hk σ1 f1 ?_
           rw [hat, ← hsp]
           exact (sp_n (by omega)).symm)
    · skip
      have hby := hby (by omega)
      refine a_ald0 eX4_readToken_101 ?_
      refine a_getI 10 eX4_readToken_102 fl_X4_52 rfl rfl sh_1 ?_
      refine a_eqtop (y0 := k) (by exact e10) ?_
      refine a_iconst eX4_readToken_105 ?_
      refine a_icmp_eq 117 eX4_readToken_106 (by decide) (by omega) (fun hT106 => ?_) (fun hF106 => ?_)
      · skip
        refine a_ald0 eX4_readToken_117 ?_
        refine a_getR 0 2 eX4_readToken_118 fl_X4_9 rfl rfl sh_1 ((congrFun (congrFun hR _) _).trans rf_1_0) ?_
        refine a_ald0 eX4_readToken_121 ?_
        refine a_getI 8 eX4_readToken_122 fl_X4_46 rfl rfl sh_1 ?_
        refine a_eqtop (y0 := i) (by exact hat) ?_
        refine a_bald eX4_readToken_125 sh_2 rfl (by omega) ?_
        refine a_eqtop (y0 := B i) (by exact hby.1) ?_
        refine a_cS1 eX4_readToken_126 lk_X4_65 mS_X4_kindOf mt_X4_kindOf rfl rfl rfl rfl rfl (c_X4_kindOf (by omega) ?_)
        dsimp only [Option.toList, List.cons_append, List.nil_append]
        refine a_ald0 eX4_readToken_129 ?_
        refine a_getI 10 eX4_readToken_130 fl_X4_52 rfl rfl sh_1 ?_
        refine a_eqtop (y0 := k) (by exact e10) ?_
        refine a_icmp_ne 149 eX4_readToken_133 (by decide) (by omega) (fun hT133 => ?_) (fun hF133 => ?_)
        · skip
          refine a_vret eX4_readToken_149 rfl rfl ⟨Nat.zero_le _, Nat.zero_le _⟩ ?_
          first
            | (exfalso; omega)
            | (refine hk σ1 f1 ?_
               rw [hat, ← hsp]
               exact (sp_n (by omega)).symm)
        · skip
          refine a_ald0 eX4_readToken_136 ?_
          refine a_dup eX4_readToken_137 rfl ?_
          refine a_getI 8 eX4_readToken_138 fl_X4_46 rfl rfl sh_1 ?_
          refine a_eqtop (y0 := i) (by exact hat) ?_
          refine a_iconst eX4_readToken_141 ?_
          refine a_iadd eX4_readToken_142 ?_
          refine a_putI 8 eX4_readToken_143 fl_X4_46 rfl rfl sh_1 (fun q h => Or.inl (by cases h; rfl)) ?_
          refine a_goto 90 eX4_readToken_146 (by decide) ?_
          refine ih (i + 1) _ (by omega) (by omega) ⟨fun b j z => by rw [rd_si]; rw [if_neg (by omega)]; exact f1.1 b j z, f1.2⟩ rd_si_eq ?_
          rw [← hsp]
          exact (sp_y (by omega) (by omega)).symm
      · skip
        refine a_ald0 eX4_readToken_109 ?_
        refine a_getI 10 eX4_readToken_110 fl_X4_52 rfl rfl sh_1 ?_
        refine a_eqtop (y0 := k) (by exact e10) ?_
        refine a_iconst eX4_readToken_113 ?_
        refine a_icmp_ne 149 eX4_readToken_114 (by decide) (by omega) (fun hT114 => ?_) (fun hF114 => ?_)
        · skip
          refine a_vret eX4_readToken_149 rfl rfl ⟨Nat.zero_le _, Nat.zero_le _⟩ ?_
          first
            | (exfalso; omega)
            | (refine hk σ1 f1 ?_
               rw [hat, ← hsp]
               exact (sp_n (by omega)).symm)
        · skip
          refine a_ald0 eX4_readToken_117 ?_
          refine a_getR 0 2 eX4_readToken_118 fl_X4_9 rfl rfl sh_1 ((congrFun (congrFun hR _) _).trans rf_1_0) ?_
          refine a_ald0 eX4_readToken_121 ?_
          refine a_getI 8 eX4_readToken_122 fl_X4_46 rfl rfl sh_1 ?_
          refine a_eqtop (y0 := i) (by exact hat) ?_
          refine a_bald eX4_readToken_125 sh_2 rfl (by omega) ?_
          refine a_eqtop (y0 := B i) (by exact hby.1) ?_
          refine a_cS1 eX4_readToken_126 lk_X4_65 mS_X4_kindOf mt_X4_kindOf rfl rfl rfl rfl rfl (c_X4_kindOf (by omega) ?_)
          dsimp only [Option.toList, List.cons_append, List.nil_append]
          refine a_ald0 eX4_readToken_129 ?_
          refine a_getI 10 eX4_readToken_130 fl_X4_52 rfl rfl sh_1 ?_
          refine a_eqtop (y0 := k) (by exact e10) ?_
          refine a_icmp_ne 149 eX4_readToken_133 (by decide) (by omega) (fun hT133 => ?_) (fun hF133 => ?_)
          · skip
            refine a_vret eX4_readToken_149 rfl rfl ⟨Nat.zero_le _, Nat.zero_le _⟩ ?_
            first
              | (exfalso; omega)
              | (refine hk σ1 f1 ?_
                 rw [hat, ← hsp]
                 exact (sp_n (by omega)).symm)
          · skip
            refine a_ald0 eX4_readToken_136 ?_
            refine a_dup eX4_readToken_137 rfl ?_
            refine a_getI 8 eX4_readToken_138 fl_X4_46 rfl rfl sh_1 ?_
            refine a_eqtop (y0 := i) (by exact hat) ?_
            refine a_iconst eX4_readToken_141 ?_
            refine a_iadd eX4_readToken_142 ?_
            refine a_putI 8 eX4_readToken_143 fl_X4_46 rfl rfl sh_1 (fun q h => Or.inl (by cases h; rfl)) ?_
            refine a_goto 90 eX4_readToken_146 (by decide) ?_
            refine ih (i + 1) _ (by omega) (by omega) ⟨fun b j z => by rw [rd_si]; rw [if_neg (by omega)]; exact f1.1 b j z, f1.2⟩ rd_si_eq ?_
            rw [← hsp]
            exact (sp_y (by omega) (by omega)).symm

set_option maxHeartbeats 4000000 in
set_option maxRecDepth 100000 in
theorem c_X4_readToken {l : Launch} {σ : aw_S} {Post : Option Value → aw_S → Prop} {tw cs : Bool} (hR : σ.2.2 = RF tw cs) {B : Int → Int} {nn : Int} (hT : txC σ B nn) (wT : wfTx B nn) {q : Int} (hq : 0 ≤ q ∧ q ≤ nn) (hat : σ.1 1 8 = q) (hk : ∀ σ', frK σ σ' → tkC σ' B nn q → Post none σ')  : AE l yX4_readToken cX4_readToken 1 (none : Option Jvm.ClassFile.FieldType) 1 20 0 0 SH SH σ [.ref 1] Post := by
  show AW l yX4_readToken cX4_readToken 1 (none : Option Jvm.ClassFile.FieldType) 1 20 0 0 SH Post SH 0 0 σ 0 [some (.ref 1)] []
  refine lp_rt1 hR hT wT hq (fun σ1 f1 hs1 => ?_) _ q σ (Nat.le_refl _) (by omega) ⟨fun _ _ _ => rfl, rfl⟩ hat rfl
  obtain ⟨t1, t2⟩ := id hT
  obtain ⟨u1, u2⟩ := id wT
  have hR1 : σ1.2.2 = RF tw cs := by rw [f1.2]; exact hR
  have hR := hR1
  have e1 : σ1.1 1 1 = nn := (f1.1 _ _ (by omega)).trans t1
  have b0 := tok_b (B := B) hq
  have hby : ts B nn q < nn → σ1.1 2 (ts B nn q) = B (ts B nn q) ∧ (-128 ≤ B (ts B nn q) ∧ B (ts B nn q) ≤ 127) := fun h => ⟨(f1.1 _ _ (by omega)).trans (t2 _ (by omega) h), u2 _ (by omega) h⟩
  refine a_ald0 eX4_readToken_39 ?_
  refine a_ald0 eX4_readToken_40 ?_
  refine a_getI 8 eX4_readToken_41 fl_X4_46 rfl rfl sh_1 ?_
  refine a_eqtop (y0 := ts B nn q) (by exact hs1) ?_
  refine a_putI 9 eX4_readToken_44 fl_X4_62 rfl rfl sh_1 (fun q h => Or.inl (by cases h; rfl)) ?_
  refine a_ald0 eX4_readToken_47 ?_
  refine a_getI 8 eX4_readToken_48 fl_X4_46 rfl rfl sh_1 ?_
  refine a_eqtop (y0 := ts B nn q) (by rw [rd_si_ni (by omega)]; exact hs1) ?_
  refine a_ald0 eX4_readToken_51 ?_
  refine a_getI 1 eX4_readToken_52 fl_X4_29 rfl rfl sh_1 ?_
  refine a_eqtop (y0 := nn) (by rw [rd_si_ni (by omega)]; exact e1) ?_
  refine a_icmp_lt 64 eX4_readToken_55 (by decide) (by omega) (fun hT55 => ?_) (fun hF55 => ?_)
  · skip
    have hby := hby (by omega)
    have b1 := b0.2.2.2.1 (by omega)
    refine a_ald0 eX4_readToken_64 ?_
    refine a_ald0 eX4_readToken_65 ?_
    refine a_getR 0 2 eX4_readToken_66 fl_X4_9 rfl rfl sh_1 ((congrFun (congrFun hR _) _).trans rf_1_0) ?_
    refine a_ald0 eX4_readToken_69 ?_
    refine a_getI 8 eX4_readToken_70 fl_X4_46 rfl rfl sh_1 ?_
    refine a_eqtop (y0 := ts B nn q) (by rw [rd_si_ni (by omega)]; exact hs1) ?_
    refine a_bald eX4_readToken_73 sh_2 rfl (by omega) ?_
    refine a_eqtop (y0 := B (ts B nn q)) (by rw [rd_si_ne (by omega)]; exact hby.1) ?_
    refine a_cS1 eX4_readToken_74 lk_X4_65 mS_X4_kindOf mt_X4_kindOf rfl rfl rfl rfl rfl (c_X4_kindOf (by omega) ?_)
    dsimp only [Option.toList, List.cons_append, List.nil_append]
    refine a_eqtop (y0 := tkd B nn q) (by exact b1.2.1.symm) ?_
    refine a_putI 10 eX4_readToken_77 fl_X4_52 rfl rfl sh_1 (fun q h => Or.inl (by cases h; rfl)) ?_
    refine a_ald0 eX4_readToken_80 ?_
    refine a_dup eX4_readToken_81 rfl ?_
    refine a_getI 8 eX4_readToken_82 fl_X4_46 rfl rfl sh_1 ?_
    refine a_eqtop (y0 := ts B nn q) (by rw [rd_si_ni (by omega), rd_si_ni (by omega)]; exact hs1) ?_
    refine a_iconst eX4_readToken_85 ?_
    refine a_iadd eX4_readToken_86 ?_
    refine a_putI 8 eX4_readToken_87 fl_X4_46 rfl rfl sh_1 (fun q h => Or.inl (by cases h; rfl)) ?_
    by_cases h12 : tkd B nn q = 1 ∨ tkd B nn q = 2
    · have ete : te B nn q = sp B nn (tkd B nn q) (ts B nn q + 1) := by
        unfold te
        rw [if_pos (by omega), if_pos h12]
        exact sp_y (by omega) (by omega)
      refine lp_rt2 (σ := (aw_si (aw_si (aw_si σ1 1 9 (ts B nn q)) 1 10 (tkd B nn q)) 1 8 (ts B nn q + 1))) (q := te B nn q) (k := tkd B nn q) (by exact hR) (txC_K ⟨fun b j z => by simp only [rd_si]; (repeat rw [if_neg (by omega)]); exact f1.1 b j (by omega), f1.2⟩ hT) wT h12 (by rw [rd_si_ni (by omega), rd_si_eq]) (fun σ4 f4 h4 => ?_) _ (ts B nn q + 1) _ (Nat.le_refl _) (by omega) ⟨fun _ _ _ => rfl, rfl⟩ rd_si_eq ete.symm
      refine hk σ4 ⟨fun b j z => ?_, ?_⟩ ⟨h4, ?_, ?_⟩
      · rw [f4.1 b j (by omega)]
        simp only [rd_si]
        (repeat rw [if_neg (by omega)])
        exact f1.1 b j (by omega)
      · rw [f4.2]
        exact f1.2
      · rw [f4.1 1 9 (by omega), rd_si_ni (by omega), rd_si_ni (by omega), rd_si_eq]
      · rw [f4.1 1 10 (by omega), rd_si_ni (by omega), rd_si_eq]
    · have ete : te B nn q = ts B nn q + 1 := by
        unfold te
        rw [if_pos (by omega), if_neg h12]
      refine AW.st (σ' := (aw_si (aw_si (aw_si σ1 1 9 (ts B nn q)) 1 10 (tkd B nn q)) 1 8 (ts B nn q + 1))) rfl ?_
      refine a_ald0 eX4_readToken_90 ?_
      refine a_getI 8 eX4_readToken_91 fl_X4_46 rfl rfl sh_1 ?_
      refine a_eqtop (y0 := ts B nn q + 1) (by exact rd_si_eq) ?_
      refine a_ald0 eX4_readToken_94 ?_
      refine a_getI 1 eX4_readToken_95 fl_X4_29 rfl rfl sh_1 ?_
      refine a_eqtop (y0 := nn) (by rw [rd_si_ni (by omega), rd_si_ni (by omega), rd_si_ni (by omega)]; exact e1) ?_
      refine a_icmp_ge 149 eX4_readToken_98 (by decide) (by omega) (fun hT98 => ?_) (fun hF98 => ?_)
      · skip
        refine a_vret eX4_readToken_149 rfl rfl ⟨Nat.zero_le _, Nat.zero_le _⟩ ?_
        refine hk _ ⟨fun b j z => ?_, f1.2⟩ ⟨?_, ?_, ?_⟩
        · simp only [rd_si]
          (repeat rw [if_neg (by omega)])
          exact f1.1 b j (by omega)
        · rw [ete]; exact rd_si_eq
        · rw [rd_si_ni (by omega), rd_si_ni (by omega), rd_si_eq]
        · rw [rd_si_ni (by omega), rd_si_eq]
      · skip
        refine a_ald0 eX4_readToken_101 ?_
        refine a_getI 10 eX4_readToken_102 fl_X4_52 rfl rfl sh_1 ?_
        refine a_eqtop (y0 := tkd B nn q) (by rw [rd_si_ni (by omega), rd_si_eq]) ?_
        refine a_iconst eX4_readToken_105 ?_
        refine a_icmp_eq 117 eX4_readToken_106 (by decide) (by omega) (fun hT106 => ?_) (fun hF106 => ?_)
        · skip
          exfalso; omega
        · skip
          refine a_ald0 eX4_readToken_109 ?_
          refine a_getI 10 eX4_readToken_110 fl_X4_52 rfl rfl sh_1 ?_
          refine a_eqtop (y0 := tkd B nn q) (by rw [rd_si_ni (by omega), rd_si_eq]) ?_
          refine a_iconst eX4_readToken_113 ?_
          refine a_icmp_ne 149 eX4_readToken_114 (by decide) (by omega) (fun hT114 => ?_) (fun hF114 => ?_)
          · skip
            refine a_vret eX4_readToken_149 rfl rfl ⟨Nat.zero_le _, Nat.zero_le _⟩ ?_
            refine hk _ ⟨fun b j z => ?_, f1.2⟩ ⟨?_, ?_, ?_⟩
            · simp only [rd_si]
              (repeat rw [if_neg (by omega)])
              exact f1.1 b j (by omega)
            · rw [ete]; exact rd_si_eq
            · rw [rd_si_ni (by omega), rd_si_ni (by omega), rd_si_eq]
            · rw [rd_si_ni (by omega), rd_si_eq]
          · skip
            exfalso; omega
  · skip
    refine a_ald0 eX4_readToken_58 ?_
    refine a_iconst eX4_readToken_59 ?_
    refine a_putI 10 eX4_readToken_60 fl_X4_52 rfl rfl sh_1 (fun q h => Or.inl (by cases h; rfl)) ?_
    refine a_vret eX4_readToken_63 rfl rfl ⟨Nat.zero_le _, Nat.zero_le _⟩ ?_
    have b1 := b0.2.2.2.2 (by omega)
    refine hk _ ⟨fun b j z => ?_, f1.2⟩ ⟨?_, ?_, ?_⟩
    · simp only [rd_si]
      (repeat rw [if_neg (by omega)])
      exact f1.1 b j (by omega)
    · rw [rd_si_ni (by omega), rd_si_ni (by omega), b1.2.1]; exact hs1
    · rw [rd_si_ni (by omega), rd_si_eq]
    · rw [rd_si_eq]; exact b1.1.symm
