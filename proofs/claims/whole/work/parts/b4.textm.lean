/-! ===== the text, the reference ===== -/
theorem rl_eq {σ : aw_S} {a : Nat} {k v : Int} : (aw_sl σ a k v).2.1 a k = v := if_pos ⟨rfl, rfl⟩
theorem rl_si {σ : aw_S} {a b : Nat} {k j v : Int} : (aw_si σ a k v).2.1 b j = σ.2.1 b j := rfl
theorem rl_ne {σ : aw_S} {a b : Nat} {k j v : Int} (h : ¬ (b = a ∧ j = k)) : (aw_sl σ a k v).2.1 b j = σ.2.1 b j := if_neg h
theorem rl_s1 {σ : aw_S} {a b : Nat} {k j v : Int} : (aw_sl σ a k v).1 b j = σ.1 b j := rfl
theorem jL_bvN (n : Nat) : (jL (n : Int)).toBitVec = BitVec.ofNat 64 n := by
  show (Int64.ofInt (n : Int)).toBitVec = _
  rw [Int64.toBitVec_ofInt, BitVec.ofInt_natCast]
theorem jL_or {x y : Int} (hx : 0 ≤ x) (hy : 0 ≤ y) : jL x ||| jL y = jL ((x.toNat ||| y.toNat : Nat) : Int) := by
  obtain ⟨n, rfl⟩ := Int.eq_ofNat_of_zero_le hx
  obtain ⟨m, rfl⟩ := Int.eq_ofNat_of_zero_le hy
  apply Int64.toBitVec_inj.mp
  rw [Int64.toBitVec_or, jL_bvN, jL_bvN, jL_bvN, BitVec.ofNat_or]
  rfl
theorem jL_or8 {x b : Int} (hx : 0 ≤ x) (hb : 0 ≤ b ∧ b < 256) : jL (x * 256) ||| jL b = jL (x * 256 + b) := by
  rw [jL_or (by omega) hb.1]
  congr 1
  obtain ⟨n, rfl⟩ := Int.eq_ofNat_of_zero_le hx
  obtain ⟨m, rfl⟩ := Int.eq_ofNat_of_zero_le hb.1
  have h : 2 ^ 8 * n + m = 2 ^ 8 * n ||| m := Nat.two_pow_add_eq_or_of_lt (by omega) n
  rw [show ((n : Int) * 256).toNat = 2 ^ 8 * n by omega, Int.toNat_natCast, ← h]
  omega
theorem jL_shl8 {x : Int} : jL x <<< ((jI 8).toInt64 &&& 63) = jL (x * 256) := by
  have e : ((jI 8).toInt64 &&& 63 : Int64) = 8 := by decide
  rw [e, ← jL_mul]
  apply Int64.toBitVec_inj.mp
  rw [Int64.toBitVec_mul, Int64.toBitVec_shiftLeft]
  have e2 : (jL 256).toBitVec = BitVec.twoPow 64 8 := by decide
  rw [e2, BitVec.mul_twoPow_eq_shiftLeft]
  rfl
theorem lcm_e (a b : Int) : (lcm a b = 0 ↔ a = b) ∧ (lcm a b < 0 ↔ a < b) ∧ (lcm a b ≤ 0 ↔ a ≤ b) ∧ (-1 ≤ lcm a b ∧ lcm a b ≤ 1) := by
  unfold lcm
  (repeat' split) <;> omega
def frKM (σ σ' : aw_S) : Prop := (∀ (b : Nat) (j : Int), ¬ (b = 171 ∧ (2 ≤ j ∧ j ≤ 4)) → σ'.1 b j = σ.1 b j) ∧ (∀ (b : Nat) (j : Int), ¬ (b = 171 ∧ j = 5) → σ'.2.1 b j = σ.2.1 b j) ∧ σ'.2.2 = σ.2.2
theorem frKM_rf (σ : aw_S) : frKM σ σ := ⟨fun _ _ _ => rfl, fun _ _ _ => rfl, rfl⟩
theorem frKM_tr {σ σ1 σ2 : aw_S} (h : frKM σ σ1) (h2 : frKM σ1 σ2) : frKM σ σ2 := ⟨fun b j q => (h2.1 b j q).trans (h.1 b j q), fun b j q => (h2.2.1 b j q).trans (h.2.1 b j q), h2.2.2.trans h.2.2⟩
theorem txM_K {σ σ' : aw_S} {B : Int → Int} {n : Int} (h : frKM σ σ') (hT : txM σ B n) : txM σ' B n := ⟨(h.1 171 1 (by omega)).trans hT.1, fun i i1 i2 => (h.1 172 i (by omega)).trans (hT.2 i i1 i2)⟩
/-- the reference's current TOKEN is the one from q on -/
def tkM (σ : aw_S) (B : Int → Int) (n q : Int) : Prop := σ.1 171 2 = te B n q ∧ σ.1 171 4 = ts B n q ∧ σ.1 171 3 = (if tkd B n q = 5 then 0 else tkd B n q) ∧ (tkd B n q = 1 → σ.2.1 171 5 = wv B n q) ∧ (tkd B n q = 2 → σ.2.1 171 5 = nv B n q)
theorem nvf_s {f : Nat → Int} {k s : Int} (h : s ≤ k) : nvf f (k + 1 - s).toNat = if 9999 < nvf f (k - s).toNat then nvf f (k - s).toNat else 10 * nvf f (k - s).toNat + f (k - s).toNat - 48 := by
  rw [show (k + 1 - s).toNat = (k - s).toNat + 1 by omega]
  rfl
theorem pkv_s {f : Nat → Int} {k s : Int} (h : s ≤ k) : pkv f (k + 1 - s).toNat = pkv f (k - s).toNat * 256 + f (k - s).toNat := by
  rw [show (k + 1 - s).toNat = (k - s).toNat + 1 by omega]
  rfl
/-- what the reference has of a word, of which it has read up to k -/
def wpp (B : Int → Int) (s k : Int) : Int := if k - s < 8 then pkv (sgn B s) (k - s).toNat else pkv (sgn B s) 8
set_option maxHeartbeats 4000000 in
set_option maxRecDepth 100000 in
theorem lp_ld1 {l : Launch} {σ : aw_S} {Post : Option Value → aw_S → Prop} {tw cs : Bool} (hR : σ.2.2 = RF tw cs) {B : Int → Int} {nn : Int} (hT : txM σ B nn) (wT : wfTx B nn) {q : Int} (hq : 0 ≤ q ∧ q ≤ nn) (hk : ∀ σ2, frKM σ σ2 → σ2.1 171 2 = ts B nn q → AW l yX10_leads cX10_leads 2 (none : Option Jvm.ClassFile.FieldType) 1 20 0 0 SH Post SH 0 0 (σ2) 52 [some (.ref 171), none] [])  : ∀ (n : Nat) (i : Int) (σ1 : aw_S), ((nn - i).toNat ≤ n) → (q ≤ i ∧ i ≤ nn) → (frKM σ σ1) → (σ1.1 171 2 = i) → (sp B nn 0 i = ts B nn q) → AW l yX10_leads cX10_leads 2 (none : Option Jvm.ClassFile.FieldType) 1 20 0 0 SH Post SH 0 0 (σ1) 0 [some (.ref 171), none] [] := by
  intro n
  induction n with
  | zero =>
    intro i σ1 hm hi f1 hat hsp
    obtain ⟨t1, t2⟩ := id hT
    obtain ⟨u1, u2⟩ := id wT
    have hR : σ1.2.2 = RF tw cs := by rw [f1.2.2]; exact hR
    have e1 : σ1.1 171 1 = nn := (f1.1 _ _ (by omega)).trans t1
    have hby : i < nn → σ1.1 172 i = B i ∧ (-128 ≤ B i ∧ B i ≤ 127) := fun h => ⟨(f1.1 _ _ (by omega)).trans (t2 i (by omega) h), u2 i (by omega) h⟩
    refine a_ald0 eX10_leads_0 ?_
    refine a_getI 2 eX10_leads_1 fl_X10_132 rfl rfl sh_171 ?_
    refine a_eqtop (y0 := i) (by exact hat) ?_
    refine a_ald0 eX10_leads_4 ?_
    refine a_getI 1 eX10_leads_5 fl_X10_124 rfl rfl sh_171 ?_
    refine a_eqtop (y0 := nn) (by exact e1) ?_
    refine a_icmp_ge 52 eX10_leads_8 (by decide) (by omega) (fun hT8 => ?_) (fun hF8 => ?_)
    · skip
      refine hk σ1 f1 ?_
      rw [hat, ← hsp]
      exact (sp_n (fun z => by have := kd_0.mp z.2; omega)).symm
    · skip
      exfalso; omega
  | succ n ih =>
    intro i σ1 hm hi f1 hat hsp
    obtain ⟨t1, t2⟩ := id hT
    obtain ⟨u1, u2⟩ := id wT
    have hR : σ1.2.2 = RF tw cs := by rw [f1.2.2]; exact hR
    have e1 : σ1.1 171 1 = nn := (f1.1 _ _ (by omega)).trans t1
    have hby : i < nn → σ1.1 172 i = B i ∧ (-128 ≤ B i ∧ B i ≤ 127) := fun h => ⟨(f1.1 _ _ (by omega)).trans (t2 i (by omega) h), u2 i (by omega) h⟩
    refine a_ald0 eX10_leads_0 ?_
    refine a_getI 2 eX10_leads_1 fl_X10_132 rfl rfl sh_171 ?_
    refine a_eqtop (y0 := i) (by exact hat) ?_
    refine a_ald0 eX10_leads_4 ?_
    refine a_getI 1 eX10_leads_5 fl_X10_124 rfl rfl sh_171 ?_
    refine a_eqtop (y0 := nn) (by exact e1) ?_
    refine a_icmp_ge 52 eX10_leads_8 (by decide) (by omega) (fun hT8 => ?_) (fun hF8 => ?_)
    · skip
      refine hk σ1 f1 ?_
      rw [hat, ← hsp]
      exact (sp_n (fun z => by have := kd_0.mp z.2; omega)).symm
    · skip
      have hby := hby (by omega)
      refine a_ald0 eX10_leads_11 ?_
      refine a_getR 0 172 eX10_leads_12 fl_X10_9 rfl rfl sh_171 ((congrFun (congrFun hR _) _).trans rf_171_0) ?_
      refine a_ald0 eX10_leads_15 ?_
      refine a_getI 2 eX10_leads_16 fl_X10_132 rfl rfl sh_171 ?_
      refine a_eqtop (y0 := i) (by exact hat) ?_
      refine a_bald eX10_leads_19 sh_172 rfl (by omega) ?_
      refine a_eqtop (y0 := B i) (by exact hby.1) ?_
      refine a_bipush eX10_leads_20 (by decide) ?_
      refine a_icmp_eq 39 eX10_leads_22 (by decide) (by omega) (fun hT22 => ?_) (fun hF22 => ?_)
      · skip
        refine a_ald0 eX10_leads_39 ?_
        refine a_dup eX10_leads_40 rfl ?_
        refine a_getI 2 eX10_leads_41 fl_X10_132 rfl rfl sh_171 ?_
        refine a_eqtop (y0 := i) (by exact hat) ?_
        refine a_iconst eX10_leads_44 ?_
        refine a_iadd eX10_leads_45 ?_
        refine a_putI 2 eX10_leads_46 fl_X10_132 rfl rfl sh_171 (fun q h => Or.inl (by cases h; rfl)) ?_
        refine a_goto 0 eX10_leads_49 (by decide) ?_
        refine ih (i + 1) _ (by omega) (by omega) ⟨fun b j z => by rw [rd_si, if_neg (by omega)]; exact f1.1 b j z, f1.2.1, f1.2.2⟩ rd_si_eq ?_
        rw [← hsp]
        exact (sp_y (by omega) (kd_0.mpr (by omega))).symm
      · skip
        refine a_ald0 eX10_leads_25 ?_
        refine a_getR 0 172 eX10_leads_26 fl_X10_9 rfl rfl sh_171 ((congrFun (congrFun hR _) _).trans rf_171_0) ?_
        refine a_ald0 eX10_leads_29 ?_
        refine a_getI 2 eX10_leads_30 fl_X10_132 rfl rfl sh_171 ?_
        refine a_eqtop (y0 := i) (by exact hat) ?_
        refine a_bald eX10_leads_33 sh_172 rfl (by omega) ?_
        refine a_eqtop (y0 := B i) (by exact hby.1) ?_
        refine a_bipush eX10_leads_34 (by decide) ?_
        refine a_icmp_ne 52 eX10_leads_36 (by decide) (by omega) (fun hT36 => ?_) (fun hF36 => ?_)
        · skip
          refine hk σ1 f1 ?_
          rw [hat, ← hsp]
          exact (sp_n (fun z => by have := kd_0.mp z.2; omega)).symm
        · skip
          refine a_ald0 eX10_leads_39 ?_
          refine a_dup eX10_leads_40 rfl ?_
          refine a_getI 2 eX10_leads_41 fl_X10_132 rfl rfl sh_171 ?_
          refine a_eqtop (y0 := i) (by exact hat) ?_
          refine a_iconst eX10_leads_44 ?_
          refine a_iadd eX10_leads_45 ?_
          refine a_putI 2 eX10_leads_46 fl_X10_132 rfl rfl sh_171 (fun q h => Or.inl (by cases h; rfl)) ?_
          refine a_goto 0 eX10_leads_49 (by decide) ?_
          refine ih (i + 1) _ (by omega) (by omega) ⟨fun b j z => by rw [rd_si, if_neg (by omega)]; exact f1.1 b j z, f1.2.1, f1.2.2⟩ rd_si_eq ?_
          rw [← hsp]
          exact (sp_y (by omega) (kd_0.mpr (by omega))).symm

set_option maxHeartbeats 4000000 in
set_option maxRecDepth 100000 in
theorem lp_ld2 {l : Launch} {σ : aw_S} {Post : Option Value → aw_S → Prop} {tw cs : Bool} (hR : σ.2.2 = RF tw cs) {B : Int → Int} {nn : Int} (hT : txM σ B nn) (wT : wfTx B nn) {s0 e0 : Int} {l1 : Option Value} (hs : 0 ≤ s0 ∧ s0 ≤ nn) (hk : ∀ σ2, frKM σ σ2 → σ2.1 171 2 = e0 → σ2.1 171 4 = s0 → σ2.2.1 171 5 = wpp B s0 e0 → (s0 ≤ e0 ∧ e0 ≤ nn) → AW l yX10_leads cX10_leads 2 (none : Option Jvm.ClassFile.FieldType) 1 20 0 0 SH Post SH 0 0 (σ2) 174 [some (.ref 171), l1] [])  : ∀ (n : Nat) (i : Int) (σ1 : aw_S), ((nn - i).toNat ≤ n) → (s0 ≤ i ∧ i ≤ nn) → (frKM σ σ1) → (σ1.1 171 2 = i) → (σ1.1 171 4 = s0) → (σ1.2.1 171 5 = wpp B s0 i) → (∀ j : Nat, j < (i - s0).toNat → 97 ≤ sgn B s0 j ∧ sgn B s0 j ≤ 122) → (sp B nn 1 i = e0) → AW l yX10_leads cX10_leads 2 (none : Option Jvm.ClassFile.FieldType) 1 20 0 0 SH Post SH 0 0 (σ1) 99 [some (.ref 171), l1] [] := by
  intro n
  induction n with
  | zero =>
    intro i σ1 hm hi f1 hat hst hv hal hsp
    obtain ⟨t1, t2⟩ := id hT
    obtain ⟨u1, u2⟩ := id wT
    have hR : σ1.2.2 = RF tw cs := by rw [f1.2.2]; exact hR
    have e1 : σ1.1 171 1 = nn := (f1.1 _ _ (by omega)).trans t1
    have hby : i < nn → σ1.1 172 i = B i ∧ (-128 ≤ B i ∧ B i ≤ 127) := fun h => ⟨(f1.1 _ _ (by omega)).trans (t2 i (by omega) h), u2 i (by omega) h⟩
    have hpb := (pkv_b (f := sgn B s0) (i - s0).toNat hal).1
    refine a_ald0 eX10_leads_99 ?_
    refine a_getI 2 eX10_leads_100 fl_X10_132 rfl rfl sh_171 ?_
    refine a_eqtop (y0 := i) (by exact hat) ?_
    refine a_ald0 eX10_leads_103 ?_
    refine a_getI 1 eX10_leads_104 fl_X10_124 rfl rfl sh_171 ?_
    refine a_eqtop (y0 := nn) (by exact e1) ?_
    refine a_icmp_ge 174 eX10_leads_107 (by decide) (by omega) (fun hT107 => ?_) (fun hF107 => ?_)
    · skip
      have hie : i = e0 := by
        rw [← hsp]
        refine (sp_n (fun z => ?_)).symm
        have := kd_1.mp z.2
        omega
      rw [← hie] at hk
      exact hk σ1 f1 hat hst hv (by omega)
    · skip
      exfalso; omega
  | succ n ih =>
    intro i σ1 hm hi f1 hat hst hv hal hsp
    obtain ⟨t1, t2⟩ := id hT
    obtain ⟨u1, u2⟩ := id wT
    have hR : σ1.2.2 = RF tw cs := by rw [f1.2.2]; exact hR
    have e1 : σ1.1 171 1 = nn := (f1.1 _ _ (by omega)).trans t1
    have hby : i < nn → σ1.1 172 i = B i ∧ (-128 ≤ B i ∧ B i ≤ 127) := fun h => ⟨(f1.1 _ _ (by omega)).trans (t2 i (by omega) h), u2 i (by omega) h⟩
    have hpb := (pkv_b (f := sgn B s0) (i - s0).toNat hal).1
    refine a_ald0 eX10_leads_99 ?_
    refine a_getI 2 eX10_leads_100 fl_X10_132 rfl rfl sh_171 ?_
    refine a_eqtop (y0 := i) (by exact hat) ?_
    refine a_ald0 eX10_leads_103 ?_
    refine a_getI 1 eX10_leads_104 fl_X10_124 rfl rfl sh_171 ?_
    refine a_eqtop (y0 := nn) (by exact e1) ?_
    refine a_icmp_ge 174 eX10_leads_107 (by decide) (by omega) (fun hT107 => ?_) (fun hF107 => ?_)
    · skip
      have hie : i = e0 := by
        rw [← hsp]
        refine (sp_n (fun z => ?_)).symm
        have := kd_1.mp z.2
        omega
      rw [← hie] at hk
      exact hk σ1 f1 hat hst hv (by omega)
    · skip
      have hby := hby (by omega)
      refine a_ald0 eX10_leads_110 ?_
      refine a_getR 0 172 eX10_leads_111 fl_X10_9 rfl rfl sh_171 ((congrFun (congrFun hR _) _).trans rf_171_0) ?_
      refine a_ald0 eX10_leads_114 ?_
      refine a_getI 2 eX10_leads_115 fl_X10_132 rfl rfl sh_171 ?_
      refine a_eqtop (y0 := i) (by exact hat) ?_
      refine a_bald eX10_leads_118 sh_172 rfl (by omega) ?_
      refine a_eqtop (y0 := B i) (by exact hby.1) ?_
      refine a_cS1 eX10_leads_119 lk_X10_145 mS_X10_isLetter mt_X10_isLetter rfl rfl rfl rfl rfl (c_X10_isLetter (by omega) (fun hT119 => ?_) (fun hF119 => ?_))
      · skip
        dsimp only [Option.toList, List.cons_append, List.nil_append]
        refine a_if_eq 174 eX10_leads_122 (by decide) (by omega) (fun h => absurd h (by decide)) (fun _ => ?_)
        refine a_ald0 eX10_leads_125 ?_
        refine a_getI 2 eX10_leads_126 fl_X10_132 rfl rfl sh_171 ?_
        refine a_eqtop (y0 := i) (by exact hat) ?_
        refine a_ald0 eX10_leads_129 ?_
        refine a_getI 4 eX10_leads_130 fl_X10_135 rfl rfl sh_171 ?_
        refine a_eqtop (y0 := s0) (by exact hst) ?_
        refine a_isub eX10_leads_133 ?_
        refine a_bipush eX10_leads_134 (by decide) ?_
        refine a_icmp_ge 161 eX10_leads_136 (by decide) (by omega) (fun hT136 => ?_) (fun hF136 => ?_)
        · skip
          refine a_ald0 eX10_leads_161 ?_
          refine a_dup eX10_leads_162 rfl ?_
          refine a_getI 2 eX10_leads_163 fl_X10_132 rfl rfl sh_171 ?_
          refine a_eqtop (y0 := i) (by exact hat) ?_
          refine a_iconst eX10_leads_166 ?_
          refine a_iadd eX10_leads_167 ?_
          refine a_putI 2 eX10_leads_168 fl_X10_132 rfl rfl sh_171 (fun q h => Or.inl (by cases h; rfl)) ?_
          refine a_goto 99 eX10_leads_171 (by decide) ?_
          have hal' : ∀ j : Nat, j < (i + 1 - s0).toNat → 97 ≤ sgn B s0 j ∧ sgn B s0 j ≤ 122 := fun j hj => by
            by_cases z : j = (i - s0).toNat
            · rw [z, sgn_k (by omega)]; omega
            · exact hal j (by omega)
          refine ih (i + 1) _ (by omega) (by omega) ⟨fun b j z => by rw [rd_si, if_neg (by omega)]; exact f1.1 b j z, f1.2.1, f1.2.2⟩ rd_si_eq (by rw [rd_si_ni (by omega)]; exact hst) ?_ hal' ?_
          · rw [rl_si, hv]; unfold wpp; rw [if_neg (by omega), if_neg (by omega)]
          · rw [← hsp]
            exact (sp_y (by omega) (kd_1.mpr (by omega))).symm
        · skip
          refine a_ald0 eX10_leads_139 ?_
          refine a_ald0 eX10_leads_140 ?_
          refine a_getL 5 eX10_leads_141 fl_X10_138 rfl rfl sh_171 ?_
          refine a_eqtopL (y0 := pkv (sgn B s0) (i - s0).toNat) (by rw [hv]; unfold wpp; rw [if_pos (by omega)]) ?_
          refine a_bipush eX10_leads_144 (by decide) ?_
          refine a_lshl (pkv (sgn B s0) (i - s0).toNat * 256) eX10_leads_146 jL_shl8 ?_
          refine a_ald0 eX10_leads_147 ?_
          refine a_getR 0 172 eX10_leads_148 fl_X10_9 rfl rfl sh_171 ((congrFun (congrFun hR _) _).trans rf_171_0) ?_
          refine a_ald0 eX10_leads_151 ?_
          refine a_getI 2 eX10_leads_152 fl_X10_132 rfl rfl sh_171 ?_
          refine a_eqtop (y0 := i) (by exact hat) ?_
          refine a_bald eX10_leads_155 sh_172 rfl (by omega) ?_
          refine a_eqtop (y0 := B i) (by exact hby.1) ?_
          refine a_i2l eX10_leads_156 (by omega) ?_
          refine a_lor (pkv (sgn B s0) (i - s0).toNat * 256 + B i) eX10_leads_157 (jL_or8 hpb (by omega)) ?_
          refine a_putL 5 eX10_leads_158 fl_X10_138 rfl rfl sh_171 (fun q h => Or.inl (by cases h; rfl)) ?_
          refine a_ald0 eX10_leads_161 ?_
          refine a_dup eX10_leads_162 rfl ?_
          refine a_getI 2 eX10_leads_163 fl_X10_132 rfl rfl sh_171 ?_
          refine a_eqtop (y0 := i) (by exact hat) ?_
          refine a_iconst eX10_leads_166 ?_
          refine a_iadd eX10_leads_167 ?_
          refine a_putI 2 eX10_leads_168 fl_X10_132 rfl rfl sh_171 (fun q h => Or.inl (by cases h; rfl)) ?_
          refine a_goto 99 eX10_leads_171 (by decide) ?_
          have hal' : ∀ j : Nat, j < (i + 1 - s0).toNat → 97 ≤ sgn B s0 j ∧ sgn B s0 j ≤ 122 := fun j hj => by
            by_cases z : j = (i - s0).toNat
            · rw [z, sgn_k (by omega)]; omega
            · exact hal j (by omega)
          refine ih (i + 1) _ (by omega) (by omega) ⟨fun b j z => by rw [rd_si, if_neg (by omega)]; exact f1.1 b j z, fun b j z => by rw [rl_si, rl_ne z]; exact f1.2.1 b j z, f1.2.2⟩ rd_si_eq (by rw [rd_si_ni (by omega)]; exact hst) ?_ hal' ?_
          · rw [rl_si, rl_eq]
            unfold wpp
            by_cases z : i + 1 - s0 < 8
            · rw [if_pos z, pkv_s (by omega), sgn_k (by omega)]
            · rw [if_neg z, show (8 : Nat) = (i + 1 - s0).toNat by omega, pkv_s (by omega), sgn_k (by omega)]
          · rw [← hsp]
            exact (sp_y (by omega) (kd_1.mpr (by omega))).symm
      · skip
        dsimp only [Option.toList, List.cons_append, List.nil_append]
        refine a_if_eq 174 eX10_leads_122 (by decide) (by omega) (fun _ => ?_) (fun h => absurd h (by decide))
        have hie : i = e0 := by
          rw [← hsp]
          refine (sp_n (fun z => ?_)).symm
          have := kd_1.mp z.2
          omega
        rw [← hie] at hk
        exact hk σ1 f1 hat hst hv (by omega)

set_option maxHeartbeats 4000000 in
set_option maxRecDepth 100000 in
theorem lp_ld3 {l : Launch} {σ : aw_S} {Post : Option Value → aw_S → Prop} {tw cs : Bool} (hR : σ.2.2 = RF tw cs) {B : Int → Int} {nn : Int} (hT : txM σ B nn) (wT : wfTx B nn) {s0 e0 : Int} {l1 : Option Value} (hs : 0 ≤ s0 ∧ s0 ≤ nn) (hk : ∀ σ2, frKM σ σ2 → σ2.1 171 2 = e0 → σ2.1 171 4 = s0 → σ2.2.1 171 5 = nvf (sgn B s0) (e0 - s0).toNat → AW l yX10_leads cX10_leads 2 (none : Option Jvm.ClassFile.FieldType) 1 20 0 0 SH Post SH 0 0 (σ2) 292 [some (.ref 171), l1] [])  : ∀ (n : Nat) (i : Int) (σ1 : aw_S), ((nn - i).toNat ≤ n) → (s0 ≤ i ∧ i ≤ nn) → (frKM σ σ1) → (σ1.1 171 2 = i) → (σ1.1 171 4 = s0) → (σ1.2.1 171 5 = nvf (sgn B s0) (i - s0).toNat) → (∀ j : Nat, j < (i - s0).toNat → 48 ≤ sgn B s0 j ∧ sgn B s0 j ≤ 57) → (sp B nn 2 i = e0) → AW l yX10_leads cX10_leads 2 (none : Option Jvm.ClassFile.FieldType) 1 20 0 0 SH Post SH 0 0 (σ1) 208 [some (.ref 171), l1] [] := by
  intro n
  induction n with
  | zero =>
    intro i σ1 hm hi f1 hat hst hv hal hsp
    obtain ⟨t1, t2⟩ := id hT
    obtain ⟨u1, u2⟩ := id wT
    have hR : σ1.2.2 = RF tw cs := by rw [f1.2.2]; exact hR
    have e1 : σ1.1 171 1 = nn := (f1.1 _ _ (by omega)).trans t1
    have hby : i < nn → σ1.1 172 i = B i ∧ (-128 ≤ B i ∧ B i ≤ 127) := fun h => ⟨(f1.1 _ _ (by omega)).trans (t2 i (by omega) h), u2 i (by omega) h⟩
    have hnb := (nv_cv (f := sgn B s0) (i - s0).toNat hal).1
    have hlc := lcm_e (nvf (sgn B s0) (i - s0).toNat) 9999
    refine a_ald0 eX10_leads_208 ?_
    refine a_getI 2 eX10_leads_209 fl_X10_132 rfl rfl sh_171 ?_
    refine a_eqtop (y0 := i) (by exact hat) ?_
    refine a_ald0 eX10_leads_212 ?_
    refine a_getI 1 eX10_leads_213 fl_X10_124 rfl rfl sh_171 ?_
    refine a_eqtop (y0 := nn) (by exact e1) ?_
    refine a_icmp_ge 292 eX10_leads_216 (by decide) (by omega) (fun hT216 => ?_) (fun hF216 => ?_)
    · skip
      have hie : i = e0 := by
        rw [← hsp]
        refine (sp_n (fun z => ?_)).symm
        have := kd_2.mp z.2
        omega
      rw [← hie] at hk
      exact hk σ1 f1 hat hst hv
    · skip
      exfalso; omega
  | succ n ih =>
    intro i σ1 hm hi f1 hat hst hv hal hsp
    obtain ⟨t1, t2⟩ := id hT
    obtain ⟨u1, u2⟩ := id wT
    have hR : σ1.2.2 = RF tw cs := by rw [f1.2.2]; exact hR
    have e1 : σ1.1 171 1 = nn := (f1.1 _ _ (by omega)).trans t1
    have hby : i < nn → σ1.1 172 i = B i ∧ (-128 ≤ B i ∧ B i ≤ 127) := fun h => ⟨(f1.1 _ _ (by omega)).trans (t2 i (by omega) h), u2 i (by omega) h⟩
    have hnb := (nv_cv (f := sgn B s0) (i - s0).toNat hal).1
    have hlc := lcm_e (nvf (sgn B s0) (i - s0).toNat) 9999
    refine a_ald0 eX10_leads_208 ?_
    refine a_getI 2 eX10_leads_209 fl_X10_132 rfl rfl sh_171 ?_
    refine a_eqtop (y0 := i) (by exact hat) ?_
    refine a_ald0 eX10_leads_212 ?_
    refine a_getI 1 eX10_leads_213 fl_X10_124 rfl rfl sh_171 ?_
    refine a_eqtop (y0 := nn) (by exact e1) ?_
    refine a_icmp_ge 292 eX10_leads_216 (by decide) (by omega) (fun hT216 => ?_) (fun hF216 => ?_)
    · skip
      have hie : i = e0 := by
        rw [← hsp]
        refine (sp_n (fun z => ?_)).symm
        have := kd_2.mp z.2
        omega
      rw [← hie] at hk
      exact hk σ1 f1 hat hst hv
    · skip
      have hby := hby (by omega)
      refine a_ald0 eX10_leads_219 ?_
      refine a_getR 0 172 eX10_leads_220 fl_X10_9 rfl rfl sh_171 ((congrFun (congrFun hR _) _).trans rf_171_0) ?_
      refine a_ald0 eX10_leads_223 ?_
      refine a_getI 2 eX10_leads_224 fl_X10_132 rfl rfl sh_171 ?_
      refine a_eqtop (y0 := i) (by exact hat) ?_
      refine a_bald eX10_leads_227 sh_172 rfl (by omega) ?_
      refine a_eqtop (y0 := B i) (by exact hby.1) ?_
      refine a_cS1 eX10_leads_228 lk_X10_149 mS_X10_isDigit mt_X10_isDigit rfl rfl rfl rfl rfl (c_X10_isDigit (by omega) (fun hT228 => ?_) (fun hF228 => ?_))
      · skip
        dsimp only [Option.toList, List.cons_append, List.nil_append]
        refine a_if_eq 292 eX10_leads_231 (by decide) (by omega) (fun h => absurd h (by decide)) (fun _ => ?_)
        refine a_ald0 eX10_leads_234 ?_
        refine a_ald0 eX10_leads_235 ?_
        refine a_getL 5 eX10_leads_236 fl_X10_138 rfl rfl sh_171 ?_
        refine a_eqtopL (y0 := nvf (sgn B s0) (i - s0).toNat) (by exact hv) ?_
        refine a_ldc2 (9999) (by decide) eX10_leads_239 kc_X10_152 ?_
        refine a_lcmp (lcm (nvf (sgn B s0) (i - s0).toNat) 9999) eX10_leads_242 (jL_cmp (by omega) (by omega)) ?_
        refine a_if_le 253 eX10_leads_243 (by decide) (by omega) (fun hT243 => ?_) (fun hF243 => ?_)
        · skip
          refine a_ldc2 (10) (by decide) eX10_leads_253 kc_X10_154 ?_
          refine a_ald0 eX10_leads_256 ?_
          refine a_getL 5 eX10_leads_257 fl_X10_138 rfl rfl sh_171 ?_
          refine a_eqtopL (y0 := nvf (sgn B s0) (i - s0).toNat) (by exact hv) ?_
          refine a_lmul eX10_leads_260 ?_
          refine a_ald0 eX10_leads_261 ?_
          refine a_getR 0 172 eX10_leads_262 fl_X10_9 rfl rfl sh_171 ((congrFun (congrFun hR _) _).trans rf_171_0) ?_
          refine a_ald0 eX10_leads_265 ?_
          refine a_getI 2 eX10_leads_266 fl_X10_132 rfl rfl sh_171 ?_
          refine a_eqtop (y0 := i) (by exact hat) ?_
          refine a_bald eX10_leads_269 sh_172 rfl (by omega) ?_
          refine a_eqtop (y0 := B i) (by exact hby.1) ?_
          refine a_i2l eX10_leads_270 (by omega) ?_
          refine a_ladd eX10_leads_271 ?_
          refine a_ldc2 (48) (by decide) eX10_leads_272 kc_X10_156 ?_
          refine a_lsub eX10_leads_275 ?_
          refine a_putL 5 eX10_leads_276 fl_X10_138 rfl rfl sh_171 (fun q h => Or.inl (by cases h; rfl)) ?_
          refine a_ald0 eX10_leads_279 ?_
          refine a_dup eX10_leads_280 rfl ?_
          refine a_getI 2 eX10_leads_281 fl_X10_132 rfl rfl sh_171 ?_
          refine a_eqtop (y0 := i) (by exact hat) ?_
          refine a_iconst eX10_leads_284 ?_
          refine a_iadd eX10_leads_285 ?_
          refine a_putI 2 eX10_leads_286 fl_X10_132 rfl rfl sh_171 (fun q h => Or.inl (by cases h; rfl)) ?_
          refine a_goto 208 eX10_leads_289 (by decide) ?_
          have hal' : ∀ j : Nat, j < (i + 1 - s0).toNat → 48 ≤ sgn B s0 j ∧ sgn B s0 j ≤ 57 := fun j hj => by
            by_cases z : j = (i - s0).toNat
            · rw [z, sgn_k (by omega)]; omega
            · exact hal j (by omega)
          refine ih (i + 1) _ (by omega) (by omega) ⟨fun b j z => by rw [rd_si, if_neg (by omega)]; exact f1.1 b j z, fun b j z => by rw [rl_si, rl_ne z]; exact f1.2.1 b j z, f1.2.2⟩ rd_si_eq (by rw [rd_si_ni (by omega)]; exact hst) ?_ hal' ?_
          · rw [rl_si, rl_eq, nvf_s (by omega), sgn_k (by omega)]
            rw [if_neg (by omega)]
          · rw [← hsp]
            exact (sp_y (by omega) (kd_2.mpr (by omega))).symm
        · skip
          refine a_ald0 eX10_leads_246 ?_
          refine a_getL 5 eX10_leads_247 fl_X10_138 rfl rfl sh_171 ?_
          refine a_eqtopL (y0 := nvf (sgn B s0) (i - s0).toNat) (by exact hv) ?_
          refine a_goto 276 eX10_leads_250 (by decide) ?_
          refine a_putL 5 eX10_leads_276 fl_X10_138 rfl rfl sh_171 (fun q h => Or.inl (by cases h; rfl)) ?_
          refine a_ald0 eX10_leads_279 ?_
          refine a_dup eX10_leads_280 rfl ?_
          refine a_getI 2 eX10_leads_281 fl_X10_132 rfl rfl sh_171 ?_
          refine a_eqtop (y0 := i) (by exact hat) ?_
          refine a_iconst eX10_leads_284 ?_
          refine a_iadd eX10_leads_285 ?_
          refine a_putI 2 eX10_leads_286 fl_X10_132 rfl rfl sh_171 (fun q h => Or.inl (by cases h; rfl)) ?_
          refine a_goto 208 eX10_leads_289 (by decide) ?_
          have hal' : ∀ j : Nat, j < (i + 1 - s0).toNat → 48 ≤ sgn B s0 j ∧ sgn B s0 j ≤ 57 := fun j hj => by
            by_cases z : j = (i - s0).toNat
            · rw [z, sgn_k (by omega)]; omega
            · exact hal j (by omega)
          refine ih (i + 1) _ (by omega) (by omega) ⟨fun b j z => by rw [rd_si, if_neg (by omega)]; exact f1.1 b j z, fun b j z => by rw [rl_si, rl_ne z]; exact f1.2.1 b j z, f1.2.2⟩ rd_si_eq (by rw [rd_si_ni (by omega)]; exact hst) ?_ hal' ?_
          · rw [rl_si, rl_eq, nvf_s (by omega), sgn_k (by omega)]
            rw [if_pos (by omega)]
          · rw [← hsp]
            exact (sp_y (by omega) (kd_2.mpr (by omega))).symm
      · skip
        dsimp only [Option.toList, List.cons_append, List.nil_append]
        refine a_if_eq 292 eX10_leads_231 (by decide) (by omega) (fun _ => ?_) (fun h => absurd h (by decide))
        have hie : i = e0 := by
          rw [← hsp]
          refine (sp_n (fun z => ?_)).symm
          have := kd_2.mp z.2
          omega
        rw [← hie] at hk
        exact hk σ1 f1 hat hst hv

set_option maxHeartbeats 4000000 in
set_option maxRecDepth 100000 in
theorem c_X10_leads {l : Launch} {σ : aw_S} {Post : Option Value → aw_S → Prop} {tw cs : Bool} (hR : σ.2.2 = RF tw cs) {B : Int → Int} {nn : Int} (hT : txM σ B nn) (wT : wfTx B nn) {q : Int} (hq : 0 ≤ q ∧ q ≤ nn) (hat : σ.1 171 2 = q) (hk : ∀ σ', frKM σ σ' → tkM σ' B nn q → Post none σ')  : AE l yX10_leads cX10_leads 2 (none : Option Jvm.ClassFile.FieldType) 1 20 0 0 SH SH σ [.ref 171] Post := by
  show AW l yX10_leads cX10_leads 2 (none : Option Jvm.ClassFile.FieldType) 1 20 0 0 SH Post SH 0 0 σ 0 [some (.ref 171), none] []
  have hR0 := hR
  refine lp_ld1 hR hT wT hq (fun σ1 f1 hs1 => ?_) _ q σ (Nat.le_refl _) (by omega) (frKM_rf σ) hat rfl
  obtain ⟨t1, t2⟩ := id hT
  obtain ⟨u1, u2⟩ := id wT
  have hR1 : σ1.2.2 = RF tw cs := by rw [f1.2.2]; exact hR
  have hR := hR1
  have e1 : σ1.1 171 1 = nn := (f1.1 _ _ (by omega)).trans t1
  have b0 := tok_b (B := B) hq
  have hby : ts B nn q < nn → σ1.1 172 (ts B nn q) = B (ts B nn q) ∧ (-128 ≤ B (ts B nn q) ∧ B (ts B nn q) ≤ 127) := fun h => ⟨(f1.1 _ _ (by omega)).trans (t2 _ (by omega) h), u2 _ (by omega) h⟩
  refine a_ald0 eX10_leads_52 ?_
  refine a_ald0 eX10_leads_53 ?_
  refine a_getI 2 eX10_leads_54 fl_X10_132 rfl rfl sh_171 ?_
  refine a_eqtop (y0 := ts B nn q) (by exact hs1) ?_
  refine a_putI 4 eX10_leads_57 fl_X10_135 rfl rfl sh_171 (fun q h => Or.inl (by cases h; rfl)) ?_
  refine a_ald0 eX10_leads_60 ?_
  refine a_lconst 0 eX10_leads_61 rfl ?_
  refine a_putL 5 eX10_leads_62 fl_X10_138 rfl rfl sh_171 (fun q h => Or.inl (by cases h; rfl)) ?_
  refine a_ald0 eX10_leads_65 ?_
  refine a_iconst eX10_leads_66 ?_
  refine a_putI 3 eX10_leads_67 fl_X10_142 rfl rfl sh_171 (fun q h => Or.inl (by cases h; rfl)) ?_
  refine AW.ex (fun s => (frKM σ s ∧ s.1 171 2 = ts B nn q) ∧ (s.1 171 4 = ts B nn q ∧ s.1 171 3 = 0 ∧ s.2.1 171 5 = 0)) ⟨⟨⟨fun b j z => by rw [rd_si, if_neg (by omega), rl_s1, rd_si, if_neg (by omega)]; exact f1.1 b j z, fun b j z => by rw [rl_si, rl_ne z]; exact f1.2.1 b j z, f1.2.2⟩, by rw [rd_si_ni (by omega), rl_s1, rd_si_ni (by omega)]; exact hs1⟩, by rw [rd_si_ni (by omega), rl_s1, rd_si_eq], rd_si_eq, rl_eq⟩ (fun σ2 h2 => ?_)
  obtain ⟨⟨f2, g2⟩, g4, g3, g5⟩ := h2
  have hR2 : σ2.2.2 = RF tw cs := by rw [f2.2.2]; exact hR0
  have hR := hR2
  have e2 : σ2.1 171 1 = nn := (f2.1 _ _ (by omega)).trans t1
  have hby2 : ts B nn q < nn → σ2.1 172 (ts B nn q) = B (ts B nn q) ∧ (-128 ≤ B (ts B nn q) ∧ B (ts B nn q) ≤ 127) := fun h => ⟨(f2.1 _ _ (by omega)).trans (t2 _ (by omega) h), u2 _ (by omega) h⟩
  have hT2 := txM_K f2 hT
  refine a_ald0 eX10_leads_70 ?_
  refine a_getI 2 eX10_leads_71 fl_X10_132 rfl rfl sh_171 ?_
  refine a_eqtop (y0 := ts B nn q) (by exact g2) ?_
  refine a_ald0 eX10_leads_74 ?_
  refine a_getI 1 eX10_leads_75 fl_X10_124 rfl rfl sh_171 ?_
  refine a_eqtop (y0 := nn) (by exact e2) ?_
  refine a_icmp_ne 82 eX10_leads_78 (by decide) (by omega) (fun hT78 => ?_) (fun hF78 => ?_)
  · skip
    have b1 := b0.2.2.2.1 (by omega)
    have hby2 := hby2 (by omega)
    refine a_ald0 eX10_leads_82 ?_
    refine a_getR 0 172 eX10_leads_83 fl_X10_9 rfl rfl sh_171 ((congrFun (congrFun hR _) _).trans rf_171_0) ?_
    refine a_ald0 eX10_leads_86 ?_
    refine a_getI 2 eX10_leads_87 fl_X10_132 rfl rfl sh_171 ?_
    refine a_eqtop (y0 := ts B nn q) (by exact g2) ?_
    refine a_bald eX10_leads_90 sh_172 rfl (by omega) ?_
    refine a_eqtop (y0 := B (ts B nn q)) (by exact hby2.1) ?_
    refine a_ist1 eX10_leads_91 (by decide) aw_n2r ?_
    refine a_ild1 eX10_leads_92 ?_
    refine a_cS1 eX10_leads_93 lk_X10_145 mS_X10_isLetter mt_X10_isLetter rfl rfl rfl rfl rfl (c_X10_isLetter (by omega) (fun hT93 => ?_) (fun hF93 => ?_))
    · skip
      dsimp only [Option.toList, List.cons_append, List.nil_append]
      refine a_if_eq 201 eX10_leads_96 (by decide) (by omega) (fun h => absurd h (by decide)) (fun _ => ?_)
      have hk1 : tkd B nn q = 1 := by rw [b1.2.1]; exact kd_1.mpr (by omega)
      have ete : te B nn q = sp B nn 1 (ts B nn q) := (tok_all hq (Or.inl rfl) hk1).1.2
      refine lp_ld2 hR hT2 wT (s0 := ts B nn q) (e0 := te B nn q) (by omega) (fun σ3 f3 h32 h34 h35 h36 => ?_) _ (ts B nn q) σ2 (Nat.le_refl _) (by omega) (frKM_rf σ2) g2 g4 (by rw [g5]; unfold wpp; rw [if_pos (by omega), Int.sub_self]; rfl) (fun j hj => by omega) ete.symm
      have hR3 : σ3.2.2 = RF tw cs := by rw [f3.2.2]; exact hR
      have hR := hR3
      have f13 := frKM_tr f2 f3
      refine a_ald0 eX10_leads_174 ?_
      refine a_getI 2 eX10_leads_175 fl_X10_132 rfl rfl sh_171 ?_
      refine a_eqtop (y0 := te B nn q) (by exact h32) ?_
      refine a_ald0 eX10_leads_178 ?_
      refine a_getI 4 eX10_leads_179 fl_X10_135 rfl rfl sh_171 ?_
      refine a_eqtop (y0 := ts B nn q) (by exact h34) ?_
      refine a_isub eX10_leads_182 ?_
      refine a_bipush eX10_leads_183 (by decide) ?_
      refine a_icmp_le 193 eX10_leads_185 (by decide) (by omega) (fun hT185 => ?_) (fun hF185 => ?_)
      · skip
        refine a_ald0 eX10_leads_193 ?_
        refine a_iconst eX10_leads_194 ?_
        refine a_putI 3 eX10_leads_195 fl_X10_142 rfl rfl sh_171 (fun q h => Or.inl (by cases h; rfl)) ?_
        refine a_goto 325 eX10_leads_198 (by decide) ?_
        refine a_vret eX10_leads_325 rfl rfl ⟨Nat.zero_le _, Nat.zero_le _⟩ ?_
        refine hk _ ⟨fun b j z => by rw [rd_si, if_neg (by omega)]; exact f13.1 b j z, f13.2.1, f13.2.2⟩ ⟨by rw [rd_si_ni (by omega)]; exact h32, by rw [rd_si_ni (by omega)]; exact h34, by rw [rd_si_eq, if_neg (by omega), hk1], fun _ => ?_, fun z => by omega⟩
        rw [rl_si, h35]
        unfold wpp wv
        by_cases z : te B nn q - ts B nn q < 8
        · rw [if_pos z, if_neg (by omega)]
        · rw [if_neg z, if_neg (by omega), show (te B nn q - ts B nn q).toNat = 8 by omega]
      · skip
        refine a_ald0 eX10_leads_188 ?_
        refine a_lconst 0 eX10_leads_189 rfl ?_
        refine a_putL 5 eX10_leads_190 fl_X10_138 rfl rfl sh_171 (fun q h => Or.inl (by cases h; rfl)) ?_
        refine a_ald0 eX10_leads_193 ?_
        refine a_iconst eX10_leads_194 ?_
        refine a_putI 3 eX10_leads_195 fl_X10_142 rfl rfl sh_171 (fun q h => Or.inl (by cases h; rfl)) ?_
        refine a_goto 325 eX10_leads_198 (by decide) ?_
        refine a_vret eX10_leads_325 rfl rfl ⟨Nat.zero_le _, Nat.zero_le _⟩ ?_
        refine hk _ ⟨fun b j z => by rw [rd_si, if_neg (by omega), rl_s1]; exact f13.1 b j z, fun b j z => by rw [rl_si, rl_ne z]; exact f13.2.1 b j z, f13.2.2⟩ ⟨by rw [rd_si_ni (by omega), rl_s1]; exact h32, by rw [rd_si_ni (by omega), rl_s1]; exact h34, by rw [rd_si_eq, if_neg (by omega), hk1], fun _ => ?_, fun z => by omega⟩
        rw [rl_si, rl_eq]
        unfold wv
        rw [if_pos (by omega)]
    · skip
      dsimp only [Option.toList, List.cons_append, List.nil_append]
      refine a_if_eq 201 eX10_leads_96 (by decide) (by omega) (fun _ => ?_) (fun h => absurd h (by decide))
      refine a_ild1 eX10_leads_201 ?_
      refine a_cS1 eX10_leads_202 lk_X10_149 mS_X10_isDigit mt_X10_isDigit rfl rfl rfl rfl rfl (c_X10_isDigit (by omega) (fun hT202 => ?_) (fun hF202 => ?_))
      · skip
        dsimp only [Option.toList, List.cons_append, List.nil_append]
        refine a_if_eq 300 eX10_leads_205 (by decide) (by omega) (fun h => absurd h (by decide)) (fun _ => ?_)
        have hk1 : tkd B nn q = 2 := by rw [b1.2.1]; exact kd_2.mpr (by omega)
        have ete : te B nn q = sp B nn 2 (ts B nn q) := (tok_all hq (Or.inr rfl) hk1).1.2
        refine lp_ld3 hR hT2 wT (s0 := ts B nn q) (e0 := te B nn q) (by omega) (fun σ3 f3 h32 h34 h35 => ?_) _ (ts B nn q) σ2 (Nat.le_refl _) (by omega) (frKM_rf σ2) g2 g4 (by rw [g5, Int.sub_self]; rfl) (fun j hj => by omega) ete.symm
        have hR3 : σ3.2.2 = RF tw cs := by rw [f3.2.2]; exact hR
        have hR := hR3
        have f13 := frKM_tr f2 f3
        refine a_ald0 eX10_leads_292 ?_
        refine a_iconst eX10_leads_293 ?_
        refine a_putI 3 eX10_leads_294 fl_X10_142 rfl rfl sh_171 (fun q h => Or.inl (by cases h; rfl)) ?_
        refine a_goto 325 eX10_leads_297 (by decide) ?_
        refine a_vret eX10_leads_325 rfl rfl ⟨Nat.zero_le _, Nat.zero_le _⟩ ?_
        refine hk _ ⟨fun b j z => by rw [rd_si, if_neg (by omega)]; exact f13.1 b j z, f13.2.1, f13.2.2⟩ ⟨by rw [rd_si_ni (by omega)]; exact h32, by rw [rd_si_ni (by omega)]; exact h34, by rw [rd_si_eq, if_neg (by omega), hk1], fun z => by omega, fun _ => ?_⟩
        rw [rl_si, h35]
        rfl
      · skip
        dsimp only [Option.toList, List.cons_append, List.nil_append]
        refine a_if_eq 300 eX10_leads_205 (by decide) (by omega) (fun _ => ?_) (fun h => absurd h (by decide))
        refine a_ald0 eX10_leads_300 ?_
        refine a_ild1 eX10_leads_301 ?_
        refine a_bipush eX10_leads_302 (by decide) ?_
        refine a_icmp_ne 311 eX10_leads_304 (by decide) (by omega) (fun hT304 => ?_) (fun hF304 => ?_)
        · skip
          refine a_iconst eX10_leads_311 ?_
          refine a_putI 3 eX10_leads_312 fl_X10_142 rfl rfl sh_171 (fun q h => Or.inl (by cases h; rfl)) ?_
          refine a_ald0 eX10_leads_315 ?_
          refine a_dup eX10_leads_316 rfl ?_
          refine a_getI 2 eX10_leads_317 fl_X10_132 rfl rfl sh_171 ?_
          refine a_eqtop (y0 := ts B nn q) (by rw [rd_si_ni (by omega)]; exact g2) ?_
          refine a_iconst eX10_leads_320 ?_
          refine a_iadd eX10_leads_321 ?_
          refine a_putI 2 eX10_leads_322 fl_X10_132 rfl rfl sh_171 (fun q h => Or.inl (by cases h; rfl)) ?_
          refine a_vret eX10_leads_325 rfl rfl ⟨Nat.zero_le _, Nat.zero_le _⟩ ?_
          have hne : ¬ (B (ts B nn q) = 32 ∨ B (ts B nn q) = 10) := fun z => by have := kd_0.mpr z; omega
          have hkk : tkd B nn q = 4 := by rw [b1.2.1]; unfold kd; (repeat' split) <;> first | omega | rfl
          have ete : te B nn q = ts B nn q + 1 := by unfold te; rw [if_pos (by omega), if_neg (by omega)]
          refine hk _ ⟨fun b j z => by rw [rd_si, if_neg (by omega), rd_si, if_neg (by omega)]; exact f2.1 b j z, f2.2.1, f2.2.2⟩ ⟨by rw [ete]; exact rd_si_eq, by rw [rd_si_ni (by omega), rd_si_ni (by omega)]; exact g4, by rw [rd_si_ni (by omega), rd_si_eq, if_neg (by omega), hkk], fun z => by omega, fun z => by omega⟩
        · skip
          refine a_iconst eX10_leads_307 ?_
          refine a_goto 312 eX10_leads_308 (by decide) ?_
          refine a_putI 3 eX10_leads_312 fl_X10_142 rfl rfl sh_171 (fun q h => Or.inl (by cases h; rfl)) ?_
          refine a_ald0 eX10_leads_315 ?_
          refine a_dup eX10_leads_316 rfl ?_
          refine a_getI 2 eX10_leads_317 fl_X10_132 rfl rfl sh_171 ?_
          refine a_eqtop (y0 := ts B nn q) (by rw [rd_si_ni (by omega)]; exact g2) ?_
          refine a_iconst eX10_leads_320 ?_
          refine a_iadd eX10_leads_321 ?_
          refine a_putI 2 eX10_leads_322 fl_X10_132 rfl rfl sh_171 (fun q h => Or.inl (by cases h; rfl)) ?_
          refine a_vret eX10_leads_325 rfl rfl ⟨Nat.zero_le _, Nat.zero_le _⟩ ?_
          have hne : ¬ (B (ts B nn q) = 32 ∨ B (ts B nn q) = 10) := fun z => by have := kd_0.mpr z; omega
          have hkk : tkd B nn q = 3 := by rw [b1.2.1]; unfold kd; (repeat' split) <;> first | omega | rfl
          have ete : te B nn q = ts B nn q + 1 := by unfold te; rw [if_pos (by omega), if_neg (by omega)]
          refine hk _ ⟨fun b j z => by rw [rd_si, if_neg (by omega), rd_si, if_neg (by omega)]; exact f2.1 b j z, f2.2.1, f2.2.2⟩ ⟨by rw [ete]; exact rd_si_eq, by rw [rd_si_ni (by omega), rd_si_ni (by omega)]; exact g4, by rw [rd_si_ni (by omega), rd_si_eq, if_neg (by omega), hkk], fun z => by omega, fun z => by omega⟩
  · skip
    refine a_vret eX10_leads_81 rfl rfl ⟨Nat.zero_le _, Nat.zero_le _⟩ ?_
    have b1 := b0.2.2.2.2 (by omega)
    exact hk σ2 f2 ⟨by rw [b1.2.1]; exact g2, g4, by rw [if_pos b1.1]; exact g3, fun z => by omega, fun z => by omega⟩

set_option maxHeartbeats 4000000 in
set_option maxRecDepth 100000 in
theorem lp_pk {l : Launch} {σ : aw_S} {Post : Option Value → aw_S → Prop} {tw cs : Bool} (hR : σ.2.2 = RF tw cs) {i : Nat} (hi : i < 5) (hk : Post (some (.long (jL (pkw i)))) σ)  : ∀ (n : Nat) (k : Nat), (slen i - k ≤ n) → (k ≤ slen i) → AW l yX10_packed cX10_packed 4 (some .long) 5 106 0 0 SH Post SH 0 0 (σ) 4 [some (.ref (1000000 + i)), some (.long (jL (pkv (sch i) k))), none, some (.int (jI (k : Int)))] [] := by
  intro n
  induction n with
  | zero =>
    intro k hm hkb
    have hsl := slen_b i hi
    have hpb := (pkv_b (f := sch i) k (fun j hj => (sch_b i hi j (by omega)).1)).1
    refine a_ild3 eX10_packed_4 ?_
    refine a_ald0 eX10_packed_5 ?_
    refine a_cT0 hi eX10_packed_6 lk_X10_158 mV_J0_length_8abf5 rfl mt_J0_length_8abf5 rfl rfl rfl rfl (c_J0_length_8abf5 hi ?_)
    dsimp only [Option.toList, List.cons_append, List.nil_append]
    refine a_icmp_ge 30 eX10_packed_9 (by decide) (by omega) (fun hT9 => ?_) (fun hF9 => ?_)
    · skip
      refine a_lld1 eX10_packed_30 ?_
      refine a_lret eX10_packed_31 rfl rfl ⟨Nat.zero_le _, Nat.zero_le _⟩ ?_
      unfold pkw at hk
      rw [show slen i = k by omega] at hk
      exact hk
    · skip
      exfalso; omega
  | succ n ih =>
    intro k hm hkb
    have hsl := slen_b i hi
    have hpb := (pkv_b (f := sch i) k (fun j hj => (sch_b i hi j (by omega)).1)).1
    refine a_ild3 eX10_packed_4 ?_
    refine a_ald0 eX10_packed_5 ?_
    refine a_cT0 hi eX10_packed_6 lk_X10_158 mV_J0_length_8abf5 rfl mt_J0_length_8abf5 rfl rfl rfl rfl (c_J0_length_8abf5 hi ?_)
    dsimp only [Option.toList, List.cons_append, List.nil_append]
    refine a_icmp_ge 30 eX10_packed_9 (by decide) (by omega) (fun hT9 => ?_) (fun hF9 => ?_)
    · skip
      refine a_lld1 eX10_packed_30 ?_
      refine a_lret eX10_packed_31 rfl rfl ⟨Nat.zero_le _, Nat.zero_le _⟩ ?_
      unfold pkw at hk
      rw [show slen i = k by omega] at hk
      exact hk
    · skip
      have hcb := (sch_b i hi k (by omega)).1
      refine a_lld1 eX10_packed_12 ?_
      refine a_bipush eX10_packed_13 (by decide) ?_
      refine a_lshl (pkv (sch i) k * 256) eX10_packed_15 jL_shl8 ?_
      refine a_ald0 eX10_packed_16 ?_
      refine a_ild3 eX10_packed_17 ?_
      refine a_cT1 hi eX10_packed_18 lk_X10_164 mV_J0_charAt_5068e rfl mt_J0_charAt_5068e rfl rfl rfl rfl rfl (c_J0_charAt_5068e (j := k) hi (by omega) ?_)
      dsimp only [Option.toList, List.cons_append, List.nil_append]
      refine a_i2l eX10_packed_21 (by omega) ?_
      refine a_lor (pkv (sch i) k * 256 + sch i k) eX10_packed_22 (jL_or8 hpb (by omega)) ?_
      refine a_lst1 eX10_packed_23 (by decide) aw_n2r ?_
      refine a_iinc3 eX10_packed_24 (by decide) aw_n2n ?_
      refine a_goto 4 eX10_packed_27 (by decide) ?_
      rw [show ((k : Nat) : Int) + 1 = ((k + 1 : Nat) : Int) by omega]
      exact ih (k + 1) (by omega) (by omega)

set_option maxHeartbeats 4000000 in
set_option maxRecDepth 100000 in
theorem c_X10_packed {l : Launch} {σ : aw_S} {Post : Option Value → aw_S → Prop} {tw cs : Bool} (hR : σ.2.2 = RF tw cs) {i : Nat} (hi : i < 5) (hk : Post (some (.long (jL (pkw i)))) σ)  : AE l yX10_packed cX10_packed 4 (some .long) 5 106 0 0 SH SH σ [.ref (1000000 + i)] Post := by
  show AW l yX10_packed cX10_packed 4 (some .long) 5 106 0 0 SH Post SH 0 0 σ 0 [some (.ref (1000000 + i)), none, none, none] []
  refine a_lconst 0 eX10_packed_0 rfl ?_
  refine a_lst1 eX10_packed_1 (by decide) aw_n2r ?_
  refine a_iconst eX10_packed_2 ?_
  refine a_ist3 eX10_packed_3 (by decide) aw_n2n ?_
  exact lp_pk hR hi hk _ 0 (Nat.le_refl _) (by omega)

set_option maxHeartbeats 4000000 in
set_option maxRecDepth 100000 in
theorem c_X10_isWord {l : Launch} {σ : aw_S} {Post : Option Value → aw_S → Prop} {tw cs : Bool} (hR : σ.2.2 = RF tw cs) {B : Int → Int} {nn : Int} {i : Nat} {q : Int} (hi : i < 5) (hq : 0 ≤ q ∧ q ≤ nn) (hC : tkM σ B nn q) (h1 : isw B nn i q → Post (some (.int (jI 1))) σ) (h0 : ¬ isw B nn i q → Post (some (.int (jI 0))) σ)  : AE l yX10_isWord cX10_isWord 2 (some .boolean) 6 129 0 0 SH SH σ [.ref 171, .ref (1000000 + i)] Post := by
  show AW l yX10_isWord cX10_isWord 2 (some .boolean) 6 129 0 0 SH Post SH 0 0 σ 0 [some (.ref 171), some (.ref (1000000 + i))] []
  obtain ⟨k1, k2, k3, k4, k5⟩ := id hC
  have b0 := tok_b (B := B) hq
  have h35 : (if tkd B nn q = 5 then 0 else tkd B nn q) = 1 ↔ tkd B nn q = 1 := by split <;> omega
  have h32 : (if tkd B nn q = 5 then 0 else tkd B nn q) = 2 ↔ tkd B nn q = 2 := by split <;> omega
  have h33 : (if tkd B nn q = 5 then 0 else tkd B nn q) = 3 ↔ tkd B nn q = 3 := by split <;> omega
  have h3b : 0 ≤ (if tkd B nn q = 5 then 0 else tkd B nn q) ∧ (if tkd B nn q = 5 then 0 else tkd B nn q) ≤ 4 := by split <;> omega
  obtain ⟨K3, hK3⟩ : ∃ K, K = (if tkd B nn q = 5 then 0 else tkd B nn q) := ⟨_, rfl⟩
  rw [← hK3] at k3 h35 h32 h33 h3b
  refine a_ald0 eX10_isWord_0 ?_
  refine a_getI 3 eX10_isWord_1 fl_X10_142 rfl rfl sh_171 ?_
  refine a_eqtop (y0 := K3) (by exact k3) ?_
  refine a_iconst eX10_isWord_4 ?_
  refine a_icmp_ne 24 eX10_isWord_5 (by decide) (by omega) (fun hT5 => ?_) (fun hF5 => ?_)
  · skip
    refine a_iconst eX10_isWord_24 ?_
    refine a_zret eX10_isWord_25 rfl (by first | exact Or.inl rfl | exact Or.inr rfl | omega) rfl ⟨Nat.zero_le _, Nat.zero_le _⟩ ?_
    first
      | exact h1 (hww.mp (by omega))
      | exact h0 (fun z => by have := hww.mpr z; omega)
      | exact h0 (fun z => by have := h35.mpr z.1; omega)
  · skip
    have hwb := wv_b hq (h35.mp (by omega))
    have hww := wv_w hq hi (h35.mp (by omega))
    have hpw : 0 ≤ pkw i ∧ pkw i ≤ 9007199254740991999 := ⟨(pkv_b _ (fun j hj => (sch_b i hi j hj).1)).1, (pkv_8 (f := sch i) (j := slen i) (fun j hj => (sch_b i hi j hj).1) (by have := slen_b i hi; omega)).1⟩
    have hlc := lcm_e (wv B nn q) (pkw i)
    refine a_ald0 eX10_isWord_8 ?_
    refine a_getL 5 eX10_isWord_9 fl_X10_138 rfl rfl sh_171 ?_
    refine a_eqtopL (y0 := wv B nn q) (by exact k4 (h35.mp (by omega))) ?_
    refine a_ald1 eX10_isWord_12 ?_
    refine a_cS1 eX10_isWord_13 lk_X10_168 mS_X10_packed mt_X10_packed rfl rfl rfl rfl rfl (c_X10_packed hR hi ?_)
    dsimp only [Option.toList, List.cons_append, List.nil_append]
    refine a_lcmp (lcm (wv B nn q) (pkw i)) eX10_isWord_16 (jL_cmp (by omega) (by omega)) ?_
    refine a_if_ne 24 eX10_isWord_17 (by decide) (by omega) (fun hT17 => ?_) (fun hF17 => ?_)
    · skip
      refine a_iconst eX10_isWord_24 ?_
      refine a_zret eX10_isWord_25 rfl (by first | exact Or.inl rfl | exact Or.inr rfl | omega) rfl ⟨Nat.zero_le _, Nat.zero_le _⟩ ?_
      first
        | exact h1 (hww.mp (by omega))
        | exact h0 (fun z => by have := hww.mpr z; omega)
        | exact h0 (fun z => by have := h35.mpr z.1; omega)
    · skip
      refine a_iconst eX10_isWord_20 ?_
      refine a_goto 25 eX10_isWord_21 (by decide) ?_
      refine a_zret eX10_isWord_25 rfl (by first | exact Or.inl rfl | exact Or.inr rfl | omega) rfl ⟨Nat.zero_le _, Nat.zero_le _⟩ ?_
      first
        | exact h1 (hww.mp (by omega))
        | exact h0 (fun z => by have := hww.mpr z; omega)
        | exact h0 (fun z => by have := h35.mpr z.1; omega)

set_option maxHeartbeats 4000000 in
set_option maxRecDepth 100000 in
theorem c_X10_isName {l : Launch} {σ : aw_S} {Post : Option Value → aw_S → Prop} {tw cs : Bool} (hR : σ.2.2 = RF tw cs) {B : Int → Int} {nn : Int} {q : Int} (hq : 0 ≤ q ∧ q ≤ nn) (hC : tkM σ B nn q) (h1 : isnm B nn q → Post (some (.int (jI 1))) σ) (h0 : ¬ isnm B nn q → Post (some (.int (jI 0))) σ)  : AE l yX10_isName cX10_isName 1 (some .boolean) 7 150 0 0 SH SH σ [.ref 171] Post := by
  show AW l yX10_isName cX10_isName 1 (some .boolean) 7 150 0 0 SH Post SH 0 0 σ 0 [some (.ref 171)] []
  obtain ⟨k1, k2, k3, k4, k5⟩ := id hC
  have b0 := tok_b (B := B) hq
  have h35 : (if tkd B nn q = 5 then 0 else tkd B nn q) = 1 ↔ tkd B nn q = 1 := by split <;> omega
  have h32 : (if tkd B nn q = 5 then 0 else tkd B nn q) = 2 ↔ tkd B nn q = 2 := by split <;> omega
  have h33 : (if tkd B nn q = 5 then 0 else tkd B nn q) = 3 ↔ tkd B nn q = 3 := by split <;> omega
  have h3b : 0 ≤ (if tkd B nn q = 5 then 0 else tkd B nn q) ∧ (if tkd B nn q = 5 then 0 else tkd B nn q) ≤ 4 := by split <;> omega
  obtain ⟨K3, hK3⟩ : ∃ K, K = (if tkd B nn q = 5 then 0 else tkd B nn q) := ⟨_, rfl⟩
  rw [← hK3] at k3 h35 h32 h33 h3b
  refine a_ald0 eX10_isName_0 ?_
  refine a_getI 3 eX10_isName_1 fl_X10_142 rfl rfl sh_171 ?_
  refine a_eqtop (y0 := K3) (by exact k3) ?_
  refine a_iconst eX10_isName_4 ?_
  refine a_icmp_ne 66 eX10_isName_5 (by decide) (by omega) (fun hT5 => ?_) (fun hF5 => ?_)
  · skip
    refine a_iconst eX10_isName_66 ?_
    refine a_zret eX10_isName_67 rfl (by first | exact Or.inl rfl | exact Or.inr rfl | omega) rfl ⟨Nat.zero_le _, Nat.zero_le _⟩ ?_
    first
      | exact h0 (fun z => z.2 0 (by decide) hT20)
      | exact h0 (fun z => z.2 1 (by decide) hT29)
      | exact h0 (fun z => z.2 2 (by decide) hT38)
      | exact h0 (fun z => z.2 3 (by decide) hT47)
      | exact h0 (fun z => z.2 4 (by decide) hT56)
      | exact h0 (fun z => by have := h35.mpr z.1.1; omega)
      | exact h0 (fun z => by have := hw0.mpr z.1.2; omega)
  · skip
    have hwb := wv_b hq (h35.mp (by omega))
    have hw0 := wv_0 hq (h35.mp (by omega))
    have hlc := lcm_e (wv B nn q) 0
    refine a_ald0 eX10_isName_8 ?_
    refine a_getL 5 eX10_isName_9 fl_X10_138 rfl rfl sh_171 ?_
    refine a_eqtopL (y0 := wv B nn q) (by exact k4 (h35.mp (by omega))) ?_
    refine a_lconst 0 eX10_isName_12 rfl ?_
    refine a_lcmp (lcm (wv B nn q) 0) eX10_isName_13 (jL_cmp (by omega) (by omega)) ?_
    refine a_if_eq 66 eX10_isName_14 (by decide) (by omega) (fun hT14 => ?_) (fun hF14 => ?_)
    · skip
      refine a_iconst eX10_isName_66 ?_
      refine a_zret eX10_isName_67 rfl (by first | exact Or.inl rfl | exact Or.inr rfl | omega) rfl ⟨Nat.zero_le _, Nat.zero_le _⟩ ?_
      first
        | exact h0 (fun z => z.2 0 (by decide) hT20)
        | exact h0 (fun z => z.2 1 (by decide) hT29)
        | exact h0 (fun z => z.2 2 (by decide) hT38)
        | exact h0 (fun z => z.2 3 (by decide) hT47)
        | exact h0 (fun z => z.2 4 (by decide) hT56)
        | exact h0 (fun z => by have := h35.mpr z.1.1; omega)
        | exact h0 (fun z => by have := hw0.mpr z.1.2; omega)
    · skip
      refine a_ald0 eX10_isName_17 ?_
      refine a_ldcS (i := 0) (tx := "rank") eX10_isName_18 (List.mem_of_getElem? (i := 5) rfl) ?_
      refine a_cV1 eX10_isName_20 lk_X10_174 mV_X10_isWord sh_171 ⟨_, rfl, rfl⟩ mt_X10_isWord rfl rfl rfl rfl rfl (c_X10_isWord (i := 0) hR (by decide) hq hC (fun hT20 => ?_) (fun hF20 => ?_))
      · skip
        dsimp only [Option.toList, List.cons_append, List.nil_append]
        refine a_if_ne 66 eX10_isName_23 (by decide) (by omega) (fun _ => ?_) (fun h => absurd h (by decide))
        refine a_iconst eX10_isName_66 ?_
        refine a_zret eX10_isName_67 rfl (by first | exact Or.inl rfl | exact Or.inr rfl | omega) rfl ⟨Nat.zero_le _, Nat.zero_le _⟩ ?_
        first
          | exact h0 (fun z => z.2 0 (by decide) hT20)
          | exact h0 (fun z => z.2 1 (by decide) hT29)
          | exact h0 (fun z => z.2 2 (by decide) hT38)
          | exact h0 (fun z => z.2 3 (by decide) hT47)
          | exact h0 (fun z => z.2 4 (by decide) hT56)
          | exact h0 (fun z => by have := h35.mpr z.1.1; omega)
          | exact h0 (fun z => by have := hw0.mpr z.1.2; omega)
      · skip
        dsimp only [Option.toList, List.cons_append, List.nil_append]
        refine a_if_ne 66 eX10_isName_23 (by decide) (by omega) (fun h => absurd h (by decide)) (fun _ => ?_)
        refine a_ald0 eX10_isName_26 ?_
        refine a_ldcS (i := 1) (tx := "let") eX10_isName_27 (List.mem_of_getElem? (i := 6) rfl) ?_
        refine a_cV1 eX10_isName_29 lk_X10_174 mV_X10_isWord sh_171 ⟨_, rfl, rfl⟩ mt_X10_isWord rfl rfl rfl rfl rfl (c_X10_isWord (i := 1) hR (by decide) hq hC (fun hT29 => ?_) (fun hF29 => ?_))
        · skip
          dsimp only [Option.toList, List.cons_append, List.nil_append]
          refine a_if_ne 66 eX10_isName_32 (by decide) (by omega) (fun _ => ?_) (fun h => absurd h (by decide))
          refine a_iconst eX10_isName_66 ?_
          refine a_zret eX10_isName_67 rfl (by first | exact Or.inl rfl | exact Or.inr rfl | omega) rfl ⟨Nat.zero_le _, Nat.zero_le _⟩ ?_
          first
            | exact h0 (fun z => z.2 0 (by decide) hT20)
            | exact h0 (fun z => z.2 1 (by decide) hT29)
            | exact h0 (fun z => z.2 2 (by decide) hT38)
            | exact h0 (fun z => z.2 3 (by decide) hT47)
            | exact h0 (fun z => z.2 4 (by decide) hT56)
            | exact h0 (fun z => by have := h35.mpr z.1.1; omega)
            | exact h0 (fun z => by have := hw0.mpr z.1.2; omega)
        · skip
          dsimp only [Option.toList, List.cons_append, List.nil_append]
          refine a_if_ne 66 eX10_isName_32 (by decide) (by omega) (fun h => absurd h (by decide)) (fun _ => ?_)
          refine a_ald0 eX10_isName_35 ?_
          refine a_ldcS (i := 2) (tx := "fare") eX10_isName_36 (List.mem_of_getElem? (i := 7) rfl) ?_
          refine a_cV1 eX10_isName_38 lk_X10_174 mV_X10_isWord sh_171 ⟨_, rfl, rfl⟩ mt_X10_isWord rfl rfl rfl rfl rfl (c_X10_isWord (i := 2) hR (by decide) hq hC (fun hT38 => ?_) (fun hF38 => ?_))
          · skip
            dsimp only [Option.toList, List.cons_append, List.nil_append]
            refine a_if_ne 66 eX10_isName_41 (by decide) (by omega) (fun _ => ?_) (fun h => absurd h (by decide))
            refine a_iconst eX10_isName_66 ?_
            refine a_zret eX10_isName_67 rfl (by first | exact Or.inl rfl | exact Or.inr rfl | omega) rfl ⟨Nat.zero_le _, Nat.zero_le _⟩ ?_
            first
              | exact h0 (fun z => z.2 0 (by decide) hT20)
              | exact h0 (fun z => z.2 1 (by decide) hT29)
              | exact h0 (fun z => z.2 2 (by decide) hT38)
              | exact h0 (fun z => z.2 3 (by decide) hT47)
              | exact h0 (fun z => z.2 4 (by decide) hT56)
              | exact h0 (fun z => by have := h35.mpr z.1.1; omega)
              | exact h0 (fun z => by have := hw0.mpr z.1.2; omega)
          · skip
            dsimp only [Option.toList, List.cons_append, List.nil_append]
            refine a_if_ne 66 eX10_isName_41 (by decide) (by omega) (fun h => absurd h (by decide)) (fun _ => ?_)
            refine a_ald0 eX10_isName_44 ?_
            refine a_ldcS (i := 3) (tx := "short") eX10_isName_45 (List.mem_of_getElem? (i := 8) rfl) ?_
            refine a_cV1 eX10_isName_47 lk_X10_174 mV_X10_isWord sh_171 ⟨_, rfl, rfl⟩ mt_X10_isWord rfl rfl rfl rfl rfl (c_X10_isWord (i := 3) hR (by decide) hq hC (fun hT47 => ?_) (fun hF47 => ?_))
            · skip
              dsimp only [Option.toList, List.cons_append, List.nil_append]
              refine a_if_ne 66 eX10_isName_50 (by decide) (by omega) (fun _ => ?_) (fun h => absurd h (by decide))
              refine a_iconst eX10_isName_66 ?_
              refine a_zret eX10_isName_67 rfl (by first | exact Or.inl rfl | exact Or.inr rfl | omega) rfl ⟨Nat.zero_le _, Nat.zero_le _⟩ ?_
              first
                | exact h0 (fun z => z.2 0 (by decide) hT20)
                | exact h0 (fun z => z.2 1 (by decide) hT29)
                | exact h0 (fun z => z.2 2 (by decide) hT38)
                | exact h0 (fun z => z.2 3 (by decide) hT47)
                | exact h0 (fun z => z.2 4 (by decide) hT56)
                | exact h0 (fun z => by have := h35.mpr z.1.1; omega)
                | exact h0 (fun z => by have := hw0.mpr z.1.2; omega)
            · skip
              dsimp only [Option.toList, List.cons_append, List.nil_append]
              refine a_if_ne 66 eX10_isName_50 (by decide) (by omega) (fun h => absurd h (by decide)) (fun _ => ?_)
              refine a_ald0 eX10_isName_53 ?_
              refine a_ldcS (i := 4) (tx := "coin") eX10_isName_54 (List.mem_of_getElem? (i := 9) rfl) ?_
              refine a_cV1 eX10_isName_56 lk_X10_174 mV_X10_isWord sh_171 ⟨_, rfl, rfl⟩ mt_X10_isWord rfl rfl rfl rfl rfl (c_X10_isWord (i := 4) hR (by decide) hq hC (fun hT56 => ?_) (fun hF56 => ?_))
              · skip
                dsimp only [Option.toList, List.cons_append, List.nil_append]
                refine a_if_ne 66 eX10_isName_59 (by decide) (by omega) (fun _ => ?_) (fun h => absurd h (by decide))
                refine a_iconst eX10_isName_66 ?_
                refine a_zret eX10_isName_67 rfl (by first | exact Or.inl rfl | exact Or.inr rfl | omega) rfl ⟨Nat.zero_le _, Nat.zero_le _⟩ ?_
                first
                  | exact h0 (fun z => z.2 0 (by decide) hT20)
                  | exact h0 (fun z => z.2 1 (by decide) hT29)
                  | exact h0 (fun z => z.2 2 (by decide) hT38)
                  | exact h0 (fun z => z.2 3 (by decide) hT47)
                  | exact h0 (fun z => z.2 4 (by decide) hT56)
                  | exact h0 (fun z => by have := h35.mpr z.1.1; omega)
                  | exact h0 (fun z => by have := hw0.mpr z.1.2; omega)
              · skip
                dsimp only [Option.toList, List.cons_append, List.nil_append]
                refine a_if_ne 66 eX10_isName_59 (by decide) (by omega) (fun h => absurd h (by decide)) (fun _ => ?_)
                refine a_iconst eX10_isName_62 ?_
                refine a_goto 67 eX10_isName_63 (by decide) ?_
                refine a_zret eX10_isName_67 rfl (by first | exact Or.inl rfl | exact Or.inr rfl | omega) rfl ⟨Nat.zero_le _, Nat.zero_le _⟩ ?_
                refine h1 ⟨⟨h35.mp (by omega), hw0.mp (by omega)⟩, fun i hi => ?_⟩
                rcases (show i = 0 ∨ i = 1 ∨ i = 2 ∨ i = 3 ∨ i = 4 by omega) with rfl | rfl | rfl | rfl | rfl
                · exact hF20
                · exact hF29
                · exact hF38
                · exact hF47
                · exact hF56
