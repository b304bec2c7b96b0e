/-! ===== cabs brought: the reference ===== -/
def dm (m : mS) : Int → Int → Int := fun a b => aw_ap (m 1 a) (m 1 b)
def ovm (m : mS) : Int → Int := fun r => m 10 r - m 11 r
def frA (σ σ' : aw_S) : Prop := (∀ (a : Nat) (j : Int), a ≠ 206 → a ≠ 207 → σ'.1 a j = σ.1 a j) ∧ σ'.2 = σ.2
def frO (σ σ' : aw_S) : Prop := (∀ (a : Nat) (j : Int), ¬ (203 ≤ a ∧ a ≤ 207) → σ'.1 a j = σ.1 a j) ∧ σ'.2 = σ.2
theorem frA_rf (σ : aw_S) : frA σ σ := ⟨fun _ _ _ _ => rfl, rfl⟩
theorem frO_rf (σ : aw_S) : frO σ σ := ⟨fun _ _ _ => rfl, rfl⟩
theorem frO_A {σ σ' : aw_S} (h : frA σ σ') : frO σ σ' := ⟨fun a j q => h.1 a j (by omega) (by omega), h.2⟩
theorem frO_tr {σ σ' σ2 : aw_S} (h : frO σ σ') (h2 : frO σ' σ2) : frO σ σ2 := ⟨fun a j q => (h2.1 a j q).trans (h.1 a j q), h2.2.trans h.2⟩
theorem cityM_O {σ σ' : aw_S} {m : mS} (h : frO σ σ') (hM : cityM σ m) : cityM σ' m := by
  unfold cityM at hM ⊢
  simp only [fun j => h.1 178 j (by omega), fun j => h.1 179 j (by omega), fun j => h.1 180 j (by omega), fun j => h.1 181 j (by omega), h.1 171 14 (by omega), h.1 171 16 (by omega), h.1 171 20 (by omega)]
  exact hM
theorem dm_b {m : mS} (wC : wfCity m) {a b : Int} (ha : 0 ≤ a ∧ a < m 0 0) (hb : 0 ≤ b ∧ b < m 0 0) : 0 ≤ dm m a b ∧ dm m a b ≤ 99 := by
  have h1 := (wC.2.1 a ha.1 ha.2).1
  have h2 := (wC.2.1 b hb.1 hb.2).1
  unfold dm aw_ap
  split <;> omega
theorem dm_nn {m : mS} (a b : Int) : 0 ≤ dm m a b := by
  unfold dm aw_ap
  split <;> omega
theorem st0_b {R : Int} {sp : Int → Int} (v : Int) : 0 ≤ st0 R sp v ∧ st0 R sp v ≤ 1000000 := by
  unfold st0
  split <;> omega
theorem uf_67 {σ : aw_S} {i j v w : Int} : (aw_si (aw_si σ 206 i v) 207 j w).1 206 = uf (σ.1 206) i v ∧ (aw_si (aw_si σ 206 i v) 207 j w).1 207 = uf (σ.1 207) j w := by
  refine ⟨?_, ?_⟩
  · rw [uf_sn (by omega), uf_si]
  · rw [uf_si, uf_sn (by omega)]
/-- the carried, of the model and in the state -/
def xOK (σ : aw_S) (x : Int → Int → Int) : Prop := ∀ a b : Int, 0 ≤ a → a < 6 → 0 ≤ b → b < 6 → σ.1 205 (6 * a + b) = x a b
theorem xOK_u {σ : aw_S} {x : Int → Int → Int} (h : xOK σ x) {a b i v : Int} (ha : 0 ≤ a ∧ a < 6) (hb : 0 ≤ b ∧ b < 6) (hi : i = 6 * a + b) : xOK (aw_si σ 205 i v) (ux x a b v) := fun c d c1 c2 d1 d2 => by
  unfold ux
  by_cases q : c = a ∧ d = b
  · rw [if_pos q, q.1, q.2, hi, rd_si_eq]
  · rw [if_neg q, rd_si_ni (by omega)]; exact h c d c1 c2 d1 d2
theorem xOK_f {σ σ' : aw_S} {x : Int → Int → Int} (h : xOK σ x) (f : ∀ j, σ'.1 205 j = σ.1 205 j) : xOK σ' x := fun c d c1 c2 d1 d2 => (f _).trans (h c d c1 c2 d1 d2)
theorem brI_b {R A n : Int} {d x : Int → Int → Int} {s0 w0 sp wa : Int → Int} (h : brI R d s0 w0 x sp wa A n) {a b : Int} (ha : 0 ≤ a ∧ a < R) (hb : 0 ≤ b ∧ b < R) : (0 ≤ x a b ∧ x a b ≤ s0 a) ∧ (0 ≤ sp a ∧ sp a ≤ s0 a) ∧ (0 ≤ wa b ∧ wa b ≤ w0 b) := by
  obtain ⟨i1, i2, i3, -⟩ := h
  have e1 := i2 a ha.1 ha.2
  have e2 := i3 b hb.1 hb.2
  have e3 := s6_one (f := x a) (j := b) R.toNat (fun j j1 j2 => i1 a j ha.1 ha.2 j1 (by omega)) hb.1 (by omega)
  have e4 := s6_nn (f := fun a => x a b) R.toNat (fun j j1 j2 => i1 j b j1 (by omega) hb.1 hb.2)
  have e5 := i1 a b ha.1 ha.2 hb.1 hb.2
  omega
set_option maxHeartbeats 4000000 in
set_option maxRecDepth 100000 in
theorem lp_om0 {l : Launch} {σ : aw_S} {Post : Option Value → aw_S → Prop} {tw cs : Bool} (hR : σ.2.2 = RF tw cs) {m : mS} (hM : cityM σ m) (wC : wfCity m) {x : Int → Int → Int} (hx : xOK σ x) {s0 w0 : Int → Int} {A n : Int} (hI : brI (m 0 0) (dm m) s0 w0 x (σ.1 203) (σ.1 204) A n) (hs0 : ∀ r : Int, 0 ≤ r → r < m 0 0 → s0 r ≤ 99 ∧ w0 r ≤ 99) (hk : ∀ σ2 lx, frA σ σ2 → (∀ v : Int, 0 ≤ v → v < 12 → σ2.1 206 v = st0 (m 0 0) (σ.1 203) v ∧ σ2.1 207 v = -1) → AW l yX10_oneMore cX10_oneMore 5 (some .int) 1 21 0 0 SH Post SH 0 0 (σ2) 51 [some (.ref 171), lx, none, none, none] [])  : ∀ (n : Nat) (k : Int) (σ1 : aw_S), ((12 - k).toNat ≤ n) → (0 ≤ k ∧ k ≤ 12) → (frA σ σ1) → (∀ v : Int, 0 ≤ v → v < k → σ1.1 206 v = st0 (m 0 0) (σ.1 203) v ∧ σ1.1 207 v = -1) → AW l yX10_oneMore cX10_oneMore 5 (some .int) 1 21 0 0 SH Post SH 0 0 (σ1) 2 [some (.ref 171), some (.int (jI k)), none, none, none] [] := by
  intro n
  induction n with
  | zero =>
    intro k σ1 hm hkb f1 hv
    obtain ⟨c1, c2, -⟩ := id hM
    have h6 := wC.1
    have hR : σ1.2.2 = RF tw cs := by rw [f1.2]; exact hR
    have c1 : σ1.1 171 14 = m 0 0 := (f1.1 _ _ (by omega) (by omega)).trans c1
    have e3 : σ1.1 203 k = σ.1 203 k := f1.1 _ _ (by omega) (by omega)
    have hb3 : k < m 0 0 → 0 ≤ σ.1 203 k ∧ σ.1 203 k ≤ 99 := fun h => by
      have := (brI_b hI (a := k) (b := k) ⟨by omega, h⟩ ⟨by omega, h⟩).2.1
      have := hs0 k (by omega) h
      omega
    refine a_ild1 eX10_oneMore_2 ?_
    refine a_bipush eX10_oneMore_3 (by decide) ?_
    refine a_icmp_ge 51 eX10_oneMore_5 (by decide) (by omega) (fun hT5 => ?_) (fun hF5 => ?_)
    · skip
      exact hk σ1 _ f1 (fun v v1 v2 => hv v v1 (by omega))
    · skip
      exfalso; omega
  | succ n ih =>
    intro k σ1 hm hkb f1 hv
    obtain ⟨c1, c2, -⟩ := id hM
    have h6 := wC.1
    have hR : σ1.2.2 = RF tw cs := by rw [f1.2]; exact hR
    have c1 : σ1.1 171 14 = m 0 0 := (f1.1 _ _ (by omega) (by omega)).trans c1
    have e3 : σ1.1 203 k = σ.1 203 k := f1.1 _ _ (by omega) (by omega)
    have hb3 : k < m 0 0 → 0 ≤ σ.1 203 k ∧ σ.1 203 k ≤ 99 := fun h => by
      have := (brI_b hI (a := k) (b := k) ⟨by omega, h⟩ ⟨by omega, h⟩).2.1
      have := hs0 k (by omega) h
      omega
    refine a_ild1 eX10_oneMore_2 ?_
    refine a_bipush eX10_oneMore_3 (by decide) ?_
    refine a_icmp_ge 51 eX10_oneMore_5 (by decide) (by omega) (fun hT5 => ?_) (fun hF5 => ?_)
    · skip
      exact hk σ1 _ f1 (fun v v1 v2 => hv v v1 (by omega))
    · skip
      refine a_ald0 eX10_oneMore_8 ?_
      refine a_getR 51 206 eX10_oneMore_9 fl_X10_115 rfl rfl sh_171 ((congrFun (congrFun hR _) _).trans rf_171_51) ?_
      refine a_ild1 eX10_oneMore_12 ?_
      refine a_ild1 eX10_oneMore_13 ?_
      refine a_ald0 eX10_oneMore_14 ?_
      refine a_getI 14 eX10_oneMore_15 fl_X10_235 rfl rfl sh_171 ?_
      refine a_eqtop (y0 := m 0 0) (by exact c1) ?_
      refine a_icmp_ge 34 eX10_oneMore_18 (by decide) (by omega) (fun hT18 => ?_) (fun hF18 => ?_)
      · skip
        refine a_ldcw (1000000) (by decide) eX10_oneMore_34 kc_X10_347 ?_
        refine a_iast eX10_oneMore_37 sh_206 rfl (by omega) ?_
        refine a_ald0 eX10_oneMore_38 ?_
        refine a_getR 52 207 eX10_oneMore_39 fl_X10_118 rfl rfl sh_171 ((congrFun (congrFun hR _) _).trans rf_171_52) ?_
        refine a_ild1 eX10_oneMore_42 ?_
        refine a_iconst eX10_oneMore_43 ?_
        refine a_iast eX10_oneMore_44 sh_207 rfl (by omega) ?_
        refine a_iinc1 eX10_oneMore_45 (by decide) aw_n2r ?_
        refine a_goto 2 eX10_oneMore_48 (by decide) ?_
        refine ih (k + 1) _ (by omega) (by omega) ⟨fun a j q1 q2 => by rw [rd_si_ne q2, rd_si_ne q1]; exact f1.1 a j q1 q2, f1.2⟩ (fun v v1 v2 => ?_)
        by_cases q : v = k
        · subst q
          rw [rd_si_ne (by omega), rd_si_eq, rd_si_eq]
          unfold st0
          first
            | rw [if_pos ⟨by omega, by omega⟩]; exact ⟨rfl, rfl⟩
            | rw [if_neg (by omega)]; exact ⟨rfl, rfl⟩
        · rw [rd_si_ne (by omega), rd_si_ni q, rd_si_ni q]
          exact hv v v1 (by omega)
      · skip
        refine a_ald0 eX10_oneMore_21 ?_
        refine a_getR 48 203 eX10_oneMore_22 fl_X10_106 rfl rfl sh_171 ((congrFun (congrFun hR _) _).trans rf_171_48) ?_
        refine a_ild1 eX10_oneMore_25 ?_
        refine a_iald eX10_oneMore_26 sh_203 rfl (by omega) ?_
        refine a_eqtop (y0 := σ.1 203 k) (by exact e3) ?_
        have hb3 := hb3 (by omega)
        refine a_if_le 34 eX10_oneMore_27 (by decide) (by omega) (fun hT27 => ?_) (fun hF27 => ?_)
        · skip
          refine a_ldcw (1000000) (by decide) eX10_oneMore_34 kc_X10_347 ?_
          refine a_iast eX10_oneMore_37 sh_206 rfl (by omega) ?_
          refine a_ald0 eX10_oneMore_38 ?_
          refine a_getR 52 207 eX10_oneMore_39 fl_X10_118 rfl rfl sh_171 ((congrFun (congrFun hR _) _).trans rf_171_52) ?_
          refine a_ild1 eX10_oneMore_42 ?_
          refine a_iconst eX10_oneMore_43 ?_
          refine a_iast eX10_oneMore_44 sh_207 rfl (by omega) ?_
          refine a_iinc1 eX10_oneMore_45 (by decide) aw_n2r ?_
          refine a_goto 2 eX10_oneMore_48 (by decide) ?_
          refine ih (k + 1) _ (by omega) (by omega) ⟨fun a j q1 q2 => by rw [rd_si_ne q2, rd_si_ne q1]; exact f1.1 a j q1 q2, f1.2⟩ (fun v v1 v2 => ?_)
          by_cases q : v = k
          · subst q
            rw [rd_si_ne (by omega), rd_si_eq, rd_si_eq]
            unfold st0
            first
              | rw [if_pos ⟨by omega, by omega⟩]; exact ⟨rfl, rfl⟩
              | rw [if_neg (by omega)]; exact ⟨rfl, rfl⟩
          · rw [rd_si_ne (by omega), rd_si_ni q, rd_si_ni q]
            exact hv v v1 (by omega)
        · skip
          refine a_iconst eX10_oneMore_30 ?_
          refine a_goto 37 eX10_oneMore_31 (by decide) ?_
          refine a_iast eX10_oneMore_37 sh_206 rfl (by omega) ?_
          refine a_ald0 eX10_oneMore_38 ?_
          refine a_getR 52 207 eX10_oneMore_39 fl_X10_118 rfl rfl sh_171 ((congrFun (congrFun hR _) _).trans rf_171_52) ?_
          refine a_ild1 eX10_oneMore_42 ?_
          refine a_iconst eX10_oneMore_43 ?_
          refine a_iast eX10_oneMore_44 sh_207 rfl (by omega) ?_
          refine a_iinc1 eX10_oneMore_45 (by decide) aw_n2r ?_
          refine a_goto 2 eX10_oneMore_48 (by decide) ?_
          refine ih (k + 1) _ (by omega) (by omega) ⟨fun a j q1 q2 => by rw [rd_si_ne q2, rd_si_ne q1]; exact f1.1 a j q1 q2, f1.2⟩ (fun v v1 v2 => ?_)
          by_cases q : v = k
          · subst q
            rw [rd_si_ne (by omega), rd_si_eq, rd_si_eq]
            unfold st0
            first
              | rw [if_pos ⟨by omega, by omega⟩]; exact ⟨rfl, rfl⟩
              | rw [if_neg (by omega)]; exact ⟨rfl, rfl⟩
          · rw [rd_si_ne (by omega), rd_si_ni q, rd_si_ni q]
            exact hv v v1 (by omega)

set_option maxHeartbeats 4000000 in
set_option maxRecDepth 100000 in
theorem sg_omC {l : Launch} {σ : aw_S} {Post : Option Value → aw_S → Prop} {tw cs : Bool} (hR : σ.2.2 = RF tw cs) {m : mS} (hM : cityM σ m) (wC : wfCity m) {x : Int → Int → Int} (hx : xOK σ x) {s0 w0 : Int → Int} {A n : Int} (hI : brI (m 0 0) (dm m) s0 w0 x (σ.1 203) (σ.1 204) A n) (hs0 : ∀ r : Int, 0 ≤ r → r < m 0 0 → s0 r ≤ 99 ∧ w0 r ≤ 99) {f : Int → Int} {th : Int} (hc : cert (m 0 0) (dm m) x (σ.1 203) (σ.1 204) f th) (hf : ∀ v : Int, 0 ≤ v → v < 12 → 0 ≤ f v ∧ f v ≤ 1000000) {σ1 : aw_S} {k : Nat} {a c : Int} (ha : 0 ≤ a ∧ a < m 0 0) (hcb : 0 ≤ c ∧ c < m 0 0) (f1 : frA σ σ1) (hS : srch (m 0 0) (dm m) x (st0 (m 0 0) (σ.1 203)) f (σ1.1 206) (σ1.1 207) k ((12 * a + 2 * c).toNat + 1)) (hk : ∀ σ2, frA σ σ2 → srch (m 0 0) (dm m) x (st0 (m 0 0) (σ.1 203)) f (σ2.1 206) (σ2.1 207) k (12 * a + 2 * (c + 1)).toNat → AW l yX10_oneMore cX10_oneMore 5 (some .int) 1 21 0 0 SH Post SH 0 0 (σ2) 206 [some (.ref 171), some (.int (jI (k : Int))), some (.int (jI a)), some (.int (jI c)), some (.int (jI (dm m a c)))] [])  : AW l yX10_oneMore cX10_oneMore 5 (some .int) 1 21 0 0 SH Post SH 0 0 (σ1) 143 [some (.ref 171), some (.int (jI (k : Int))), some (.int (jI a)), some (.int (jI c)), some (.int (jI (dm m a c)))] [] := by
  obtain ⟨c1, c2, -⟩ := id hM
  have h6 := wC.1
  have hR : σ1.2.2 = RF tw cs := by rw [f1.2]; exact hR
  have c1 : σ1.1 171 14 = m 0 0 := (f1.1 _ _ (by omega) (by omega)).trans c1
  have hbd : ∀ v : Int, 0 ≤ v → v < 12 → 0 ≤ σ1.1 206 v ∧ σ1.1 206 v ≤ 1000000 := fun v v1 v2 => by
    have h1 := srch_bd h6.2 (br_P hc) (fun u u1 u2 => by
      unfold st0
      split
      · rename_i q; exact (hc.2.2.1 u u1 q.1).1 q.2
      · exact (hf u u1 u2).2) hS v ⟨v1, v2⟩
    have h2 := hf v v1 v2
    have h3 := st0_b (R := m 0 0) (sp := σ.1 203) v
    omega
  have hd9 := dm_b wC ha hcb
  have hba := hbd a (by omega) (by omega)
  have hbc := hbd (6 + c) (by omega) (by omega)
  have hxx := (brI_b hI ha hcb).1
  have hs9 := hs0 a ha.1 ha.2
  have ex : σ1.1 205 (6 * a + c) = x a c := (f1.1 _ _ (by omega) (by omega)).trans (hx a c (by omega) (by omega) (by omega) (by omega))
  refine a_ald0 eX10_oneMore_143 ?_
  refine a_getR 50 205 eX10_oneMore_144 fl_X10_112 rfl rfl sh_171 ((congrFun (congrFun hR _) _).trans rf_171_50) ?_
  refine a_bipush eX10_oneMore_147 (by decide) ?_
  refine a_ild2 eX10_oneMore_149 ?_
  refine a_imul eX10_oneMore_150 ?_
  refine a_ild3 eX10_oneMore_151 ?_
  refine a_iadd eX10_oneMore_152 ?_
  refine a_iald eX10_oneMore_153 sh_205 rfl (by omega) ?_
  refine a_eqtop (y0 := x a c) (by exact ex) ?_
  refine a_if_le 206 eX10_oneMore_154 (by decide) (by omega) (fun hT154 => ?_) (fun hF154 => ?_)
  · skip
    exact hk _ f1 (srch_b' h6.2 ha hcb hS (fun _ => by omega))
  · skip
    refine a_ald0 eX10_oneMore_157 ?_
    refine a_getR 51 206 eX10_oneMore_158 fl_X10_115 rfl rfl sh_171 ((congrFun (congrFun hR _) _).trans rf_171_51) ?_
    refine a_bipush eX10_oneMore_161 (by decide) ?_
    refine a_ild3 eX10_oneMore_163 ?_
    refine a_iadd eX10_oneMore_164 ?_
    refine a_iald eX10_oneMore_165 sh_206 rfl (by omega) ?_
    refine a_ild4 eX10_oneMore_166 ?_
    refine a_isub eX10_oneMore_168 ?_
    refine a_ald0 eX10_oneMore_169 ?_
    refine a_getR 51 206 eX10_oneMore_170 fl_X10_115 rfl rfl sh_171 ((congrFun (congrFun hR _) _).trans rf_171_51) ?_
    refine a_ild2 eX10_oneMore_173 ?_
    refine a_iald eX10_oneMore_174 sh_206 rfl (by omega) ?_
    refine a_icmp_ge 206 eX10_oneMore_175 (by decide) (by omega) (fun hT175 => ?_) (fun hF175 => ?_)
    · skip
      exact hk _ f1 (srch_b' h6.2 ha hcb hS (fun _ => by omega))
    · skip
      refine a_ald0 eX10_oneMore_178 ?_
      refine a_getR 51 206 eX10_oneMore_179 fl_X10_115 rfl rfl sh_171 ((congrFun (congrFun hR _) _).trans rf_171_51) ?_
      refine a_ild2 eX10_oneMore_182 ?_
      refine a_ald0 eX10_oneMore_183 ?_
      refine a_getR 51 206 eX10_oneMore_184 fl_X10_115 rfl rfl sh_171 ((congrFun (congrFun hR _) _).trans rf_171_51) ?_
      refine a_bipush eX10_oneMore_187 (by decide) ?_
      refine a_ild3 eX10_oneMore_189 ?_
      refine a_iadd eX10_oneMore_190 ?_
      refine a_iald eX10_oneMore_191 sh_206 rfl (by omega) ?_
      refine a_ild4 eX10_oneMore_192 ?_
      refine a_isub eX10_oneMore_194 ?_
      refine a_iast eX10_oneMore_195 sh_206 rfl (by omega) ?_
      refine a_ald0 eX10_oneMore_196 ?_
      refine a_getR 52 207 eX10_oneMore_197 fl_X10_118 rfl rfl sh_171 ((congrFun (congrFun hR _) _).trans rf_171_52) ?_
      refine a_ild2 eX10_oneMore_200 ?_
      refine a_bipush eX10_oneMore_201 (by decide) ?_
      refine a_ild3 eX10_oneMore_203 ?_
      refine a_iadd eX10_oneMore_204 ?_
      refine a_iast eX10_oneMore_205 sh_207 rfl (by omega) ?_
      refine hk _ ⟨fun b j q1 q2 => by rw [rd_si_ne q2, rd_si_ne q1]; exact f1.1 b j q1 q2, f1.2⟩ ?_
      have h9 := srch_b h6.2 (br_P hc) ha hcb hS (by omega) (by omega)
      rw [uf_67.1, uf_67.2]
      exact h9

set_option maxHeartbeats 4000000 in
set_option maxRecDepth 100000 in
theorem lp_omB {l : Launch} {σ : aw_S} {Post : Option Value → aw_S → Prop} {tw cs : Bool} (hR : σ.2.2 = RF tw cs) {m : mS} (hM : cityM σ m) (wC : wfCity m) {x : Int → Int → Int} (hx : xOK σ x) {s0 w0 : Int → Int} {A n : Int} (hI : brI (m 0 0) (dm m) s0 w0 x (σ.1 203) (σ.1 204) A n) (hs0 : ∀ r : Int, 0 ≤ r → r < m 0 0 → s0 r ≤ 99 ∧ w0 r ≤ 99) {f : Int → Int} {th : Int} (hc : cert (m 0 0) (dm m) x (σ.1 203) (σ.1 204) f th) (hf : ∀ v : Int, 0 ≤ v → v < 12 → 0 ≤ f v ∧ f v ≤ 1000000) {k : Nat} {a : Int} (ha : 0 ≤ a ∧ a < m 0 0) (hk : ∀ σ2 lx ly, frA σ σ2 → srch (m 0 0) (dm m) x (st0 (m 0 0) (σ.1 203)) f (σ2.1 206) (σ2.1 207) k (12 * (a + 1) + 2 * 0).toNat → AW l yX10_oneMore cX10_oneMore 5 (some .int) 1 21 0 0 SH Post SH 0 0 (σ2) 212 [some (.ref 171), some (.int (jI (k : Int))), some (.int (jI a)), lx, ly] [])  : ∀ (n : Nat) (c : Int) (σ1 : aw_S) (ly : Option Value), ((m 0 0 - c).toNat ≤ n) → (0 ≤ c ∧ c ≤ m 0 0) → (frA σ σ1) → (srch (m 0 0) (dm m) x (st0 (m 0 0) (σ.1 203)) f (σ1.1 206) (σ1.1 207) k (12 * a + 2 * c).toNat) → AW l yX10_oneMore cX10_oneMore 5 (some .int) 1 21 0 0 SH Post SH 0 0 (σ1) 71 [some (.ref 171), some (.int (jI (k : Int))), some (.int (jI a)), some (.int (jI c)), ly] [] := by
  intro n
  induction n with
  | zero =>
    intro c σ1 ly hm hcb f1 hS
    have hR0 := hR
    obtain ⟨c1, c2, -⟩ := id hM
    have h6 := wC.1
    have hR : σ1.2.2 = RF tw cs := by rw [f1.2]; exact hR
    have c1 : σ1.1 171 14 = m 0 0 := (f1.1 _ _ (by omega) (by omega)).trans c1
    have hbd : ∀ v : Int, 0 ≤ v → v < 12 → 0 ≤ σ1.1 206 v ∧ σ1.1 206 v ≤ 1000000 := fun v v1 v2 => by
      have h1 := srch_bd h6.2 (br_P hc) (fun u u1 u2 => by
        unfold st0
        split
        · rename_i q; exact (hc.2.2.1 u u1 q.1).1 q.2
        · exact (hf u u1 u2).2) hS v ⟨v1, v2⟩
      have h2 := hf v v1 v2
      have h3 := st0_b (R := m 0 0) (sp := σ.1 203) v
      omega
    refine a_ild3 eX10_oneMore_71 ?_
    refine a_ald0 eX10_oneMore_72 ?_
    refine a_getI 14 eX10_oneMore_73 fl_X10_235 rfl rfl sh_171 ?_
    refine a_eqtop (y0 := m 0 0) (by exact c1) ?_
    refine a_icmp_ge 212 eX10_oneMore_76 (by decide) (by omega) (fun hT76 => ?_) (fun hF76 => ?_)
    · skip
      rw [show c = m 0 0 by omega] at hS
      exact hk σ1 _ _ f1 (srch_row h6 ha hS)
    · skip
      exfalso; omega
  | succ n ih =>
    intro c σ1 ly hm hcb f1 hS
    have hR0 := hR
    obtain ⟨c1, c2, -⟩ := id hM
    have h6 := wC.1
    have hR : σ1.2.2 = RF tw cs := by rw [f1.2]; exact hR
    have c1 : σ1.1 171 14 = m 0 0 := (f1.1 _ _ (by omega) (by omega)).trans c1
    have hbd : ∀ v : Int, 0 ≤ v → v < 12 → 0 ≤ σ1.1 206 v ∧ σ1.1 206 v ≤ 1000000 := fun v v1 v2 => by
      have h1 := srch_bd h6.2 (br_P hc) (fun u u1 u2 => by
        unfold st0
        split
        · rename_i q; exact (hc.2.2.1 u u1 q.1).1 q.2
        · exact (hf u u1 u2).2) hS v ⟨v1, v2⟩
      have h2 := hf v v1 v2
      have h3 := st0_b (R := m 0 0) (sp := σ.1 203) v
      omega
    refine a_ild3 eX10_oneMore_71 ?_
    refine a_ald0 eX10_oneMore_72 ?_
    refine a_getI 14 eX10_oneMore_73 fl_X10_235 rfl rfl sh_171 ?_
    refine a_eqtop (y0 := m 0 0) (by exact c1) ?_
    refine a_icmp_ge 212 eX10_oneMore_76 (by decide) (by omega) (fun hT76 => ?_) (fun hF76 => ?_)
    · skip
      rw [show c = m 0 0 by omega] at hS
      exact hk σ1 _ _ f1 (srch_row h6 ha hS)
    · skip
      refine a_ald0 eX10_oneMore_79 ?_
      refine a_ild2 eX10_oneMore_80 ?_
      have hd9 := dm_b wC ha (show 0 ≤ c ∧ c < m 0 0 by omega)
      have hba := hbd a (by omega) (by omega)
      have hbc := hbd (6 + c) (by omega) (by omega)
      have e8 := (f1.1 178 (3 * a) (by omega) (by omega)).trans (c2 a (by omega) (by omega)).1
      have e9 := (f1.1 178 (3 * c) (by omega) (by omega)).trans (c2 c (by omega) (by omega)).1
      have w8 := (wC.2.1 a (by omega) (by omega)).1
      have w9 := (wC.2.1 c (by omega) (by omega)).1
      refine a_cV1 eX10_oneMore_81 lk_X10_279 mV_X10_place sh_171 ⟨_, rfl, rfl⟩ mt_X10_place rfl rfl rfl rfl rfl (c_X10_place hR (by omega) ?_)
      dsimp only [Option.toList, List.cons_append, List.nil_append]
      refine a_ald0 eX10_oneMore_84 ?_
      refine a_ild3 eX10_oneMore_85 ?_
      refine a_cV1 eX10_oneMore_86 lk_X10_279 mV_X10_place sh_171 ⟨_, rfl, rfl⟩ mt_X10_place rfl rfl rfl rfl rfl (c_X10_place hR (by omega) ?_)
      dsimp only [Option.toList, List.cons_append, List.nil_append]
      refine a_cS2 eX10_oneMore_89 lk_X10_296 mS_X10_apart mt_X10_apart rfl rfl rfl rfl rfl rfl (c_X10_apart (by omega) ?_)
      dsimp only [Option.toList, List.cons_append, List.nil_append]
      refine a_eqtop (y0 := dm m a c) (by unfold dm; rw [e8, e9]) ?_
      refine a_ist4 eX10_oneMore_92 (by decide) aw_n2i ?_
      refine a_ald0 eX10_oneMore_94 ?_
      refine a_getR 51 206 eX10_oneMore_95 fl_X10_115 rfl rfl sh_171 ((congrFun (congrFun hR _) _).trans rf_171_51) ?_
      refine a_ild2 eX10_oneMore_98 ?_
      refine a_iald eX10_oneMore_99 sh_206 rfl (by omega) ?_
      refine a_ild4 eX10_oneMore_100 ?_
      refine a_iadd eX10_oneMore_102 ?_
      refine a_ald0 eX10_oneMore_103 ?_
      refine a_getR 51 206 eX10_oneMore_104 fl_X10_115 rfl rfl sh_171 ((congrFun (congrFun hR _) _).trans rf_171_51) ?_
      refine a_bipush eX10_oneMore_107 (by decide) ?_
      refine a_ild3 eX10_oneMore_109 ?_
      refine a_iadd eX10_oneMore_110 ?_
      refine a_iald eX10_oneMore_111 sh_206 rfl (by omega) ?_
      refine a_icmp_ge 143 eX10_oneMore_112 (by decide) (by omega) (fun hT112 => ?_) (fun hF112 => ?_)
      · skip
        refine sg_omC hR0 hM wC hx hI hs0 hc hf (k := k) (a := a) (c := c) ha (by omega) f1 (srch_f' h6.2 ha (by omega) hS (by omega)) (fun σ2 f2 hS2 => ?_)
        refine a_iinc3 eX10_oneMore_206 (by decide) aw_n2i ?_
        refine a_goto 71 eX10_oneMore_209 (by decide) ?_
        exact ih (c + 1) σ2 _ (by omega) (by omega) f2 hS2
      · skip
        refine a_ald0 eX10_oneMore_115 ?_
        refine a_getR 51 206 eX10_oneMore_116 fl_X10_115 rfl rfl sh_171 ((congrFun (congrFun hR _) _).trans rf_171_51) ?_
        refine a_bipush eX10_oneMore_119 (by decide) ?_
        refine a_ild3 eX10_oneMore_121 ?_
        refine a_iadd eX10_oneMore_122 ?_
        refine a_ald0 eX10_oneMore_123 ?_
        refine a_getR 51 206 eX10_oneMore_124 fl_X10_115 rfl rfl sh_171 ((congrFun (congrFun hR _) _).trans rf_171_51) ?_
        refine a_ild2 eX10_oneMore_127 ?_
        refine a_iald eX10_oneMore_128 sh_206 rfl (by omega) ?_
        refine a_ild4 eX10_oneMore_129 ?_
        refine a_iadd eX10_oneMore_131 ?_
        refine a_iast eX10_oneMore_132 sh_206 rfl (by omega) ?_
        refine a_ald0 eX10_oneMore_133 ?_
        refine a_getR 52 207 eX10_oneMore_134 fl_X10_118 rfl rfl sh_171 ((congrFun (congrFun hR _) _).trans rf_171_52) ?_
        refine a_bipush eX10_oneMore_137 (by decide) ?_
        refine a_ild3 eX10_oneMore_139 ?_
        refine a_iadd eX10_oneMore_140 ?_
        refine a_ild2 eX10_oneMore_141 ?_
        refine a_iast eX10_oneMore_142 sh_207 rfl (by omega) ?_
        refine sg_omC hR0 hM wC hx hI hs0 hc hf (k := k) (a := a) (c := c) ha (by omega) ⟨fun b j q1 q2 => by rw [rd_si_ne q2, rd_si_ne q1]; exact f1.1 b j q1 q2, f1.2⟩ (by have h9 := srch_f h6.2 (br_P hc) ha (show 0 ≤ c ∧ c < m 0 0 by omega) hS (by omega); rw [uf_67.1, uf_67.2]; exact h9) (fun σ2 f2 hS2 => ?_)
        refine a_iinc3 eX10_oneMore_206 (by decide) aw_n2i ?_
        refine a_goto 71 eX10_oneMore_209 (by decide) ?_
        exact ih (c + 1) σ2 _ (by omega) (by omega) f2 hS2

set_option maxHeartbeats 4000000 in
set_option maxRecDepth 100000 in
theorem lp_omA {l : Launch} {σ : aw_S} {Post : Option Value → aw_S → Prop} {tw cs : Bool} (hR : σ.2.2 = RF tw cs) {m : mS} (hM : cityM σ m) (wC : wfCity m) {x : Int → Int → Int} (hx : xOK σ x) {s0 w0 : Int → Int} {A n : Int} (hI : brI (m 0 0) (dm m) s0 w0 x (σ.1 203) (σ.1 204) A n) (hs0 : ∀ r : Int, 0 ≤ r → r < m 0 0 → s0 r ≤ 99 ∧ w0 r ≤ 99) {f : Int → Int} {th : Int} (hc : cert (m 0 0) (dm m) x (σ.1 203) (σ.1 204) f th) (hf : ∀ v : Int, 0 ≤ v → v < 12 → 0 ≤ f v ∧ f v ≤ 1000000) {k : Nat} (hk : ∀ σ2 l2 l3 l4, frA σ σ2 → srch (m 0 0) (dm m) x (st0 (m 0 0) (σ.1 203)) f (σ2.1 206) (σ2.1 207) (k + 1) (12 * 0 + 2 * 0 : Int).toNat → AW l yX10_oneMore cX10_oneMore 5 (some .int) 1 21 0 0 SH Post SH 0 0 (σ2) 218 [some (.ref 171), some (.int (jI (k : Int))), l2, l3, l4] [])  : ∀ (n : Nat) (a : Int) (σ1 : aw_S) (l3 : Option Value) (l4 : Option Value), ((m 0 0 - a).toNat ≤ n) → (0 ≤ a ∧ a ≤ m 0 0) → (frA σ σ1) → (srch (m 0 0) (dm m) x (st0 (m 0 0) (σ.1 203)) f (σ1.1 206) (σ1.1 207) k (12 * a + 2 * 0).toNat) → AW l yX10_oneMore cX10_oneMore 5 (some .int) 1 21 0 0 SH Post SH 0 0 (σ1) 61 [some (.ref 171), some (.int (jI (k : Int))), some (.int (jI a)), l3, l4] [] := by
  intro n
  induction n with
  | zero =>
    intro a σ1 l3 l4 hm hab f1 hS
    have hR0 := hR
    obtain ⟨c1, c2, -⟩ := id hM
    have h6 := wC.1
    have hR : σ1.2.2 = RF tw cs := by rw [f1.2]; exact hR
    have c1 : σ1.1 171 14 = m 0 0 := (f1.1 _ _ (by omega) (by omega)).trans c1
    refine a_ild2 eX10_oneMore_61 ?_
    refine a_ald0 eX10_oneMore_62 ?_
    refine a_getI 14 eX10_oneMore_63 fl_X10_235 rfl rfl sh_171 ?_
    refine a_eqtop (y0 := m 0 0) (by exact c1) ?_
    refine a_icmp_ge 218 eX10_oneMore_66 (by decide) (by omega) (fun hT66 => ?_) (fun hF66 => ?_)
    · skip
      rw [show a = m 0 0 by omega] at hS
      exact hk σ1 _ _ _ f1 (srch_turn h6 hS)
    · skip
      exfalso; omega
  | succ n ih =>
    intro a σ1 l3 l4 hm hab f1 hS
    have hR0 := hR
    obtain ⟨c1, c2, -⟩ := id hM
    have h6 := wC.1
    have hR : σ1.2.2 = RF tw cs := by rw [f1.2]; exact hR
    have c1 : σ1.1 171 14 = m 0 0 := (f1.1 _ _ (by omega) (by omega)).trans c1
    refine a_ild2 eX10_oneMore_61 ?_
    refine a_ald0 eX10_oneMore_62 ?_
    refine a_getI 14 eX10_oneMore_63 fl_X10_235 rfl rfl sh_171 ?_
    refine a_eqtop (y0 := m 0 0) (by exact c1) ?_
    refine a_icmp_ge 218 eX10_oneMore_66 (by decide) (by omega) (fun hT66 => ?_) (fun hF66 => ?_)
    · skip
      rw [show a = m 0 0 by omega] at hS
      exact hk σ1 _ _ _ f1 (srch_turn h6 hS)
    · skip
      refine a_iconst eX10_oneMore_69 ?_
      refine a_ist3 eX10_oneMore_70 (by decide) aw_n2i ?_
      refine lp_omB hR0 hM wC hx hI hs0 hc hf (k := k) (a := a) (by omega) (fun σ2 lx ly f2 hS2 => ?_) _ 0 σ1 _ (Nat.le_refl _) (by omega) f1 hS
      refine a_iinc2 eX10_oneMore_212 (by decide) aw_n2i ?_
      refine a_goto 61 eX10_oneMore_215 (by decide) ?_
      exact ih (a + 1) σ2 _ _ (by omega) (by omega) f2 hS2

set_option maxHeartbeats 4000000 in
set_option maxRecDepth 100000 in
theorem lp_omT {l : Launch} {σ : aw_S} {Post : Option Value → aw_S → Prop} {tw cs : Bool} (hR : σ.2.2 = RF tw cs) {m : mS} (hM : cityM σ m) (wC : wfCity m) {x : Int → Int → Int} (hx : xOK σ x) {s0 w0 : Int → Int} {A n : Int} (hI : brI (m 0 0) (dm m) s0 w0 x (σ.1 203) (σ.1 204) A n) (hs0 : ∀ r : Int, 0 ≤ r → r < m 0 0 → s0 r ≤ 99 ∧ w0 r ≤ 99) {f : Int → Int} {th : Int} (hc : cert (m 0 0) (dm m) x (σ.1 203) (σ.1 204) f th) (hf : ∀ v : Int, 0 ≤ v → v < 12 → 0 ≤ f v ∧ f v ≤ 1000000) (hk : ∀ σ2 l1 l2 l3 l4, frA σ σ2 → srch (m 0 0) (dm m) x (st0 (m 0 0) (σ.1 203)) f (σ2.1 206) (σ2.1 207) 12 (12 * 0 + 2 * 0 : Int).toNat → AW l yX10_oneMore cX10_oneMore 5 (some .int) 1 21 0 0 SH Post SH 0 0 (σ2) 224 [some (.ref 171), l1, l2, l3, l4] [])  : ∀ (n : Nat) (k : Nat) (σ1 : aw_S) (l2 : Option Value) (l3 : Option Value) (l4 : Option Value), (12 - k ≤ n) → (k ≤ 12) → (frA σ σ1) → (srch (m 0 0) (dm m) x (st0 (m 0 0) (σ.1 203)) f (σ1.1 206) (σ1.1 207) k (12 * 0 + 2 * 0 : Int).toNat) → AW l yX10_oneMore cX10_oneMore 5 (some .int) 1 21 0 0 SH Post SH 0 0 (σ1) 53 [some (.ref 171), some (.int (jI (k : Int))), l2, l3, l4] [] := by
  intro n
  induction n with
  | zero =>
    intro k σ1 l2 l3 l4 hm hkb f1 hS
    have hR0 := hR
    obtain ⟨c1, c2, -⟩ := id hM
    have h6 := wC.1
    have hR : σ1.2.2 = RF tw cs := by rw [f1.2]; exact hR
    have c1 : σ1.1 171 14 = m 0 0 := (f1.1 _ _ (by omega) (by omega)).trans c1
    refine a_ild1 eX10_oneMore_53 ?_
    refine a_bipush eX10_oneMore_54 (by decide) ?_
    refine a_icmp_ge 224 eX10_oneMore_56 (by decide) (by omega) (fun hT56 => ?_) (fun hF56 => ?_)
    · skip
      rw [show k = 12 by omega] at hS
      exact hk σ1 _ _ _ _ f1 hS
    · skip
      exfalso; omega
  | succ n ih =>
    intro k σ1 l2 l3 l4 hm hkb f1 hS
    have hR0 := hR
    obtain ⟨c1, c2, -⟩ := id hM
    have h6 := wC.1
    have hR : σ1.2.2 = RF tw cs := by rw [f1.2]; exact hR
    have c1 : σ1.1 171 14 = m 0 0 := (f1.1 _ _ (by omega) (by omega)).trans c1
    refine a_ild1 eX10_oneMore_53 ?_
    refine a_bipush eX10_oneMore_54 (by decide) ?_
    refine a_icmp_ge 224 eX10_oneMore_56 (by decide) (by omega) (fun hT56 => ?_) (fun hF56 => ?_)
    · skip
      rw [show k = 12 by omega] at hS
      exact hk σ1 _ _ _ _ f1 hS
    · skip
      refine a_iconst eX10_oneMore_59 ?_
      refine a_ist2 eX10_oneMore_60 (by decide) aw_n2i ?_
      refine lp_omA hR0 hM wC hx hI hs0 hc hf (k := k) (fun σ2 l2 l3 l4 f2 hS2 => ?_) _ 0 σ1 _ _ (Nat.le_refl _) (by omega) f1 hS
      refine a_iinc1 eX10_oneMore_218 (by decide) aw_n2r ?_
      refine a_goto 53 eX10_oneMore_221 (by decide) ?_
      rw [show (k : Int) + 1 = (((k + 1 : Nat) : Nat) : Int) by omega]
      exact ih (k + 1) σ2 _ _ _ (by omega) (by omega) f2 hS2

set_option maxHeartbeats 4000000 in
set_option maxRecDepth 100000 in
theorem lp_omS {l : Launch} {σ : aw_S} {Post : Option Value → aw_S → Prop} {tw cs : Bool} (hR : σ.2.2 = RF tw cs) {m : mS} (hM : cityM σ m) (wC : wfCity m) {x : Int → Int → Int} (hx : xOK σ x) {s0 w0 : Int → Int} {A n : Int} (hI : brI (m 0 0) (dm m) s0 w0 x (σ.1 203) (σ.1 204) A n) (hs0 : ∀ r : Int, 0 ≤ r → r < m 0 0 → s0 r ≤ 99 ∧ w0 r ≤ 99) (hbd : ∀ v : Int, 0 ≤ v → v < 12 → 0 ≤ σ.1 206 v ∧ σ.1 206 v ≤ 1000000) {l3 l4 : Option Value} (hk : ∀ (best : Int) l2, aw_bx ((best = -1 ∧ ∀ u : Int, 0 ≤ u → u < m 0 0 → ¬ (0 < σ.1 204 u ∧ σ.1 206 (6 + u) < 1000000)) ∨ ((0 ≤ best ∧ best < m 0 0) ∧ (0 < σ.1 204 best ∧ σ.1 206 (6 + best) < 1000000) ∧ ∀ u : Int, 0 ≤ u → u < m 0 0 → (0 < σ.1 204 u ∧ σ.1 206 (6 + u) < 1000000) → σ.1 206 (6 + best) ≤ σ.1 206 (6 + u))) → AW l yX10_oneMore cX10_oneMore 5 (some .int) 1 21 0 0 SH Post SH 0 0 (σ) 294 [some (.ref 171), some (.int (jI best)), l2, l3, l4] [])  : ∀ (n : Nat) (b : Int) (best : Int), ((m 0 0 - b).toNat ≤ n) → (0 ≤ b ∧ b ≤ m 0 0) → (aw_bx ((best = -1 ∧ ∀ u : Int, 0 ≤ u → u < b → ¬ (0 < σ.1 204 u ∧ σ.1 206 (6 + u) < 1000000)) ∨ ((0 ≤ best ∧ best < b) ∧ (0 < σ.1 204 best ∧ σ.1 206 (6 + best) < 1000000) ∧ ∀ u : Int, 0 ≤ u → u < b → (0 < σ.1 204 u ∧ σ.1 206 (6 + u) < 1000000) → σ.1 206 (6 + best) ≤ σ.1 206 (6 + u)))) → AW l yX10_oneMore cX10_oneMore 5 (some .int) 1 21 0 0 SH Post SH 0 0 (σ) 228 [some (.ref 171), some (.int (jI best)), some (.int (jI b)), l3, l4] [] := by
  intro n
  induction n with
  | zero =>
    intro b best hm hbb hB
    obtain ⟨c1, c2, -⟩ := id hM
    have h6 := wC.1
    have hbr : -1 ≤ best ∧ best < 6 := by
      rcases aw_ub hB with ⟨z1, -⟩ | ⟨z1, -⟩ <;> omega
    have hbw : b < m 0 0 → (0 ≤ σ.1 204 b ∧ σ.1 204 b ≤ 99) ∧ (0 ≤ σ.1 206 (6 + b) ∧ σ.1 206 (6 + b) ≤ 1000000) := fun h => by
      have := (brI_b hI (a := b) (b := b) ⟨by omega, h⟩ ⟨by omega, h⟩).2.2
      have := hs0 b (by omega) h
      have := hbd (6 + b) (by omega) (by omega)
      omega
    have hbb2 : 0 ≤ best → 0 ≤ σ.1 206 (6 + best) ∧ σ.1 206 (6 + best) ≤ 1000000 := fun h => hbd _ (by omega) (by omega)
    refine a_ild2 eX10_oneMore_228 ?_
    refine a_ald0 eX10_oneMore_229 ?_
    refine a_getI 14 eX10_oneMore_230 fl_X10_235 rfl rfl sh_171 ?_
    refine a_eqtop (y0 := m 0 0) (by exact c1) ?_
    refine a_icmp_ge 294 eX10_oneMore_233 (by decide) (by omega) (fun hT233 => ?_) (fun hF233 => ?_)
    · skip
      rw [show b = m 0 0 by omega] at hB
      exact hk best _ hB
    · skip
      exfalso; omega
  | succ n ih =>
    intro b best hm hbb hB
    obtain ⟨c1, c2, -⟩ := id hM
    have h6 := wC.1
    have hbr : -1 ≤ best ∧ best < 6 := by
      rcases aw_ub hB with ⟨z1, -⟩ | ⟨z1, -⟩ <;> omega
    have hbw : b < m 0 0 → (0 ≤ σ.1 204 b ∧ σ.1 204 b ≤ 99) ∧ (0 ≤ σ.1 206 (6 + b) ∧ σ.1 206 (6 + b) ≤ 1000000) := fun h => by
      have := (brI_b hI (a := b) (b := b) ⟨by omega, h⟩ ⟨by omega, h⟩).2.2
      have := hs0 b (by omega) h
      have := hbd (6 + b) (by omega) (by omega)
      omega
    have hbb2 : 0 ≤ best → 0 ≤ σ.1 206 (6 + best) ∧ σ.1 206 (6 + best) ≤ 1000000 := fun h => hbd _ (by omega) (by omega)
    refine a_ild2 eX10_oneMore_228 ?_
    refine a_ald0 eX10_oneMore_229 ?_
    refine a_getI 14 eX10_oneMore_230 fl_X10_235 rfl rfl sh_171 ?_
    refine a_eqtop (y0 := m 0 0) (by exact c1) ?_
    refine a_icmp_ge 294 eX10_oneMore_233 (by decide) (by omega) (fun hT233 => ?_) (fun hF233 => ?_)
    · skip
      rw [show b = m 0 0 by omega] at hB
      exact hk best _ hB
    · skip
      have hbw := hbw (by omega)
      refine a_ald0 eX10_oneMore_236 ?_
      refine a_getR 49 204 eX10_oneMore_237 fl_X10_109 rfl rfl sh_171 ((congrFun (congrFun hR _) _).trans rf_171_49) ?_
      refine a_ild2 eX10_oneMore_240 ?_
      refine a_iald eX10_oneMore_241 sh_204 rfl (by omega) ?_
      refine a_if_le 288 eX10_oneMore_242 (by decide) (by omega) (fun hT242 => ?_) (fun hF242 => ?_)
      · skip
        refine a_iinc2 eX10_oneMore_288 (by decide) aw_n2i ?_
        refine a_goto 228 eX10_oneMore_291 (by decide) ?_
        refine ih (b + 1) best (by omega) (by omega) (aw_mb ?_)
        rcases aw_ub hB with ⟨z1, z2⟩ | ⟨z1, z2, z3⟩
        · refine Or.inl ⟨z1, fun u u1 u2 u3 => ?_⟩
          by_cases q : u = b
          · rw [q] at u3; omega
          · exact z2 u u1 (by omega) u3
        · refine Or.inr ⟨by omega, z2, fun u u1 u2 u3 => ?_⟩
          by_cases q : u = b
          · rw [q] at u3 ⊢; omega
          · exact z3 u u1 (by omega) u3
      · skip
        refine a_ald0 eX10_oneMore_245 ?_
        refine a_getR 51 206 eX10_oneMore_246 fl_X10_115 rfl rfl sh_171 ((congrFun (congrFun hR _) _).trans rf_171_51) ?_
        refine a_bipush eX10_oneMore_249 (by decide) ?_
        refine a_ild2 eX10_oneMore_251 ?_
        refine a_iadd eX10_oneMore_252 ?_
        refine a_iald eX10_oneMore_253 sh_206 rfl (by omega) ?_
        refine a_ldcw (1000000) (by decide) eX10_oneMore_254 kc_X10_347 ?_
        refine a_icmp_ge 288 eX10_oneMore_257 (by decide) (by omega) (fun hT257 => ?_) (fun hF257 => ?_)
        · skip
          refine a_iinc2 eX10_oneMore_288 (by decide) aw_n2i ?_
          refine a_goto 228 eX10_oneMore_291 (by decide) ?_
          refine ih (b + 1) best (by omega) (by omega) (aw_mb ?_)
          rcases aw_ub hB with ⟨z1, z2⟩ | ⟨z1, z2, z3⟩
          · refine Or.inl ⟨z1, fun u u1 u2 u3 => ?_⟩
            by_cases q : u = b
            · rw [q] at u3; omega
            · exact z2 u u1 (by omega) u3
          · refine Or.inr ⟨by omega, z2, fun u u1 u2 u3 => ?_⟩
            by_cases q : u = b
            · rw [q] at u3 ⊢; omega
            · exact z3 u u1 (by omega) u3
        · skip
          refine a_ild1 eX10_oneMore_260 ?_
          refine a_iconst eX10_oneMore_261 ?_
          refine a_icmp_eq 286 eX10_oneMore_262 (by decide) (by omega) (fun hT262 => ?_) (fun hF262 => ?_)
          · skip
            refine a_ild2 eX10_oneMore_286 ?_
            refine a_ist1 eX10_oneMore_287 (by decide) aw_n2r ?_
            refine a_iinc2 eX10_oneMore_288 (by decide) aw_n2i ?_
            refine a_goto 228 eX10_oneMore_291 (by decide) ?_
            refine ih (b + 1) b (by omega) (by omega) (aw_mb ?_)
            rcases aw_ub hB with ⟨z1, z2⟩ | ⟨z1, z2, z3⟩
            · refine Or.inr ⟨by omega, ⟨by omega, by omega⟩, fun u u1 u2 u3 => ?_⟩
              by_cases q : u = b
              · rw [q]; exact Int.le_refl _
              · exact absurd u3 (z2 u u1 (by omega))
            · refine Or.inr ⟨by omega, ⟨by omega, by omega⟩, fun u u1 u2 u3 => ?_⟩
              by_cases q : u = b
              · rw [q]; exact Int.le_refl _
              · have := z3 u u1 (by omega) u3
                omega
          · skip
            have hbb2 := hbb2 (by omega)
            refine a_ald0 eX10_oneMore_265 ?_
            refine a_getR 51 206 eX10_oneMore_266 fl_X10_115 rfl rfl sh_171 ((congrFun (congrFun hR _) _).trans rf_171_51) ?_
            refine a_bipush eX10_oneMore_269 (by decide) ?_
            refine a_ild2 eX10_oneMore_271 ?_
            refine a_iadd eX10_oneMore_272 ?_
            refine a_iald eX10_oneMore_273 sh_206 rfl (by omega) ?_
            refine a_ald0 eX10_oneMore_274 ?_
            refine a_getR 51 206 eX10_oneMore_275 fl_X10_115 rfl rfl sh_171 ((congrFun (congrFun hR _) _).trans rf_171_51) ?_
            refine a_bipush eX10_oneMore_278 (by decide) ?_
            refine a_ild1 eX10_oneMore_280 ?_
            refine a_iadd eX10_oneMore_281 ?_
            refine a_iald eX10_oneMore_282 sh_206 rfl (by omega) ?_
            refine a_icmp_ge 288 eX10_oneMore_283 (by decide) (by omega) (fun hT283 => ?_) (fun hF283 => ?_)
            · skip
              refine a_iinc2 eX10_oneMore_288 (by decide) aw_n2i ?_
              refine a_goto 228 eX10_oneMore_291 (by decide) ?_
              refine ih (b + 1) best (by omega) (by omega) (aw_mb ?_)
              rcases aw_ub hB with ⟨z1, z2⟩ | ⟨z1, z2, z3⟩
              · refine Or.inl ⟨z1, fun u u1 u2 u3 => ?_⟩
                by_cases q : u = b
                · rw [q] at u3; omega
                · exact z2 u u1 (by omega) u3
              · refine Or.inr ⟨by omega, z2, fun u u1 u2 u3 => ?_⟩
                by_cases q : u = b
                · rw [q] at u3 ⊢; omega
                · exact z3 u u1 (by omega) u3
            · skip
              refine a_ild2 eX10_oneMore_286 ?_
              refine a_ist1 eX10_oneMore_287 (by decide) aw_n2r ?_
              refine a_iinc2 eX10_oneMore_288 (by decide) aw_n2i ?_
              refine a_goto 228 eX10_oneMore_291 (by decide) ?_
              refine ih (b + 1) b (by omega) (by omega) (aw_mb ?_)
              rcases aw_ub hB with ⟨z1, z2⟩ | ⟨z1, z2, z3⟩
              · refine Or.inr ⟨by omega, ⟨by omega, by omega⟩, fun u u1 u2 u3 => ?_⟩
                by_cases q : u = b
                · rw [q]; exact Int.le_refl _
                · exact absurd u3 (z2 u u1 (by omega))
              · refine Or.inr ⟨by omega, ⟨by omega, by omega⟩, fun u u1 u2 u3 => ?_⟩
                by_cases q : u = b
                · rw [q]; exact Int.le_refl _
                · have := z3 u u1 (by omega) u3
                  omega
