/-! ===== cabs brought, both sides ===== -/
/-- the least minutes over the stretches, the first k ranks taken in -/
def brD (m : mS) (od : Int → Int) : Nat → Int → Int := dpC (fun k => loR (ovm m) (m 0 0) (od k)) (fun k => hiR (ovm m) (m 0 0) (od k)) (stK (m 1) od (m 0 0))
def brN (m : mS) : Int := if s6 (ovS (ovm m)) (m 0 0).toNat < s6 (ovW (ovm m)) (m 0 0).toNat then s6 (ovS (ovm m)) (m 0 0).toNat else s6 (ovW (ovm m)) (m 0 0).toNat
def isbrC (m : mS) (w v : Int) : Prop := (¬ (0 < m 0 0 ∧ (0 ≤ w ∧ w ≤ 1)) ∧ v = -1) ∨ ((0 < m 0 0 ∧ w = 0) ∧ v = brN m) ∨ ((0 < m 0 0 ∧ w = 1) ∧ ∃ od, ordOK (m 1) (m 0 0) od ∧ v = brD m od (m 0 0).toNat 16)
def isbrM (m : mS) (w v : Int) : Prop := (¬ (0 < m 0 0 ∧ (0 ≤ w ∧ w ≤ 1)) ∧ v = -1) ∨ ((0 < m 0 0 ∧ w = 0) ∧ v = brN m) ∨ ((0 < m 0 0 ∧ w = 1) ∧ ∃ x sp wa n, brI (m 0 0) (dm m) (ovS (ovm m)) (ovW (ovm m)) x sp wa v n ∧ ((∀ a : Int, 0 ≤ a → a < m 0 0 → sp a ≤ 0) ∨ (∀ b : Int, 0 ≤ b → b < m 0 0 → wa b ≤ 0)))
theorem cnt_inj {C : Nat} {f : Int → Int} : ∀ (k : Nat) (g : Int → Int), (∀ c, 0 ≤ g c) → (∀ i : Int, 0 ≤ i → i < (k : Int) → (0 ≤ f i ∧ f i < (C : Int)) ∧ 1 ≤ g (f i)) → (∀ i j : Int, 0 ≤ i → i < (k : Int) → 0 ≤ j → j < (k : Int) → f i = f j → i = j) → (k : Int) ≤ s6 g C
  | 0, g, h, _, _ => s6_nn C (fun i _ _ => h i)
  | k + 1, g, h0, h1, h2 => by
    obtain ⟨a1, a2⟩ := h1 (k : Int) (by omega) (by omega)
    have e := s6_up (f := g) (i := f (k : Int)) (v := g (f (k : Int)) - 1) C
    rw [if_pos a1] at e
    have ih := cnt_inj (f := f) (C := C) k (uf g (f (k : Int)) (g (f (k : Int)) - 1)) (fun c => by
      unfold uf
      split
      · omega
      · exact h0 c) (fun i i1 i2 => by
      obtain ⟨b1, b2⟩ := h1 i i1 (by omega)
      refine ⟨b1, ?_⟩
      unfold uf
      rw [if_neg (fun z => by have := h2 i (k : Int) i1 (by omega) (by omega) (by omega) z; omega)]
      exact b2) (fun i j i1 i2 j1 j2 => h2 i j i1 (by omega) j1 (by omega))
    omega
theorem stand_sum {m : mS} {N : Int} (wD : wfDay m 0 N) {R : Nat} (hR : R ≤ 6) : s6 (m 10) R ≤ m 0 4 := by
  obtain ⟨v1, v2, v3, v4, v5, v6, v7, v8⟩ := wfDay_0 wD
  have h1 : s6 (m 10) R ≤ s6 (fun r => s6 (fun c => if m (100 + c) 1 = 2 ∧ m (100 + c) 3 = r then 1 else 0) (m 0 4).toNat) R := s6_le R (fun r r1 r2 => by
    have hb := (v4 r r1 (by omega)).1
    have := cnt_inj (C := (m 0 4).toNat) (f := m (200 + r)) (m 10 r).toNat (fun c => if m (100 + c) 1 = 2 ∧ m (100 + c) 3 = r then 1 else 0) (fun c => by split <;> omega) (fun i i1 i2 => by
      obtain ⟨b1, b2, b3⟩ := v6 r i r1 (by omega) i1 (by omega)
      refine ⟨by omega, ?_⟩
      rw [if_pos ⟨b2, b3⟩]
      omega) (fun i j i1 i2 j1 j2 => v7 r i j r1 (by omega) i1 (by omega) j1 (by omega))
    omega)
  rw [s6_sw] at h1
  have h2 : s6 (fun b => s6 (fun a => if m (100 + b) 1 = 2 ∧ m (100 + b) 3 = a then (1 : Int) else 0) R) (m 0 4).toNat ≤ s6 (fun _ => (1 : Int)) (m 0 4).toNat := s6_le _ (fun c c1 c2 => by
    have h3 := s6_le (f := fun a => if m (100 + c) 1 = 2 ∧ m (100 + c) 3 = a then (1 : Int) else 0) (g := fun a => if a = m (100 + c) 3 then (1 : Int) else 0) R (fun i i1 i2 => by
      by_cases q : i = m (100 + c) 3
      · rw [if_pos q]; split <;> omega
      · rw [if_neg q, if_neg (by omega)]; omega)
    rw [s6_pt] at h3
    split at h3 <;> omega)
  rw [s6_c1] at h2
  omega
theorem spare_16 {m : mS} {N : Int} (wD : wfDay m 0 N) {R : Nat} (hR : R ≤ 6) : s6 (ovS (ovm m)) R ≤ 16 := by
  have h1 := stand_sum wD hR
  have h2 := s6_le (f := ovS (ovm m)) (g := m 10) R (fun r r1 r2 => by
    have := (wfDay_0 wD).2.2.2.1 r r1 (by omega)
    unfold ovS ovm
    split <;> omega)
  have := (wfDay_0 wD).2.1
  omega
theorem isbr_u {m : mS} {N w v v' : Int} (wC : wfCity m) (wD : wfDay m 0 N) (h : isbrC m w v) (h' : isbrM m w v') : v = v' := by
  have h6 := wC.1
  rcases h with ⟨a1, a2⟩ | ⟨a1, a2⟩ | ⟨a1, od, a2, a3⟩ <;> rcases h' with ⟨b1, b2⟩ | ⟨b1, b2⟩ | ⟨b1, x, sp, wa, n, b2, b3⟩
  · rw [a2, b2]
  · exact absurd ⟨b1.1, by omega⟩ a1
  · exact absurd ⟨b1.1, by omega⟩ a1
  · exact absurd ⟨a1.1, by omega⟩ b1
  · rw [a2, b2]
  · omega
  · exact absurd ⟨a1.1, by omega⟩ b1
  · omega
  · rw [a3]
    exact dual ⟨by omega, h6.2⟩ wC.2.2.1 (fun r r1 r2 => (wC.2.1 r r1 r2).1) a2 (spare_16 wD (by omega)) b2 b3
theorem AW.lc {l : Launch} {y : MethodName} {cc : ByteArray} {nL : Nat} {ret : Option FieldType} {F Lo mc ms : Nat} {she : aw_Sh} {Post : Option Value → aw_S → Prop} {sh : aw_Sh} {k n : Nat} {σ : aw_S} {pc : Nat} {ls xs : List (Option Value)} {st : List Value} (h : ls = xs) (kk : AW l y cc nL ret F Lo mc ms she Post sh k n σ pc xs st) : AW l y cc nL ret F Lo mc ms she Post sh k n σ pc ls st := h ▸ kk
set_option maxHeartbeats 4000000 in
set_option maxRecDepth 100000 in
theorem lp_lmI {l : Launch} {σ : aw_S} {Post : Option Value → aw_S → Prop} {tw cs : Bool} (hR0 : σ.2.2 = RF tw cs) {u v : Nat} (hcs : isCs cs u v) {a : Nat} {k1 k3 k5 lo hi st : Int} (hl : (-20 ≤ lo ∧ lo ≤ 20) ∧ (-20 ≤ hi ∧ hi ≤ 20) ∧ lo ≤ hi + 1) (hst : 0 ≤ st ∧ st ≤ 99) (hb : ∀ t : Int, 0 ≤ t → t ≤ 32 → 0 ≤ σ.1 u t ∧ σ.1 u t ≤ 1000000) (hk : ∀ σ2 l8, fr1 v σ σ2 → (∀ t : Int, 0 ≤ t → t ≤ 32 → σ2.1 v t = dpN (σ.1 u) lo st (hi - lo + 1).toNat t) → AW l yX1_leastMinutes cX1_leastMinutes 9 (some .int) 2 47 0 0 SH Post SH 0 0 (σ2) 202 [some (.ref 57), some (.ref a), some (.int (jI k1)), some (.int (jI k3)), some (.int (jI st)), some (.int (jI k5)), some (.int (jI lo)), some (.int (jI hi)), l8] [])  : ∀ (n : Nat) (j : Nat) (σ1 : aw_S), ((hi - lo + 1 - (j : Int)).toNat ≤ n) → ((j : Int) ≤ hi - lo + 1) → (fr1 v σ σ1) → (∀ t : Int, 0 ≤ t → t ≤ 32 → σ1.1 v t = dpN (σ.1 u) lo st j t) → AW l yX1_leastMinutes cX1_leastMinutes 9 (some .int) 2 47 0 0 SH Post SH 0 0 (σ1) 181 [some (.ref 57), some (.ref a), some (.int (jI k1)), some (.int (jI k3)), some (.int (jI st)), some (.int (jI k5)), some (.int (jI lo)), some (.int (jI hi)), some (.int (jI (lo + (j : Int))))] [] := by
  intro n
  induction n with
  | zero =>
    intro j σ1 hm hj f1 hv
    have hR : σ1.2.2 = RF tw cs := by rw [f1.2]; exact hR0
    have hn := cs_n hcs
    have eu : ∀ t : Int, σ1.1 u t = σ.1 u t := fun t => f1.1 u t hn.1.1
    refine a_ild8 eX1_leastMinutes_181 ?_
    refine a_ild7 eX1_leastMinutes_183 ?_
    refine a_icmp_gt 202 eX1_leastMinutes_185 (by decide) (by omega) (fun hT185 => ?_) (fun hF185 => ?_)
    · skip
      exact hk σ1 _ f1 (fun t t1 t2 => by rw [show (hi - lo + 1).toNat = j by omega]; exact hv t t1 t2)
    · skip
      exfalso; omega
  | succ n ih =>
    intro j σ1 hm hj f1 hv
    have hR : σ1.2.2 = RF tw cs := by rw [f1.2]; exact hR0
    have hn := cs_n hcs
    have eu : ∀ t : Int, σ1.1 u t = σ.1 u t := fun t => f1.1 u t hn.1.1
    refine a_ild8 eX1_leastMinutes_181 ?_
    refine a_ild7 eX1_leastMinutes_183 ?_
    refine a_icmp_gt 202 eX1_leastMinutes_185 (by decide) (by omega) (fun hT185 => ?_) (fun hF185 => ?_)
    · skip
      exact hk σ1 _ f1 (fun t t1 t2 => by rw [show (hi - lo + 1).toNat = j by omega]; exact hv t t1 t2)
    · skip
      refine a_ald0 eX1_leastMinutes_188 ?_
      refine a_ild8 eX1_leastMinutes_189 ?_
      refine a_ild4 eX1_leastMinutes_191 ?_
      refine a_cV2 eX1_leastMinutes_193 lk_X1_67 mV_X1_send sh_57 ⟨_, rfl, rfl⟩ mt_X1_send rfl rfl rfl rfl rfl rfl (c_X1_send hR hcs (by omega) hst (fun t t1 t2 => by rw [eu, hv t t1 t2]; exact ⟨hb t t1 t2, dpN_b hst (fun z z1 z2 => (hb z z1 z2).1) j t⟩) (fun σ2 f2 hv2 => ?_))
      dsimp only [Option.toList, List.cons_append, List.nil_append]
      refine a_iinc8 eX1_leastMinutes_196 (by decide) aw_n2i ?_
      refine a_goto 181 eX1_leastMinutes_199 (by decide) ?_
      rw [show lo + (j : Int) + 1 = lo + ((j + 1 : Nat) : Int) by omega]
      refine ih (j + 1) σ2 (by omega) (by omega) ⟨fun b i q => (f2.1 b i q).trans (f1.1 b i q), f2.2.trans f1.2⟩ (fun t t1 t2 => (hv2 t t1 t2).trans ?_)
      exact dpS_cg ⟨t1, t2⟩ (fun z _ _ => eu z) (hv t t1 t2)

set_option maxHeartbeats 4000000 in
set_option maxRecDepth 100000 in
theorem lp_lm {l : Launch} {σ : aw_S} {Post : Option Value → aw_S → Prop} {a : Nat} (ha : isCity a) {tw : Bool} {N : Int} {m : mS} (hC : cityC σ a m) (wC : wfCity m) (h0 : 0 < m 0 0) (wD : wfDay m 0 N) (hO : (∀ r : Int, 0 ≤ r → r < m 0 0 → σ.1 58 r = ovm m r)) (hS : σ.1 57 2 = s6 (ovS (ovm m)) (m 0 0).toNat) (hW : σ.1 57 3 = s6 (ovW (ovm m)) (m 0 0).toNat) (hOd : ordOK (m 1) (m 0 0) (σ.1 59)) (hk : ∀ σ' cs', frL σ σ' → σ'.2.2 = RF tw cs' → Post (some (.int (jI (brD m (σ.1 59) (m 0 0).toNat 16)))) σ')  : ∀ (n : Nat) (k : Nat) (σ1 : aw_S) (cs1 : Bool) (u : Nat) (v : Nat) (l3 : Option Value) (l4 : Option Value) (l5 : Option Value) (l6 : Option Value) (l7 : Option Value) (l8 : Option Value), ((m 0 0 - (k : Int)).toNat ≤ n) → ((k : Int) ≤ m 0 0) → (isCs cs1 u v) → (σ1.2.2 = RF tw cs1) → (frL σ σ1) → (∀ t : Int, 0 ≤ t → t ≤ 32 → σ1.1 u t = brD m (σ.1 59) k t) → AW l yX1_leastMinutes cX1_leastMinutes 9 (some .int) 2 47 0 0 SH Post SH 0 0 (σ1) 19 [some (.ref 57), some (.ref a), some (.int (jI (k : Int))), l3, l4, l5, l6, l7, l8] [] := by
  intro n
  induction n with
  | zero =>
    intro k σ1 cs1 u v l3 l4 l5 l6 l7 l8 hm hkR hcs hR f1 hc
    obtain ⟨c1, c2, c3, c4, c5, c6, c7, c8⟩ := id hC
    obtain ⟨y1, y2, y3, y4, y5, y6, y7, y8⟩ := id wC
    have ha2 : a ≤ 13 := by rcases ha with rfl | rfl <;> omega
    have hn := cs_n hcs
    have hC1 : cityC σ1 a m := cityC_lo ha (fun b j q => f1.1 b j (by omega) (by omega)) hC
    have e0 : σ1.1 a 0 = m 0 0 := hC1.1
    have hsb := ovS_b (ov := ovm m) (m 0 0).toNat (fun r r1 r2 => by have := ovm_b wD (r := r) (by omega); omega)
    have hstb : ∀ i : Int, 0 ≤ i → i < ((m 0 0).toNat : Int) → 0 ≤ stK (m 1) (σ.1 59) (m 0 0) i ∧ stK (m 1) (σ.1 59) (m 0 0) i ≤ 99 := fun i i1 i2 => by
      unfold stK
      split
      · rename_i q
        have q1 := od_lt y3 hOd (i := i) (j := i + 1) i1 (by omega) q
        have q2 := (od_b y3 hOd (k := i) (by omega)).1
        have q3 := (od_b y3 hOd (k := i + 1) (by omega)).1
        have q4 := (y2 _ q2.1 q2.2).1
        have q5 := (y2 _ q3.1 q3.2).1
        omega
      · omega
    have hcb : ∀ t : Int, 0 ≤ t → t ≤ 32 → 0 ≤ σ1.1 u t ∧ σ1.1 u t ≤ 1000000 := fun t t1 t2 => by
      rw [hc t t1 t2]
      exact dpC_b hstb k t (by omega)
    refine a_ild2 eX1_leastMinutes_19 ?_
    refine a_ald1 eX1_leastMinutes_20 ?_
    refine a_getI 0 eX1_leastMinutes_21 fl_X1_31 rfl rfl (sh_city ha) ?_
    refine a_eqtop (y0 := m 0 0) (by exact e0) ?_
    refine a_icmp_ge 228 eX1_leastMinutes_24 (by decide) (by omega) (fun hT24 => ?_) (fun hF24 => ?_)
    · skip
      refine a_ald0 eX1_leastMinutes_228 ?_
      refine a_getR 4 u eX1_leastMinutes_229 fl_X1_18 rfl rfl sh_57 ((congrFun (congrFun hR _) _).trans (cs_u hcs)) ?_
      refine a_bipush eX1_leastMinutes_232 (by decide) ?_
      refine a_iald eX1_leastMinutes_234 (cs_su hcs) rfl (by omega) ?_
      refine a_iret eX1_leastMinutes_235 rfl rfl ⟨Nat.zero_le _, Nat.zero_le _⟩ ?_
      have hz := hc 16 (by omega) (by omega)
      rw [hz, show k = (m 0 0).toNat by omega]
      exact hk σ1 cs1 f1 hR
    · skip
      exfalso; omega
  | succ n ih =>
    intro k σ1 cs1 u v l3 l4 l5 l6 l7 l8 hm hkR hcs hR f1 hc
    obtain ⟨c1, c2, c3, c4, c5, c6, c7, c8⟩ := id hC
    obtain ⟨y1, y2, y3, y4, y5, y6, y7, y8⟩ := id wC
    have ha2 : a ≤ 13 := by rcases ha with rfl | rfl <;> omega
    have hn := cs_n hcs
    have hC1 : cityC σ1 a m := cityC_lo ha (fun b j q => f1.1 b j (by omega) (by omega)) hC
    have e0 : σ1.1 a 0 = m 0 0 := hC1.1
    have hsb := ovS_b (ov := ovm m) (m 0 0).toNat (fun r r1 r2 => by have := ovm_b wD (r := r) (by omega); omega)
    have hstb : ∀ i : Int, 0 ≤ i → i < ((m 0 0).toNat : Int) → 0 ≤ stK (m 1) (σ.1 59) (m 0 0) i ∧ stK (m 1) (σ.1 59) (m 0 0) i ≤ 99 := fun i i1 i2 => by
      unfold stK
      split
      · rename_i q
        have q1 := od_lt y3 hOd (i := i) (j := i + 1) i1 (by omega) q
        have q2 := (od_b y3 hOd (k := i) (by omega)).1
        have q3 := (od_b y3 hOd (k := i + 1) (by omega)).1
        have q4 := (y2 _ q2.1 q2.2).1
        have q5 := (y2 _ q3.1 q3.2).1
        omega
      · omega
    have hcb : ∀ t : Int, 0 ≤ t → t ≤ 32 → 0 ≤ σ1.1 u t ∧ σ1.1 u t ≤ 1000000 := fun t t1 t2 => by
      rw [hc t t1 t2]
      exact dpC_b hstb k t (by omega)
    refine a_ild2 eX1_leastMinutes_19 ?_
    refine a_ald1 eX1_leastMinutes_20 ?_
    refine a_getI 0 eX1_leastMinutes_21 fl_X1_31 rfl rfl (sh_city ha) ?_
    refine a_eqtop (y0 := m 0 0) (by exact e0) ?_
    refine a_icmp_ge 228 eX1_leastMinutes_24 (by decide) (by omega) (fun hT24 => ?_) (fun hF24 => ?_)
    · skip
      refine a_ald0 eX1_leastMinutes_228 ?_
      refine a_getR 4 u eX1_leastMinutes_229 fl_X1_18 rfl rfl sh_57 ((congrFun (congrFun hR _) _).trans (cs_u hcs)) ?_
      refine a_bipush eX1_leastMinutes_232 (by decide) ?_
      refine a_iald eX1_leastMinutes_234 (cs_su hcs) rfl (by omega) ?_
      refine a_iret eX1_leastMinutes_235 rfl rfl ⟨Nat.zero_le _, Nat.zero_le _⟩ ?_
      have hz := hc 16 (by omega) (by omega)
      rw [hz, show k = (m 0 0).toNat by omega]
      exact hk σ1 cs1 f1 hR
    · skip
      have hrk := (od_b y3 hOd (k := (k : Int)) (by omega)).1
      have hov := ovm_b wD (r := σ.1 59 (k : Int)) (by omega)
      have ho1 : σ1.1 58 (σ.1 59 (k : Int)) = ovm m (σ.1 59 (k : Int)) := (f1.1 _ _ (by omega) (by omega)).trans (hO _ hrk.1 hrk.2)
      have hp1 : σ1.1 (a + 1) (σ.1 59 (k : Int)) = m 1 (σ.1 59 (k : Int)) := (hC1.2.1 _ hrk.1 hrk.2).1
      have hs1 : σ1.1 57 2 = s6 (ovS (ovm m)) (m 0 0).toNat := (f1.1 _ _ (by omega) (by omega)).trans hS
      have hw1 : σ1.1 57 3 = s6 (ovW (ovm m)) (m 0 0).toNat := (f1.1 _ _ (by omega) (by omega)).trans hW
      have hst := hstb (k : Int) (by omega) (by omega)
      refine a_ald0 eX1_leastMinutes_27 ?_
      refine a_getR 1 59 eX1_leastMinutes_28 fl_X1_15 rfl rfl sh_57 ((congrFun (congrFun hR _) _).trans rf_57_1) ?_
      refine a_ild2 eX1_leastMinutes_31 ?_
      refine a_iald eX1_leastMinutes_32 sh_59 rfl (by omega) ?_
      refine a_eqtop (y0 := σ.1 59 (k : Int)) (by exact f1.1 _ _ (by omega) (by omega)) ?_
      refine a_ist3 eX1_leastMinutes_33 (by decide) aw_n2i ?_
      refine a_ild2 eX1_leastMinutes_34 ?_
      refine a_iconst eX1_leastMinutes_35 ?_
      refine a_iadd eX1_leastMinutes_36 ?_
      refine a_ald1 eX1_leastMinutes_37 ?_
      refine a_getI 0 eX1_leastMinutes_38 fl_X1_31 rfl rfl (sh_city ha) ?_
      refine a_eqtop (y0 := m 0 0) (by exact e0) ?_
      refine a_icmp_ge 67 eX1_leastMinutes_41 (by decide) (by omega) (fun hT41 => ?_) (fun hF41 => ?_)
      · skip
        refine a_iconst eX1_leastMinutes_67 ?_
        refine a_eqtop (y0 := stK (m 1) (σ.1 59) (m 0 0) (k : Int)) (by unfold stK; first | exact (if_pos (by omega)).symm | exact (if_neg (by omega)).symm) ?_
        refine a_ist4 eX1_leastMinutes_68 (by decide) aw_n2i ?_
        refine a_ald0 eX1_leastMinutes_70 ?_
        refine a_getR 5 v eX1_leastMinutes_71 fl_X1_21 rfl rfl sh_57 ((congrFun (congrFun hR _) _).trans (cs_v hcs)) ?_
        refine a_ldc (1000000) (by decide) eX1_leastMinutes_74 kc_X1_60 ?_
        refine a_cS2 eX1_leastMinutes_76 lk_X1_61 mS_J7_fill_53178 mt_J7_fill_53178 rfl rfl rfl rfl rfl rfl (c_J7_fill_53178 (cs_sv hcs) rfl ?_)
        dsimp only [Option.toList, List.cons_append, List.nil_append]
        refine a_ald0 eX1_leastMinutes_79 ?_
        refine a_getR 0 58 eX1_leastMinutes_80 fl_X1_9 rfl rfl sh_57 ((congrFun (congrFun hR _) _).trans rf_57_0) ?_
        refine a_ild3 eX1_leastMinutes_83 ?_
        refine a_iald eX1_leastMinutes_84 sh_58 rfl (by omega) ?_
        refine a_eqtop (y0 := ovm m (σ.1 59 (k : Int))) (by rw [rd_sa_ne (by omega)]; exact ho1) ?_
        refine a_if_le 107 eX1_leastMinutes_85 (by decide) (by omega) (fun hT85 => ?_) (fun hF85 => ?_)
        · skip
          refine a_ald0 eX1_leastMinutes_107 ?_
          refine a_getI 3 eX1_leastMinutes_108 fl_X1_28 rfl rfl sh_57 ?_
          refine a_eqtop (y0 := s6 (ovW (ovm m)) (m 0 0).toNat) (by rw [rd_sa_ne (by omega)]; exact hw1) ?_
          refine a_ald0 eX1_leastMinutes_111 ?_
          refine a_getI 2 eX1_leastMinutes_112 fl_X1_24 rfl rfl sh_57 ?_
          refine a_eqtop (y0 := s6 (ovS (ovm m)) (m 0 0).toNat) (by rw [rd_sa_ne (by omega)]; exact hs1) ?_
          refine a_icmp_gt 122 eX1_leastMinutes_115 (by decide) (by omega) (fun hT115 => ?_) (fun hF115 => ?_)
          · skip
            refine a_iconst eX1_leastMinutes_122 ?_
            refine a_ist5 eX1_leastMinutes_123 (by decide) aw_n2i ?_
            refine a_ild5 eX1_leastMinutes_125 ?_
            refine a_if_eq 139 eX1_leastMinutes_127 (by decide) (by omega) (fun _ => ?_) (fun h => absurd h (by decide))
            refine a_ald0 eX1_leastMinutes_139 ?_
            refine a_getR 0 58 eX1_leastMinutes_140 fl_X1_9 rfl rfl sh_57 ((congrFun (congrFun hR _) _).trans rf_57_0) ?_
            refine a_ild3 eX1_leastMinutes_143 ?_
            refine a_iald eX1_leastMinutes_144 sh_58 rfl (by omega) ?_
            refine a_eqtop (y0 := ovm m (σ.1 59 (k : Int))) (by rw [rd_sa_ne (by omega)]; exact ho1) ?_
            refine a_iconst eX1_leastMinutes_145 ?_
            refine a_mmin eX1_leastMinutes_146 lk_X1_57 (by omega) rfl rfl ?_
            refine a_eqtop (y0 := loR (ovm m) (m 0 0) (σ.1 59 (k : Int))) (by unfold loR; (repeat' split) <;> omega) ?_
            refine a_ist6 eX1_leastMinutes_149 (by decide) aw_n2i ?_
            refine a_ild5 eX1_leastMinutes_151 ?_
            refine a_if_eq 165 eX1_leastMinutes_153 (by decide) (by omega) (fun _ => ?_) (fun h => absurd h (by decide))
            refine a_ald0 eX1_leastMinutes_165 ?_
            refine a_getR 0 58 eX1_leastMinutes_166 fl_X1_9 rfl rfl sh_57 ((congrFun (congrFun hR _) _).trans rf_57_0) ?_
            refine a_ild3 eX1_leastMinutes_169 ?_
            refine a_iald eX1_leastMinutes_170 sh_58 rfl (by omega) ?_
            refine a_eqtop (y0 := ovm m (σ.1 59 (k : Int))) (by rw [rd_sa_ne (by omega)]; exact ho1) ?_
            refine a_iconst eX1_leastMinutes_171 ?_
            refine a_mmax eX1_leastMinutes_172 lk_X1_44 (by omega) rfl rfl ?_
            refine a_eqtop (y0 := hiR (ovm m) (m 0 0) (σ.1 59 (k : Int))) (by unfold hiR; (repeat' split) <;> omega) ?_
            refine a_ist7 eX1_leastMinutes_175 (by decide) aw_n2i ?_
            refine a_ild6 eX1_leastMinutes_177 ?_
            refine a_ist8 eX1_leastMinutes_179 (by decide) aw_n2i ?_
            have hlo : (-20 ≤ loR (ovm m) (m 0 0) (σ.1 59 (k : Int)) ∧ loR (ovm m) (m 0 0) (σ.1 59 (k : Int)) ≤ 20) ∧ (-20 ≤ hiR (ovm m) (m 0 0) (σ.1 59 (k : Int)) ∧ hiR (ovm m) (m 0 0) (σ.1 59 (k : Int)) ≤ 20) ∧ loR (ovm m) (m 0 0) (σ.1 59 (k : Int)) ≤ hiR (ovm m) (m 0 0) (σ.1 59 (k : Int)) + 1 := by
              unfold loR hiR
              (repeat' split) <;> omega
            refine AW.lc (xs := [some (.ref 57), some (.ref a), some (.int (jI (k : Int))), some (.int (jI (σ.1 59 (k : Int)))), some (.int (jI (stK (m 1) (σ.1 59) (m 0 0) (k : Int)))), some (.int (jI 0)), some (.int (jI (loR (ovm m) (m 0 0) (σ.1 59 (k : Int))))), some (.int (jI (hiR (ovm m) (m 0 0) (σ.1 59 (k : Int))))), some (.int (jI (loR (ovm m) (m 0 0) (σ.1 59 (k : Int)) + ((0 : Nat) : Int))))]) (by rw [show ((0 : Nat) : Int) = 0 from rfl, Int.add_zero]) ?_
            refine lp_lmI (σ := aw_sa σ1 v (fun j => if 0 ≤ j ∧ j < ((33 : Nat) : Int) then 1000000 else σ1.1 v j)) (by exact hR) hcs hlo hst (fun t t1 t2 => by rw [rd_sa_ne hn.1.1]; exact hcb t t1 t2) (fun σ3 l8 f3 hv3 => ?_) _ 0 _ (Nat.le_refl _) (by omega) ⟨fun _ _ _ => rfl, rfl⟩ (fun t t1 t2 => by rw [rd_sa_eq, if_pos (by omega)]; rfl)
            have hR : σ3.2.2 = RF tw cs1 := by rw [f3.2]; exact hR
            refine a_ald0 eX1_leastMinutes_202 ?_
            refine a_getR 4 u eX1_leastMinutes_203 fl_X1_18 rfl rfl sh_57 ((congrFun (congrFun hR _) _).trans (cs_u hcs)) ?_
            refine a_ast8 eX1_leastMinutes_206 (by decide) aw_n2i ?_
            refine a_ald0 eX1_leastMinutes_208 ?_
            refine a_ald0 eX1_leastMinutes_209 ?_
            refine a_getR 5 v eX1_leastMinutes_210 fl_X1_21 rfl rfl sh_57 ((congrFun (congrFun hR _) _).trans (cs_v hcs)) ?_
            refine a_putR 4 eX1_leastMinutes_213 fl_X1_18 rfl (by first | exact Or.inl ⟨_, rfl⟩ | exact Or.inr ⟨_, rfl⟩) sh_57 (fun q h => Or.inl (by cases h; rfl)) ?_
            refine a_ald0 eX1_leastMinutes_216 ?_
            refine a_ald8 eX1_leastMinutes_217 ?_
            refine a_putR 5 eX1_leastMinutes_219 fl_X1_21 rfl (by first | exact Or.inl ⟨_, rfl⟩ | exact Or.inr ⟨_, rfl⟩) sh_57 (fun q h => Or.inl (by cases h; rfl)) ?_
            refine a_iinc2 eX1_leastMinutes_222 (by decide) aw_n2r ?_
            refine a_goto 19 eX1_leastMinutes_225 (by decide) ?_
            rw [show ((k : Nat) : Int) + 1 = ((k + 1 : Nat) : Int) by omega]
            refine ih (k + 1) _ (!cs1) v u _ _ _ _ _ _ (by omega) (by omega) (cs_sw hcs) (cs_rf hcs hR) ⟨fun b j q1 q2 => ?_, ?_⟩ (fun t t1 t2 => ?_)
            · show σ3.1 b j = _
              rw [f3.1 b j (by omega), rd_sa_ne (by omega)]
              exact f1.1 b j q1 q2
            · show σ3.2.1 = _
              rw [f3.2]
              exact f1.2
            · show σ3.1 v t = _
              rw [hv3 t t1 t2]
              exact dpN_cg (fun z z1 z2 => by rw [rd_sa_ne hn.1.1]; exact hc z z1 z2) _ t ⟨t1, t2⟩
          · skip
            refine a_iconst eX1_leastMinutes_118 ?_
            refine a_goto 123 eX1_leastMinutes_119 (by decide) ?_
            refine a_ist5 eX1_leastMinutes_123 (by decide) aw_n2i ?_
            refine a_ild5 eX1_leastMinutes_125 ?_
            refine a_if_eq 139 eX1_leastMinutes_127 (by decide) (by omega) (fun h => absurd h (by decide)) (fun _ => ?_)
            refine a_ald0 eX1_leastMinutes_130 ?_
            refine a_getR 0 58 eX1_leastMinutes_131 fl_X1_9 rfl rfl sh_57 ((congrFun (congrFun hR _) _).trans rf_57_0) ?_
            refine a_ild3 eX1_leastMinutes_134 ?_
            refine a_iald eX1_leastMinutes_135 sh_58 rfl (by omega) ?_
            refine a_eqtop (y0 := ovm m (σ.1 59 (k : Int))) (by rw [rd_sa_ne (by omega)]; exact ho1) ?_
            refine a_goto 149 eX1_leastMinutes_136 (by decide) ?_
            refine a_eqtop (y0 := loR (ovm m) (m 0 0) (σ.1 59 (k : Int))) (by unfold loR; (repeat' split) <;> omega) ?_
            refine a_ist6 eX1_leastMinutes_149 (by decide) aw_n2i ?_
            refine a_ild5 eX1_leastMinutes_151 ?_
            refine a_if_eq 165 eX1_leastMinutes_153 (by decide) (by omega) (fun h => absurd h (by decide)) (fun _ => ?_)
            refine a_ald0 eX1_leastMinutes_156 ?_
            refine a_getR 0 58 eX1_leastMinutes_157 fl_X1_9 rfl rfl sh_57 ((congrFun (congrFun hR _) _).trans rf_57_0) ?_
            refine a_ild3 eX1_leastMinutes_160 ?_
            refine a_iald eX1_leastMinutes_161 sh_58 rfl (by omega) ?_
            refine a_eqtop (y0 := ovm m (σ.1 59 (k : Int))) (by rw [rd_sa_ne (by omega)]; exact ho1) ?_
            refine a_goto 175 eX1_leastMinutes_162 (by decide) ?_
            refine a_eqtop (y0 := hiR (ovm m) (m 0 0) (σ.1 59 (k : Int))) (by unfold hiR; (repeat' split) <;> omega) ?_
            refine a_ist7 eX1_leastMinutes_175 (by decide) aw_n2i ?_
            refine a_ild6 eX1_leastMinutes_177 ?_
            refine a_ist8 eX1_leastMinutes_179 (by decide) aw_n2i ?_
            have hlo : (-20 ≤ loR (ovm m) (m 0 0) (σ.1 59 (k : Int)) ∧ loR (ovm m) (m 0 0) (σ.1 59 (k : Int)) ≤ 20) ∧ (-20 ≤ hiR (ovm m) (m 0 0) (σ.1 59 (k : Int)) ∧ hiR (ovm m) (m 0 0) (σ.1 59 (k : Int)) ≤ 20) ∧ loR (ovm m) (m 0 0) (σ.1 59 (k : Int)) ≤ hiR (ovm m) (m 0 0) (σ.1 59 (k : Int)) + 1 := by
              unfold loR hiR
              (repeat' split) <;> omega
            refine AW.lc (xs := [some (.ref 57), some (.ref a), some (.int (jI (k : Int))), some (.int (jI (σ.1 59 (k : Int)))), some (.int (jI (stK (m 1) (σ.1 59) (m 0 0) (k : Int)))), some (.int (jI 1)), some (.int (jI (loR (ovm m) (m 0 0) (σ.1 59 (k : Int))))), some (.int (jI (hiR (ovm m) (m 0 0) (σ.1 59 (k : Int))))), some (.int (jI (loR (ovm m) (m 0 0) (σ.1 59 (k : Int)) + ((0 : Nat) : Int))))]) (by rw [show ((0 : Nat) : Int) = 0 from rfl, Int.add_zero]) ?_
            refine lp_lmI (σ := aw_sa σ1 v (fun j => if 0 ≤ j ∧ j < ((33 : Nat) : Int) then 1000000 else σ1.1 v j)) (by exact hR) hcs hlo hst (fun t t1 t2 => by rw [rd_sa_ne hn.1.1]; exact hcb t t1 t2) (fun σ3 l8 f3 hv3 => ?_) _ 0 _ (Nat.le_refl _) (by omega) ⟨fun _ _ _ => rfl, rfl⟩ (fun t t1 t2 => by rw [rd_sa_eq, if_pos (by omega)]; rfl)
            have hR : σ3.2.2 = RF tw cs1 := by rw [f3.2]; exact hR
            refine a_ald0 eX1_leastMinutes_202 ?_
            refine a_getR 4 u eX1_leastMinutes_203 fl_X1_18 rfl rfl sh_57 ((congrFun (congrFun hR _) _).trans (cs_u hcs)) ?_
            refine a_ast8 eX1_leastMinutes_206 (by decide) aw_n2i ?_
            refine a_ald0 eX1_leastMinutes_208 ?_
            refine a_ald0 eX1_leastMinutes_209 ?_
            refine a_getR 5 v eX1_leastMinutes_210 fl_X1_21 rfl rfl sh_57 ((congrFun (congrFun hR _) _).trans (cs_v hcs)) ?_
            refine a_putR 4 eX1_leastMinutes_213 fl_X1_18 rfl (by first | exact Or.inl ⟨_, rfl⟩ | exact Or.inr ⟨_, rfl⟩) sh_57 (fun q h => Or.inl (by cases h; rfl)) ?_
            refine a_ald0 eX1_leastMinutes_216 ?_
            refine a_ald8 eX1_leastMinutes_217 ?_
            refine a_putR 5 eX1_leastMinutes_219 fl_X1_21 rfl (by first | exact Or.inl ⟨_, rfl⟩ | exact Or.inr ⟨_, rfl⟩) sh_57 (fun q h => Or.inl (by cases h; rfl)) ?_
            refine a_iinc2 eX1_leastMinutes_222 (by decide) aw_n2r ?_
            refine a_goto 19 eX1_leastMinutes_225 (by decide) ?_
            rw [show ((k : Nat) : Int) + 1 = ((k + 1 : Nat) : Int) by omega]
            refine ih (k + 1) _ (!cs1) v u _ _ _ _ _ _ (by omega) (by omega) (cs_sw hcs) (cs_rf hcs hR) ⟨fun b j q1 q2 => ?_, ?_⟩ (fun t t1 t2 => ?_)
            · show σ3.1 b j = _
              rw [f3.1 b j (by omega), rd_sa_ne (by omega)]
              exact f1.1 b j q1 q2
            · show σ3.2.1 = _
              rw [f3.2]
              exact f1.2
            · show σ3.1 v t = _
              rw [hv3 t t1 t2]
              exact dpN_cg (fun z z1 z2 => by rw [rd_sa_ne hn.1.1]; exact hc z z1 z2) _ t ⟨t1, t2⟩
        · skip
          refine a_ald0 eX1_leastMinutes_88 ?_
          refine a_getI 2 eX1_leastMinutes_89 fl_X1_24 rfl rfl sh_57 ?_
          refine a_eqtop (y0 := s6 (ovS (ovm m)) (m 0 0).toNat) (by rw [rd_sa_ne (by omega)]; exact hs1) ?_
          refine a_ald0 eX1_leastMinutes_92 ?_
          refine a_getI 3 eX1_leastMinutes_93 fl_X1_28 rfl rfl sh_57 ?_
          refine a_eqtop (y0 := s6 (ovW (ovm m)) (m 0 0).toNat) (by rw [rd_sa_ne (by omega)]; exact hw1) ?_
          refine a_icmp_gt 103 eX1_leastMinutes_96 (by decide) (by omega) (fun hT96 => ?_) (fun hF96 => ?_)
          · skip
            refine a_iconst eX1_leastMinutes_103 ?_
            refine a_goto 123 eX1_leastMinutes_104 (by decide) ?_
            refine a_ist5 eX1_leastMinutes_123 (by decide) aw_n2i ?_
            refine a_ild5 eX1_leastMinutes_125 ?_
            refine a_if_eq 139 eX1_leastMinutes_127 (by decide) (by omega) (fun _ => ?_) (fun h => absurd h (by decide))
            refine a_ald0 eX1_leastMinutes_139 ?_
            refine a_getR 0 58 eX1_leastMinutes_140 fl_X1_9 rfl rfl sh_57 ((congrFun (congrFun hR _) _).trans rf_57_0) ?_
            refine a_ild3 eX1_leastMinutes_143 ?_
            refine a_iald eX1_leastMinutes_144 sh_58 rfl (by omega) ?_
            refine a_eqtop (y0 := ovm m (σ.1 59 (k : Int))) (by rw [rd_sa_ne (by omega)]; exact ho1) ?_
            refine a_iconst eX1_leastMinutes_145 ?_
            refine a_mmin eX1_leastMinutes_146 lk_X1_57 (by omega) rfl rfl ?_
            refine a_eqtop (y0 := loR (ovm m) (m 0 0) (σ.1 59 (k : Int))) (by unfold loR; (repeat' split) <;> omega) ?_
            refine a_ist6 eX1_leastMinutes_149 (by decide) aw_n2i ?_
            refine a_ild5 eX1_leastMinutes_151 ?_
            refine a_if_eq 165 eX1_leastMinutes_153 (by decide) (by omega) (fun _ => ?_) (fun h => absurd h (by decide))
            refine a_ald0 eX1_leastMinutes_165 ?_
            refine a_getR 0 58 eX1_leastMinutes_166 fl_X1_9 rfl rfl sh_57 ((congrFun (congrFun hR _) _).trans rf_57_0) ?_
            refine a_ild3 eX1_leastMinutes_169 ?_
            refine a_iald eX1_leastMinutes_170 sh_58 rfl (by omega) ?_
            refine a_eqtop (y0 := ovm m (σ.1 59 (k : Int))) (by rw [rd_sa_ne (by omega)]; exact ho1) ?_
            refine a_iconst eX1_leastMinutes_171 ?_
            refine a_mmax eX1_leastMinutes_172 lk_X1_44 (by omega) rfl rfl ?_
            refine a_eqtop (y0 := hiR (ovm m) (m 0 0) (σ.1 59 (k : Int))) (by unfold hiR; (repeat' split) <;> omega) ?_
            refine a_ist7 eX1_leastMinutes_175 (by decide) aw_n2i ?_
            refine a_ild6 eX1_leastMinutes_177 ?_
            refine a_ist8 eX1_leastMinutes_179 (by decide) aw_n2i ?_
            have hlo : (-20 ≤ loR (ovm m) (m 0 0) (σ.1 59 (k : Int)) ∧ loR (ovm m) (m 0 0) (σ.1 59 (k : Int)) ≤ 20) ∧ (-20 ≤ hiR (ovm m) (m 0 0) (σ.1 59 (k : Int)) ∧ hiR (ovm m) (m 0 0) (σ.1 59 (k : Int)) ≤ 20) ∧ loR (ovm m) (m 0 0) (σ.1 59 (k : Int)) ≤ hiR (ovm m) (m 0 0) (σ.1 59 (k : Int)) + 1 := by
              unfold loR hiR
              (repeat' split) <;> omega
            refine AW.lc (xs := [some (.ref 57), some (.ref a), some (.int (jI (k : Int))), some (.int (jI (σ.1 59 (k : Int)))), some (.int (jI (stK (m 1) (σ.1 59) (m 0 0) (k : Int)))), some (.int (jI 0)), some (.int (jI (loR (ovm m) (m 0 0) (σ.1 59 (k : Int))))), some (.int (jI (hiR (ovm m) (m 0 0) (σ.1 59 (k : Int))))), some (.int (jI (loR (ovm m) (m 0 0) (σ.1 59 (k : Int)) + ((0 : Nat) : Int))))]) (by rw [show ((0 : Nat) : Int) = 0 from rfl, Int.add_zero]) ?_
            refine lp_lmI (σ := aw_sa σ1 v (fun j => if 0 ≤ j ∧ j < ((33 : Nat) : Int) then 1000000 else σ1.1 v j)) (by exact hR) hcs hlo hst (fun t t1 t2 => by rw [rd_sa_ne hn.1.1]; exact hcb t t1 t2) (fun σ3 l8 f3 hv3 => ?_) _ 0 _ (Nat.le_refl _) (by omega) ⟨fun _ _ _ => rfl, rfl⟩ (fun t t1 t2 => by rw [rd_sa_eq, if_pos (by omega)]; rfl)
            have hR : σ3.2.2 = RF tw cs1 := by rw [f3.2]; exact hR
            refine a_ald0 eX1_leastMinutes_202 ?_
            refine a_getR 4 u eX1_leastMinutes_203 fl_X1_18 rfl rfl sh_57 ((congrFun (congrFun hR _) _).trans (cs_u hcs)) ?_
            refine a_ast8 eX1_leastMinutes_206 (by decide) aw_n2i ?_
            refine a_ald0 eX1_leastMinutes_208 ?_
            refine a_ald0 eX1_leastMinutes_209 ?_
            refine a_getR 5 v eX1_leastMinutes_210 fl_X1_21 rfl rfl sh_57 ((congrFun (congrFun hR _) _).trans (cs_v hcs)) ?_
            refine a_putR 4 eX1_leastMinutes_213 fl_X1_18 rfl (by first | exact Or.inl ⟨_, rfl⟩ | exact Or.inr ⟨_, rfl⟩) sh_57 (fun q h => Or.inl (by cases h; rfl)) ?_
            refine a_ald0 eX1_leastMinutes_216 ?_
            refine a_ald8 eX1_leastMinutes_217 ?_
            refine a_putR 5 eX1_leastMinutes_219 fl_X1_21 rfl (by first | exact Or.inl ⟨_, rfl⟩ | exact Or.inr ⟨_, rfl⟩) sh_57 (fun q h => Or.inl (by cases h; rfl)) ?_
            refine a_iinc2 eX1_leastMinutes_222 (by decide) aw_n2r ?_
            refine a_goto 19 eX1_leastMinutes_225 (by decide) ?_
            rw [show ((k : Nat) : Int) + 1 = ((k + 1 : Nat) : Int) by omega]
            refine ih (k + 1) _ (!cs1) v u _ _ _ _ _ _ (by omega) (by omega) (cs_sw hcs) (cs_rf hcs hR) ⟨fun b j q1 q2 => ?_, ?_⟩ (fun t t1 t2 => ?_)
            · show σ3.1 b j = _
              rw [f3.1 b j (by omega), rd_sa_ne (by omega)]
              exact f1.1 b j q1 q2
            · show σ3.2.1 = _
              rw [f3.2]
              exact f1.2
            · show σ3.1 v t = _
              rw [hv3 t t1 t2]
              exact dpN_cg (fun z z1 z2 => by rw [rd_sa_ne hn.1.1]; exact hc z z1 z2) _ t ⟨t1, t2⟩
          · skip
            refine a_iconst eX1_leastMinutes_99 ?_
            refine a_goto 123 eX1_leastMinutes_100 (by decide) ?_
            refine a_ist5 eX1_leastMinutes_123 (by decide) aw_n2i ?_
            refine a_ild5 eX1_leastMinutes_125 ?_
            refine a_if_eq 139 eX1_leastMinutes_127 (by decide) (by omega) (fun h => absurd h (by decide)) (fun _ => ?_)
            refine a_ald0 eX1_leastMinutes_130 ?_
            refine a_getR 0 58 eX1_leastMinutes_131 fl_X1_9 rfl rfl sh_57 ((congrFun (congrFun hR _) _).trans rf_57_0) ?_
            refine a_ild3 eX1_leastMinutes_134 ?_
            refine a_iald eX1_leastMinutes_135 sh_58 rfl (by omega) ?_
            refine a_eqtop (y0 := ovm m (σ.1 59 (k : Int))) (by rw [rd_sa_ne (by omega)]; exact ho1) ?_
            refine a_goto 149 eX1_leastMinutes_136 (by decide) ?_
            refine a_eqtop (y0 := loR (ovm m) (m 0 0) (σ.1 59 (k : Int))) (by unfold loR; (repeat' split) <;> omega) ?_
            refine a_ist6 eX1_leastMinutes_149 (by decide) aw_n2i ?_
            refine a_ild5 eX1_leastMinutes_151 ?_
            refine a_if_eq 165 eX1_leastMinutes_153 (by decide) (by omega) (fun h => absurd h (by decide)) (fun _ => ?_)
            refine a_ald0 eX1_leastMinutes_156 ?_
            refine a_getR 0 58 eX1_leastMinutes_157 fl_X1_9 rfl rfl sh_57 ((congrFun (congrFun hR _) _).trans rf_57_0) ?_
            refine a_ild3 eX1_leastMinutes_160 ?_
            refine a_iald eX1_leastMinutes_161 sh_58 rfl (by omega) ?_
            refine a_eqtop (y0 := ovm m (σ.1 59 (k : Int))) (by rw [rd_sa_ne (by omega)]; exact ho1) ?_
            refine a_goto 175 eX1_leastMinutes_162 (by decide) ?_
            refine a_eqtop (y0 := hiR (ovm m) (m 0 0) (σ.1 59 (k : Int))) (by unfold hiR; (repeat' split) <;> omega) ?_
            refine a_ist7 eX1_leastMinutes_175 (by decide) aw_n2i ?_
            refine a_ild6 eX1_leastMinutes_177 ?_
            refine a_ist8 eX1_leastMinutes_179 (by decide) aw_n2i ?_
            have hlo : (-20 ≤ loR (ovm m) (m 0 0) (σ.1 59 (k : Int)) ∧ loR (ovm m) (m 0 0) (σ.1 59 (k : Int)) ≤ 20) ∧ (-20 ≤ hiR (ovm m) (m 0 0) (σ.1 59 (k : Int)) ∧ hiR (ovm m) (m 0 0) (σ.1 59 (k : Int)) ≤ 20) ∧ loR (ovm m) (m 0 0) (σ.1 59 (k : Int)) ≤ hiR (ovm m) (m 0 0) (σ.1 59 (k : Int)) + 1 := by
              unfold loR hiR
              (repeat' split) <;> omega
            refine AW.lc (xs := [some (.ref 57), some (.ref a), some (.int (jI (k : Int))), some (.int (jI (σ.1 59 (k : Int)))), some (.int (jI (stK (m 1) (σ.1 59) (m 0 0) (k : Int)))), some (.int (jI 1)), some (.int (jI (loR (ovm m) (m 0 0) (σ.1 59 (k : Int))))), some (.int (jI (hiR (ovm m) (m 0 0) (σ.1 59 (k : Int))))), some (.int (jI (loR (ovm m) (m 0 0) (σ.1 59 (k : Int)) + ((0 : Nat) : Int))))]) (by rw [show ((0 : Nat) : Int) = 0 from rfl, Int.add_zero]) ?_
            refine lp_lmI (σ := aw_sa σ1 v (fun j => if 0 ≤ j ∧ j < ((33 : Nat) : Int) then 1000000 else σ1.1 v j)) (by exact hR) hcs hlo hst (fun t t1 t2 => by rw [rd_sa_ne hn.1.1]; exact hcb t t1 t2) (fun σ3 l8 f3 hv3 => ?_) _ 0 _ (Nat.le_refl _) (by omega) ⟨fun _ _ _ => rfl, rfl⟩ (fun t t1 t2 => by rw [rd_sa_eq, if_pos (by omega)]; rfl)
            have hR : σ3.2.2 = RF tw cs1 := by rw [f3.2]; exact hR
            refine a_ald0 eX1_leastMinutes_202 ?_
            refine a_getR 4 u eX1_leastMinutes_203 fl_X1_18 rfl rfl sh_57 ((congrFun (congrFun hR _) _).trans (cs_u hcs)) ?_
            refine a_ast8 eX1_leastMinutes_206 (by decide) aw_n2i ?_
            refine a_ald0 eX1_leastMinutes_208 ?_
            refine a_ald0 eX1_leastMinutes_209 ?_
            refine a_getR 5 v eX1_leastMinutes_210 fl_X1_21 rfl rfl sh_57 ((congrFun (congrFun hR _) _).trans (cs_v hcs)) ?_
            refine a_putR 4 eX1_leastMinutes_213 fl_X1_18 rfl (by first | exact Or.inl ⟨_, rfl⟩ | exact Or.inr ⟨_, rfl⟩) sh_57 (fun q h => Or.inl (by cases h; rfl)) ?_
            refine a_ald0 eX1_leastMinutes_216 ?_
            refine a_ald8 eX1_leastMinutes_217 ?_
            refine a_putR 5 eX1_leastMinutes_219 fl_X1_21 rfl (by first | exact Or.inl ⟨_, rfl⟩ | exact Or.inr ⟨_, rfl⟩) sh_57 (fun q h => Or.inl (by cases h; rfl)) ?_
            refine a_iinc2 eX1_leastMinutes_222 (by decide) aw_n2r ?_
            refine a_goto 19 eX1_leastMinutes_225 (by decide) ?_
            rw [show ((k : Nat) : Int) + 1 = ((k + 1 : Nat) : Int) by omega]
            refine ih (k + 1) _ (!cs1) v u _ _ _ _ _ _ (by omega) (by omega) (cs_sw hcs) (cs_rf hcs hR) ⟨fun b j q1 q2 => ?_, ?_⟩ (fun t t1 t2 => ?_)
            · show σ3.1 b j = _
              rw [f3.1 b j (by omega), rd_sa_ne (by omega)]
              exact f1.1 b j q1 q2
            · show σ3.2.1 = _
              rw [f3.2]
              exact f1.2
            · show σ3.1 v t = _
              rw [hv3 t t1 t2]
              exact dpN_cg (fun z z1 z2 => by rw [rd_sa_ne hn.1.1]; exact hc z z1 z2) _ t ⟨t1, t2⟩
      · skip
        have hrk1 := (od_b y3 hOd (k := (k : Int) + 1) (by omega)).1
        refine a_ald1 eX1_leastMinutes_44 ?_
        refine a_getR 1 (a + 1) eX1_leastMinutes_45 fl_X1_50 rfl rfl (sh_city ha) ((congrFun (congrFun hR _) _).trans (rf_city_1 ha)) ?_
        refine a_ald0 eX1_leastMinutes_48 ?_
        refine a_getR 1 59 eX1_leastMinutes_49 fl_X1_15 rfl rfl sh_57 ((congrFun (congrFun hR _) _).trans rf_57_1) ?_
        refine a_ild2 eX1_leastMinutes_52 ?_
        refine a_iconst eX1_leastMinutes_53 ?_
        refine a_iadd eX1_leastMinutes_54 ?_
        refine a_iald eX1_leastMinutes_55 sh_59 rfl (by omega) ?_
        refine a_eqtop (y0 := σ.1 59 ((k : Int) + 1)) (by exact f1.1 _ _ (by omega) (by omega)) ?_
        refine a_iald eX1_leastMinutes_56 (sh_city_1 ha) rfl (by omega) ?_
        refine a_eqtop (y0 := m 1 (σ.1 59 ((k : Int) + 1))) (by exact (hC1.2.1 _ hrk1.1 hrk1.2).1) ?_
        refine a_ald1 eX1_leastMinutes_57 ?_
        refine a_getR 1 (a + 1) eX1_leastMinutes_58 fl_X1_50 rfl rfl (sh_city ha) ((congrFun (congrFun hR _) _).trans (rf_city_1 ha)) ?_
        refine a_ild3 eX1_leastMinutes_61 ?_
        refine a_iald eX1_leastMinutes_62 (sh_city_1 ha) rfl (by omega) ?_
        refine a_eqtop (y0 := m 1 (σ.1 59 (k : Int))) (by exact hp1) ?_
        refine a_isub eX1_leastMinutes_63 ?_
        refine a_goto 68 eX1_leastMinutes_64 (by decide) ?_
        refine a_eqtop (y0 := stK (m 1) (σ.1 59) (m 0 0) (k : Int)) (by unfold stK; first | exact (if_pos (by omega)).symm | exact (if_neg (by omega)).symm) ?_
        refine a_ist4 eX1_leastMinutes_68 (by decide) aw_n2i ?_
        refine a_ald0 eX1_leastMinutes_70 ?_
        refine a_getR 5 v eX1_leastMinutes_71 fl_X1_21 rfl rfl sh_57 ((congrFun (congrFun hR _) _).trans (cs_v hcs)) ?_
        refine a_ldc (1000000) (by decide) eX1_leastMinutes_74 kc_X1_60 ?_
        refine a_cS2 eX1_leastMinutes_76 lk_X1_61 mS_J7_fill_53178 mt_J7_fill_53178 rfl rfl rfl rfl rfl rfl (c_J7_fill_53178 (cs_sv hcs) rfl ?_)
        dsimp only [Option.toList, List.cons_append, List.nil_append]
        refine a_ald0 eX1_leastMinutes_79 ?_
        refine a_getR 0 58 eX1_leastMinutes_80 fl_X1_9 rfl rfl sh_57 ((congrFun (congrFun hR _) _).trans rf_57_0) ?_
        refine a_ild3 eX1_leastMinutes_83 ?_
        refine a_iald eX1_leastMinutes_84 sh_58 rfl (by omega) ?_
        refine a_eqtop (y0 := ovm m (σ.1 59 (k : Int))) (by rw [rd_sa_ne (by omega)]; exact ho1) ?_
        refine a_if_le 107 eX1_leastMinutes_85 (by decide) (by omega) (fun hT85 => ?_) (fun hF85 => ?_)
        · skip
          refine a_ald0 eX1_leastMinutes_107 ?_
          refine a_getI 3 eX1_leastMinutes_108 fl_X1_28 rfl rfl sh_57 ?_
          refine a_eqtop (y0 := s6 (ovW (ovm m)) (m 0 0).toNat) (by rw [rd_sa_ne (by omega)]; exact hw1) ?_
          refine a_ald0 eX1_leastMinutes_111 ?_
          refine a_getI 2 eX1_leastMinutes_112 fl_X1_24 rfl rfl sh_57 ?_
          refine a_eqtop (y0 := s6 (ovS (ovm m)) (m 0 0).toNat) (by rw [rd_sa_ne (by omega)]; exact hs1) ?_
          refine a_icmp_gt 122 eX1_leastMinutes_115 (by decide) (by omega) (fun hT115 => ?_) (fun hF115 => ?_)
          · skip
            refine a_iconst eX1_leastMinutes_122 ?_
            refine a_ist5 eX1_leastMinutes_123 (by decide) aw_n2i ?_
            refine a_ild5 eX1_leastMinutes_125 ?_
            refine a_if_eq 139 eX1_leastMinutes_127 (by decide) (by omega) (fun _ => ?_) (fun h => absurd h (by decide))
            refine a_ald0 eX1_leastMinutes_139 ?_
            refine a_getR 0 58 eX1_leastMinutes_140 fl_X1_9 rfl rfl sh_57 ((congrFun (congrFun hR _) _).trans rf_57_0) ?_
            refine a_ild3 eX1_leastMinutes_143 ?_
            refine a_iald eX1_leastMinutes_144 sh_58 rfl (by omega) ?_
            refine a_eqtop (y0 := ovm m (σ.1 59 (k : Int))) (by rw [rd_sa_ne (by omega)]; exact ho1) ?_
            refine a_iconst eX1_leastMinutes_145 ?_
            refine a_mmin eX1_leastMinutes_146 lk_X1_57 (by omega) rfl rfl ?_
            refine a_eqtop (y0 := loR (ovm m) (m 0 0) (σ.1 59 (k : Int))) (by unfold loR; (repeat' split) <;> omega) ?_
            refine a_ist6 eX1_leastMinutes_149 (by decide) aw_n2i ?_
            refine a_ild5 eX1_leastMinutes_151 ?_
            refine a_if_eq 165 eX1_leastMinutes_153 (by decide) (by omega) (fun _ => ?_) (fun h => absurd h (by decide))
            refine a_ald0 eX1_leastMinutes_165 ?_
            refine a_getR 0 58 eX1_leastMinutes_166 fl_X1_9 rfl rfl sh_57 ((congrFun (congrFun hR _) _).trans rf_57_0) ?_
            refine a_ild3 eX1_leastMinutes_169 ?_
            refine a_iald eX1_leastMinutes_170 sh_58 rfl (by omega) ?_
            refine a_eqtop (y0 := ovm m (σ.1 59 (k : Int))) (by rw [rd_sa_ne (by omega)]; exact ho1) ?_
            refine a_iconst eX1_leastMinutes_171 ?_
            refine a_mmax eX1_leastMinutes_172 lk_X1_44 (by omega) rfl rfl ?_
            refine a_eqtop (y0 := hiR (ovm m) (m 0 0) (σ.1 59 (k : Int))) (by unfold hiR; (repeat' split) <;> omega) ?_
            refine a_ist7 eX1_leastMinutes_175 (by decide) aw_n2i ?_
            refine a_ild6 eX1_leastMinutes_177 ?_
            refine a_ist8 eX1_leastMinutes_179 (by decide) aw_n2i ?_
            have hlo : (-20 ≤ loR (ovm m) (m 0 0) (σ.1 59 (k : Int)) ∧ loR (ovm m) (m 0 0) (σ.1 59 (k : Int)) ≤ 20) ∧ (-20 ≤ hiR (ovm m) (m 0 0) (σ.1 59 (k : Int)) ∧ hiR (ovm m) (m 0 0) (σ.1 59 (k : Int)) ≤ 20) ∧ loR (ovm m) (m 0 0) (σ.1 59 (k : Int)) ≤ hiR (ovm m) (m 0 0) (σ.1 59 (k : Int)) + 1 := by
              unfold loR hiR
              (repeat' split) <;> omega
            refine AW.lc (xs := [some (.ref 57), some (.ref a), some (.int (jI (k : Int))), some (.int (jI (σ.1 59 (k : Int)))), some (.int (jI (stK (m 1) (σ.1 59) (m 0 0) (k : Int)))), some (.int (jI 0)), some (.int (jI (loR (ovm m) (m 0 0) (σ.1 59 (k : Int))))), some (.int (jI (hiR (ovm m) (m 0 0) (σ.1 59 (k : Int))))), some (.int (jI (loR (ovm m) (m 0 0) (σ.1 59 (k : Int)) + ((0 : Nat) : Int))))]) (by rw [show ((0 : Nat) : Int) = 0 from rfl, Int.add_zero]) ?_
            refine lp_lmI (σ := aw_sa σ1 v (fun j => if 0 ≤ j ∧ j < ((33 : Nat) : Int) then 1000000 else σ1.1 v j)) (by exact hR) hcs hlo hst (fun t t1 t2 => by rw [rd_sa_ne hn.1.1]; exact hcb t t1 t2) (fun σ3 l8 f3 hv3 => ?_) _ 0 _ (Nat.le_refl _) (by omega) ⟨fun _ _ _ => rfl, rfl⟩ (fun t t1 t2 => by rw [rd_sa_eq, if_pos (by omega)]; rfl)
            have hR : σ3.2.2 = RF tw cs1 := by rw [f3.2]; exact hR
            refine a_ald0 eX1_leastMinutes_202 ?_
            refine a_getR 4 u eX1_leastMinutes_203 fl_X1_18 rfl rfl sh_57 ((congrFun (congrFun hR _) _).trans (cs_u hcs)) ?_
            refine a_ast8 eX1_leastMinutes_206 (by decide) aw_n2i ?_
            refine a_ald0 eX1_leastMinutes_208 ?_
            refine a_ald0 eX1_leastMinutes_209 ?_
            refine a_getR 5 v eX1_leastMinutes_210 fl_X1_21 rfl rfl sh_57 ((congrFun (congrFun hR _) _).trans (cs_v hcs)) ?_
            refine a_putR 4 eX1_leastMinutes_213 fl_X1_18 rfl (by first | exact Or.inl ⟨_, rfl⟩ | exact Or.inr ⟨_, rfl⟩) sh_57 (fun q h => Or.inl (by cases h; rfl)) ?_
            refine a_ald0 eX1_leastMinutes_216 ?_
            refine a_ald8 eX1_leastMinutes_217 ?_
            refine a_putR 5 eX1_leastMinutes_219 fl_X1_21 rfl (by first | exact Or.inl ⟨_, rfl⟩ | exact Or.inr ⟨_, rfl⟩) sh_57 (fun q h => Or.inl (by cases h; rfl)) ?_
            refine a_iinc2 eX1_leastMinutes_222 (by decide) aw_n2r ?_
            refine a_goto 19 eX1_leastMinutes_225 (by decide) ?_
            rw [show ((k : Nat) : Int) + 1 = ((k + 1 : Nat) : Int) by omega]
            refine ih (k + 1) _ (!cs1) v u _ _ _ _ _ _ (by omega) (by omega) (cs_sw hcs) (cs_rf hcs hR) ⟨fun b j q1 q2 => ?_, ?_⟩ (fun t t1 t2 => ?_)
            · show σ3.1 b j = _
              rw [f3.1 b j (by omega), rd_sa_ne (by omega)]
              exact f1.1 b j q1 q2
            · show σ3.2.1 = _
              rw [f3.2]
              exact f1.2
            · show σ3.1 v t = _
              rw [hv3 t t1 t2]
              exact dpN_cg (fun z z1 z2 => by rw [rd_sa_ne hn.1.1]; exact hc z z1 z2) _ t ⟨t1, t2⟩
          · skip
            refine a_iconst eX1_leastMinutes_118 ?_
            refine a_goto 123 eX1_leastMinutes_119 (by decide) ?_
            refine a_ist5 eX1_leastMinutes_123 (by decide) aw_n2i ?_
            refine a_ild5 eX1_leastMinutes_125 ?_
            refine a_if_eq 139 eX1_leastMinutes_127 (by decide) (by omega) (fun h => absurd h (by decide)) (fun _ => ?_)
            refine a_ald0 eX1_leastMinutes_130 ?_
            refine a_getR 0 58 eX1_leastMinutes_131 fl_X1_9 rfl rfl sh_57 ((congrFun (congrFun hR _) _).trans rf_57_0) ?_
            refine a_ild3 eX1_leastMinutes_134 ?_
            refine a_iald eX1_leastMinutes_135 sh_58 rfl (by omega) ?_
            refine a_eqtop (y0 := ovm m (σ.1 59 (k : Int))) (by rw [rd_sa_ne (by omega)]; exact ho1) ?_
            refine a_goto 149 eX1_leastMinutes_136 (by decide) ?_
            refine a_eqtop (y0 := loR (ovm m) (m 0 0) (σ.1 59 (k : Int))) (by unfold loR; (repeat' split) <;> omega) ?_
            refine a_ist6 eX1_leastMinutes_149 (by decide) aw_n2i ?_
            refine a_ild5 eX1_leastMinutes_151 ?_
            refine a_if_eq 165 eX1_leastMinutes_153 (by decide) (by omega) (fun h => absurd h (by decide)) (fun _ => ?_)
            refine a_ald0 eX1_leastMinutes_156 ?_
            refine a_getR 0 58 eX1_leastMinutes_157 fl_X1_9 rfl rfl sh_57 ((congrFun (congrFun hR _) _).trans rf_57_0) ?_
            refine a_ild3 eX1_leastMinutes_160 ?_
            refine a_iald eX1_leastMinutes_161 sh_58 rfl (by omega) ?_
            refine a_eqtop (y0 := ovm m (σ.1 59 (k : Int))) (by rw [rd_sa_ne (by omega)]; exact ho1) ?_
            refine a_goto 175 eX1_leastMinutes_162 (by decide) ?_
            refine a_eqtop (y0 := hiR (ovm m) (m 0 0) (σ.1 59 (k : Int))) (by unfold hiR; (repeat' split) <;> omega) ?_
            refine a_ist7 eX1_leastMinutes_175 (by decide) aw_n2i ?_
            refine a_ild6 eX1_leastMinutes_177 ?_
            refine a_ist8 eX1_leastMinutes_179 (by decide) aw_n2i ?_
            have hlo : (-20 ≤ loR (ovm m) (m 0 0) (σ.1 59 (k : Int)) ∧ loR (ovm m) (m 0 0) (σ.1 59 (k : Int)) ≤ 20) ∧ (-20 ≤ hiR (ovm m) (m 0 0) (σ.1 59 (k : Int)) ∧ hiR (ovm m) (m 0 0) (σ.1 59 (k : Int)) ≤ 20) ∧ loR (ovm m) (m 0 0) (σ.1 59 (k : Int)) ≤ hiR (ovm m) (m 0 0) (σ.1 59 (k : Int)) + 1 := by
              unfold loR hiR
              (repeat' split) <;> omega
            refine AW.lc (xs := [some (.ref 57), some (.ref a), some (.int (jI (k : Int))), some (.int (jI (σ.1 59 (k : Int)))), some (.int (jI (stK (m 1) (σ.1 59) (m 0 0) (k : Int)))), some (.int (jI 1)), some (.int (jI (loR (ovm m) (m 0 0) (σ.1 59 (k : Int))))), some (.int (jI (hiR (ovm m) (m 0 0) (σ.1 59 (k : Int))))), some (.int (jI (loR (ovm m) (m 0 0) (σ.1 59 (k : Int)) + ((0 : Nat) : Int))))]) (by rw [show ((0 : Nat) : Int) = 0 from rfl, Int.add_zero]) ?_
            refine lp_lmI (σ := aw_sa σ1 v (fun j => if 0 ≤ j ∧ j < ((33 : Nat) : Int) then 1000000 else σ1.1 v j)) (by exact hR) hcs hlo hst (fun t t1 t2 => by rw [rd_sa_ne hn.1.1]; exact hcb t t1 t2) (fun σ3 l8 f3 hv3 => ?_) _ 0 _ (Nat.le_refl _) (by omega) ⟨fun _ _ _ => rfl, rfl⟩ (fun t t1 t2 => by rw [rd_sa_eq, if_pos (by omega)]; rfl)
            have hR : σ3.2.2 = RF tw cs1 := by rw [f3.2]; exact hR
            refine a_ald0 eX1_leastMinutes_202 ?_
            refine a_getR 4 u eX1_leastMinutes_203 fl_X1_18 rfl rfl sh_57 ((congrFun (congrFun hR _) _).trans (cs_u hcs)) ?_
            refine a_ast8 eX1_leastMinutes_206 (by decide) aw_n2i ?_
            refine a_ald0 eX1_leastMinutes_208 ?_
            refine a_ald0 eX1_leastMinutes_209 ?_
            refine a_getR 5 v eX1_leastMinutes_210 fl_X1_21 rfl rfl sh_57 ((congrFun (congrFun hR _) _).trans (cs_v hcs)) ?_
            refine a_putR 4 eX1_leastMinutes_213 fl_X1_18 rfl (by first | exact Or.inl ⟨_, rfl⟩ | exact Or.inr ⟨_, rfl⟩) sh_57 (fun q h => Or.inl (by cases h; rfl)) ?_
            refine a_ald0 eX1_leastMinutes_216 ?_
            refine a_ald8 eX1_leastMinutes_217 ?_
            refine a_putR 5 eX1_leastMinutes_219 fl_X1_21 rfl (by first | exact Or.inl ⟨_, rfl⟩ | exact Or.inr ⟨_, rfl⟩) sh_57 (fun q h => Or.inl (by cases h; rfl)) ?_
            refine a_iinc2 eX1_leastMinutes_222 (by decide) aw_n2r ?_
            refine a_goto 19 eX1_leastMinutes_225 (by decide) ?_
            rw [show ((k : Nat) : Int) + 1 = ((k + 1 : Nat) : Int) by omega]
            refine ih (k + 1) _ (!cs1) v u _ _ _ _ _ _ (by omega) (by omega) (cs_sw hcs) (cs_rf hcs hR) ⟨fun b j q1 q2 => ?_, ?_⟩ (fun t t1 t2 => ?_)
            · show σ3.1 b j = _
              rw [f3.1 b j (by omega), rd_sa_ne (by omega)]
              exact f1.1 b j q1 q2
            · show σ3.2.1 = _
              rw [f3.2]
              exact f1.2
            · show σ3.1 v t = _
              rw [hv3 t t1 t2]
              exact dpN_cg (fun z z1 z2 => by rw [rd_sa_ne hn.1.1]; exact hc z z1 z2) _ t ⟨t1, t2⟩
        · skip
          refine a_ald0 eX1_leastMinutes_88 ?_
          refine a_getI 2 eX1_leastMinutes_89 fl_X1_24 rfl rfl sh_57 ?_
          refine a_eqtop (y0 := s6 (ovS (ovm m)) (m 0 0).toNat) (by rw [rd_sa_ne (by omega)]; exact hs1) ?_
          refine a_ald0 eX1_leastMinutes_92 ?_
          refine a_getI 3 eX1_leastMinutes_93 fl_X1_28 rfl rfl sh_57 ?_
          refine a_eqtop (y0 := s6 (ovW (ovm m)) (m 0 0).toNat) (by rw [rd_sa_ne (by omega)]; exact hw1) ?_
          refine a_icmp_gt 103 eX1_leastMinutes_96 (by decide) (by omega) (fun hT96 => ?_) (fun hF96 => ?_)
          · skip
            refine a_iconst eX1_leastMinutes_103 ?_
            refine a_goto 123 eX1_leastMinutes_104 (by decide) ?_
            refine a_ist5 eX1_leastMinutes_123 (by decide) aw_n2i ?_
            refine a_ild5 eX1_leastMinutes_125 ?_
            refine a_if_eq 139 eX1_leastMinutes_127 (by decide) (by omega) (fun _ => ?_) (fun h => absurd h (by decide))
            refine a_ald0 eX1_leastMinutes_139 ?_
            refine a_getR 0 58 eX1_leastMinutes_140 fl_X1_9 rfl rfl sh_57 ((congrFun (congrFun hR _) _).trans rf_57_0) ?_
            refine a_ild3 eX1_leastMinutes_143 ?_
            refine a_iald eX1_leastMinutes_144 sh_58 rfl (by omega) ?_
            refine a_eqtop (y0 := ovm m (σ.1 59 (k : Int))) (by rw [rd_sa_ne (by omega)]; exact ho1) ?_
            refine a_iconst eX1_leastMinutes_145 ?_
            refine a_mmin eX1_leastMinutes_146 lk_X1_57 (by omega) rfl rfl ?_
            refine a_eqtop (y0 := loR (ovm m) (m 0 0) (σ.1 59 (k : Int))) (by unfold loR; (repeat' split) <;> omega) ?_
            refine a_ist6 eX1_leastMinutes_149 (by decide) aw_n2i ?_
            refine a_ild5 eX1_leastMinutes_151 ?_
            refine a_if_eq 165 eX1_leastMinutes_153 (by decide) (by omega) (fun _ => ?_) (fun h => absurd h (by decide))
            refine a_ald0 eX1_leastMinutes_165 ?_
            refine a_getR 0 58 eX1_leastMinutes_166 fl_X1_9 rfl rfl sh_57 ((congrFun (congrFun hR _) _).trans rf_57_0) ?_
            refine a_ild3 eX1_leastMinutes_169 ?_
            refine a_iald eX1_leastMinutes_170 sh_58 rfl (by omega) ?_
            refine a_eqtop (y0 := ovm m (σ.1 59 (k : Int))) (by rw [rd_sa_ne (by omega)]; exact ho1) ?_
            refine a_iconst eX1_leastMinutes_171 ?_
            refine a_mmax eX1_leastMinutes_172 lk_X1_44 (by omega) rfl rfl ?_
            refine a_eqtop (y0 := hiR (ovm m) (m 0 0) (σ.1 59 (k : Int))) (by unfold hiR; (repeat' split) <;> omega) ?_
            refine a_ist7 eX1_leastMinutes_175 (by decide) aw_n2i ?_
            refine a_ild6 eX1_leastMinutes_177 ?_
            refine a_ist8 eX1_leastMinutes_179 (by decide) aw_n2i ?_
            have hlo : (-20 ≤ loR (ovm m) (m 0 0) (σ.1 59 (k : Int)) ∧ loR (ovm m) (m 0 0) (σ.1 59 (k : Int)) ≤ 20) ∧ (-20 ≤ hiR (ovm m) (m 0 0) (σ.1 59 (k : Int)) ∧ hiR (ovm m) (m 0 0) (σ.1 59 (k : Int)) ≤ 20) ∧ loR (ovm m) (m 0 0) (σ.1 59 (k : Int)) ≤ hiR (ovm m) (m 0 0) (σ.1 59 (k : Int)) + 1 := by
              unfold loR hiR
              (repeat' split) <;> omega
            refine AW.lc (xs := [some (.ref 57), some (.ref a), some (.int (jI (k : Int))), some (.int (jI (σ.1 59 (k : Int)))), some (.int (jI (stK (m 1) (σ.1 59) (m 0 0) (k : Int)))), some (.int (jI 0)), some (.int (jI (loR (ovm m) (m 0 0) (σ.1 59 (k : Int))))), some (.int (jI (hiR (ovm m) (m 0 0) (σ.1 59 (k : Int))))), some (.int (jI (loR (ovm m) (m 0 0) (σ.1 59 (k : Int)) + ((0 : Nat) : Int))))]) (by rw [show ((0 : Nat) : Int) = 0 from rfl, Int.add_zero]) ?_
            refine lp_lmI (σ := aw_sa σ1 v (fun j => if 0 ≤ j ∧ j < ((33 : Nat) : Int) then 1000000 else σ1.1 v j)) (by exact hR) hcs hlo hst (fun t t1 t2 => by rw [rd_sa_ne hn.1.1]; exact hcb t t1 t2) (fun σ3 l8 f3 hv3 => ?_) _ 0 _ (Nat.le_refl _) (by omega) ⟨fun _ _ _ => rfl, rfl⟩ (fun t t1 t2 => by rw [rd_sa_eq, if_pos (by omega)]; rfl)
            have hR : σ3.2.2 = RF tw cs1 := by rw [f3.2]; exact hR
            refine a_ald0 eX1_leastMinutes_202 ?_
            refine a_getR 4 u eX1_leastMinutes_203 fl_X1_18 rfl rfl sh_57 ((congrFun (congrFun hR _) _).trans (cs_u hcs)) ?_
            refine a_ast8 eX1_leastMinutes_206 (by decide) aw_n2i ?_
            refine a_ald0 eX1_leastMinutes_208 ?_
            refine a_ald0 eX1_leastMinutes_209 ?_
            refine a_getR 5 v eX1_leastMinutes_210 fl_X1_21 rfl rfl sh_57 ((congrFun (congrFun hR _) _).trans (cs_v hcs)) ?_
            refine a_putR 4 eX1_leastMinutes_213 fl_X1_18 rfl (by first | exact Or.inl ⟨_, rfl⟩ | exact Or.inr ⟨_, rfl⟩) sh_57 (fun q h => Or.inl (by cases h; rfl)) ?_
            refine a_ald0 eX1_leastMinutes_216 ?_
            refine a_ald8 eX1_leastMinutes_217 ?_
            refine a_putR 5 eX1_leastMinutes_219 fl_X1_21 rfl (by first | exact Or.inl ⟨_, rfl⟩ | exact Or.inr ⟨_, rfl⟩) sh_57 (fun q h => Or.inl (by cases h; rfl)) ?_
            refine a_iinc2 eX1_leastMinutes_222 (by decide) aw_n2r ?_
            refine a_goto 19 eX1_leastMinutes_225 (by decide) ?_
            rw [show ((k : Nat) : Int) + 1 = ((k + 1 : Nat) : Int) by omega]
            refine ih (k + 1) _ (!cs1) v u _ _ _ _ _ _ (by omega) (by omega) (cs_sw hcs) (cs_rf hcs hR) ⟨fun b j q1 q2 => ?_, ?_⟩ (fun t t1 t2 => ?_)
            · show σ3.1 b j = _
              rw [f3.1 b j (by omega), rd_sa_ne (by omega)]
              exact f1.1 b j q1 q2
            · show σ3.2.1 = _
              rw [f3.2]
              exact f1.2
            · show σ3.1 v t = _
              rw [hv3 t t1 t2]
              exact dpN_cg (fun z z1 z2 => by rw [rd_sa_ne hn.1.1]; exact hc z z1 z2) _ t ⟨t1, t2⟩
          · skip
            refine a_iconst eX1_leastMinutes_99 ?_
            refine a_goto 123 eX1_leastMinutes_100 (by decide) ?_
            refine a_ist5 eX1_leastMinutes_123 (by decide) aw_n2i ?_
            refine a_ild5 eX1_leastMinutes_125 ?_
            refine a_if_eq 139 eX1_leastMinutes_127 (by decide) (by omega) (fun h => absurd h (by decide)) (fun _ => ?_)
            refine a_ald0 eX1_leastMinutes_130 ?_
            refine a_getR 0 58 eX1_leastMinutes_131 fl_X1_9 rfl rfl sh_57 ((congrFun (congrFun hR _) _).trans rf_57_0) ?_
            refine a_ild3 eX1_leastMinutes_134 ?_
            refine a_iald eX1_leastMinutes_135 sh_58 rfl (by omega) ?_
            refine a_eqtop (y0 := ovm m (σ.1 59 (k : Int))) (by rw [rd_sa_ne (by omega)]; exact ho1) ?_
            refine a_goto 149 eX1_leastMinutes_136 (by decide) ?_
            refine a_eqtop (y0 := loR (ovm m) (m 0 0) (σ.1 59 (k : Int))) (by unfold loR; (repeat' split) <;> omega) ?_
            refine a_ist6 eX1_leastMinutes_149 (by decide) aw_n2i ?_
            refine a_ild5 eX1_leastMinutes_151 ?_
            refine a_if_eq 165 eX1_leastMinutes_153 (by decide) (by omega) (fun h => absurd h (by decide)) (fun _ => ?_)
            refine a_ald0 eX1_leastMinutes_156 ?_
            refine a_getR 0 58 eX1_leastMinutes_157 fl_X1_9 rfl rfl sh_57 ((congrFun (congrFun hR _) _).trans rf_57_0) ?_
            refine a_ild3 eX1_leastMinutes_160 ?_
            refine a_iald eX1_leastMinutes_161 sh_58 rfl (by omega) ?_
            refine a_eqtop (y0 := ovm m (σ.1 59 (k : Int))) (by rw [rd_sa_ne (by omega)]; exact ho1) ?_
            refine a_goto 175 eX1_leastMinutes_162 (by decide) ?_
            refine a_eqtop (y0 := hiR (ovm m) (m 0 0) (σ.1 59 (k : Int))) (by unfold hiR; (repeat' split) <;> omega) ?_
            refine a_ist7 eX1_leastMinutes_175 (by decide) aw_n2i ?_
            refine a_ild6 eX1_leastMinutes_177 ?_
            refine a_ist8 eX1_leastMinutes_179 (by decide) aw_n2i ?_
            have hlo : (-20 ≤ loR (ovm m) (m 0 0) (σ.1 59 (k : Int)) ∧ loR (ovm m) (m 0 0) (σ.1 59 (k : Int)) ≤ 20) ∧ (-20 ≤ hiR (ovm m) (m 0 0) (σ.1 59 (k : Int)) ∧ hiR (ovm m) (m 0 0) (σ.1 59 (k : Int)) ≤ 20) ∧ loR (ovm m) (m 0 0) (σ.1 59 (k : Int)) ≤ hiR (ovm m) (m 0 0) (σ.1 59 (k : Int)) + 1 := by
              unfold loR hiR
              (repeat' split) <;> omega
            refine AW.lc (xs := [some (.ref 57), some (.ref a), some (.int (jI (k : Int))), some (.int (jI (σ.1 59 (k : Int)))), some (.int (jI (stK (m 1) (σ.1 59) (m 0 0) (k : Int)))), some (.int (jI 1)), some (.int (jI (loR (ovm m) (m 0 0) (σ.1 59 (k : Int))))), some (.int (jI (hiR (ovm m) (m 0 0) (σ.1 59 (k : Int))))), some (.int (jI (loR (ovm m) (m 0 0) (σ.1 59 (k : Int)) + ((0 : Nat) : Int))))]) (by rw [show ((0 : Nat) : Int) = 0 from rfl, Int.add_zero]) ?_
            refine lp_lmI (σ := aw_sa σ1 v (fun j => if 0 ≤ j ∧ j < ((33 : Nat) : Int) then 1000000 else σ1.1 v j)) (by exact hR) hcs hlo hst (fun t t1 t2 => by rw [rd_sa_ne hn.1.1]; exact hcb t t1 t2) (fun σ3 l8 f3 hv3 => ?_) _ 0 _ (Nat.le_refl _) (by omega) ⟨fun _ _ _ => rfl, rfl⟩ (fun t t1 t2 => by rw [rd_sa_eq, if_pos (by omega)]; rfl)
            have hR : σ3.2.2 = RF tw cs1 := by rw [f3.2]; exact hR
            refine a_ald0 eX1_leastMinutes_202 ?_
            refine a_getR 4 u eX1_leastMinutes_203 fl_X1_18 rfl rfl sh_57 ((congrFun (congrFun hR _) _).trans (cs_u hcs)) ?_
            refine a_ast8 eX1_leastMinutes_206 (by decide) aw_n2i ?_
            refine a_ald0 eX1_leastMinutes_208 ?_
            refine a_ald0 eX1_leastMinutes_209 ?_
            refine a_getR 5 v eX1_leastMinutes_210 fl_X1_21 rfl rfl sh_57 ((congrFun (congrFun hR _) _).trans (cs_v hcs)) ?_
            refine a_putR 4 eX1_leastMinutes_213 fl_X1_18 rfl (by first | exact Or.inl ⟨_, rfl⟩ | exact Or.inr ⟨_, rfl⟩) sh_57 (fun q h => Or.inl (by cases h; rfl)) ?_
            refine a_ald0 eX1_leastMinutes_216 ?_
            refine a_ald8 eX1_leastMinutes_217 ?_
            refine a_putR 5 eX1_leastMinutes_219 fl_X1_21 rfl (by first | exact Or.inl ⟨_, rfl⟩ | exact Or.inr ⟨_, rfl⟩) sh_57 (fun q h => Or.inl (by cases h; rfl)) ?_
            refine a_iinc2 eX1_leastMinutes_222 (by decide) aw_n2r ?_
            refine a_goto 19 eX1_leastMinutes_225 (by decide) ?_
            rw [show ((k : Nat) : Int) + 1 = ((k + 1 : Nat) : Int) by omega]
            refine ih (k + 1) _ (!cs1) v u _ _ _ _ _ _ (by omega) (by omega) (cs_sw hcs) (cs_rf hcs hR) ⟨fun b j q1 q2 => ?_, ?_⟩ (fun t t1 t2 => ?_)
            · show σ3.1 b j = _
              rw [f3.1 b j (by omega), rd_sa_ne (by omega)]
              exact f1.1 b j q1 q2
            · show σ3.2.1 = _
              rw [f3.2]
              exact f1.2
            · show σ3.1 v t = _
              rw [hv3 t t1 t2]
              exact dpN_cg (fun z z1 z2 => by rw [rd_sa_ne hn.1.1]; exact hc z z1 z2) _ t ⟨t1, t2⟩

set_option maxHeartbeats 4000000 in
set_option maxRecDepth 100000 in
theorem c_X1_leastMinutes {l : Launch} {σ : aw_S} {Post : Option Value → aw_S → Prop} {a : Nat} (ha : isCity a) {tw cs : Bool} (hR : σ.2.2 = RF tw cs) {N : Int} {m : mS} (hC : cityC σ a m) (wC : wfCity m) (h0 : 0 < m 0 0) (wD : wfDay m 0 N) (hO : (∀ r : Int, 0 ≤ r → r < m 0 0 → σ.1 58 r = ovm m r)) (hS : σ.1 57 2 = s6 (ovS (ovm m)) (m 0 0).toNat) (hW : σ.1 57 3 = s6 (ovW (ovm m)) (m 0 0).toNat) (hOd : ordOK (m 1) (m 0 0) (σ.1 59)) (hk : ∀ σ' cs', frL σ σ' → σ'.2.2 = RF tw cs' → Post (some (.int (jI (brD m (σ.1 59) (m 0 0).toNat 16)))) σ')  : AE l yX1_leastMinutes cX1_leastMinutes 9 (some .int) 2 47 0 0 SH SH σ [.ref 57, .ref a] Post := by
  show AW l yX1_leastMinutes cX1_leastMinutes 9 (some .int) 2 47 0 0 SH Post SH 0 0 σ 0 [some (.ref 57), some (.ref a), none, none, none, none, none, none, none] []
  obtain ⟨u, v, hcs⟩ := cs_ex cs
  have hn := cs_n hcs
  have y1 := wC.1
  refine a_ald0 eX1_leastMinutes_0 ?_
  refine a_getR 4 u eX1_leastMinutes_1 fl_X1_18 rfl rfl sh_57 ((congrFun (congrFun hR _) _).trans (cs_u hcs)) ?_
  refine a_ldc (1000000) (by decide) eX1_leastMinutes_4 kc_X1_60 ?_
  refine a_cS2 eX1_leastMinutes_6 lk_X1_61 mS_J7_fill_53178 mt_J7_fill_53178 rfl rfl rfl rfl rfl rfl (c_J7_fill_53178 (cs_su hcs) rfl ?_)
  dsimp only [Option.toList, List.cons_append, List.nil_append]
  refine a_ald0 eX1_leastMinutes_9 ?_
  refine a_getR 4 u eX1_leastMinutes_10 fl_X1_18 rfl rfl sh_57 ((congrFun (congrFun hR _) _).trans (cs_u hcs)) ?_
  refine a_bipush eX1_leastMinutes_13 (by decide) ?_
  refine a_iconst eX1_leastMinutes_15 ?_
  refine a_iast eX1_leastMinutes_16 (cs_su hcs) rfl (by omega) ?_
  refine a_iconst eX1_leastMinutes_17 ?_
  refine a_ist2 eX1_leastMinutes_18 (by decide) aw_n2r ?_
  refine lp_lm ha hC wC h0 wD hO hS hW hOd hk _ 0 _ cs u v none none none none none none (Nat.le_refl _) (by omega) hcs (by exact hR) ⟨fun b j q1 q2 => ?_, rfl⟩ (fun t t1 t2 => ?_)
  · rw [rd_si_ne (by omega), rd_sa_ne (by omega)]
  · show _ = if t = 16 then (0 : Int) else 1000000
    by_cases q : t = 16
    · rw [if_pos q, q, rd_si_eq]
    · rw [if_neg q, rd_si_ni q, rd_sa_eq, if_pos (by omega)]

set_option maxHeartbeats 4000000 in
set_option maxRecDepth 100000 in
theorem c_X9_brought {l : Launch} {σ : aw_S} {Post : Option Value → aw_S → Prop} {tw cs : Bool} (hR : σ.2.2 = RF tw cs) {t : Nat} (hct : isCity t) (hrt : RF tw cs 0 1 = some t) {m : mS} (hC : cityC σ t m) (wC : wfCity m) {N w : Int} (hr : (-2147483648 ≤ w ∧ w ≤ 2147483647)) (hD : dayC σ 21 0 m) (wD : wfDay m 0 N) (hk : ∀ σ' cs' v, frN σ σ' → σ'.2.2 = RF tw cs' → aw_bx (isbrC m w v) → Post (some (.int (jI v))) σ')  : AE l yX9_brought cX9_brought 2 (some .int) 3 75 0 0 SH SH σ [.ref 0, .int (jI w)] Post := by
  show AW l yX9_brought cX9_brought 2 (some .int) 3 75 0 0 SH Post SH 0 0 σ 0 [some (.ref 0), some (.int (jI w))] []
  obtain ⟨c1, c2, c3, c4, c5, c6, c7, c8⟩ := id hC
  obtain ⟨w1, w2, w3, w4, w5, w6, w7, w8⟩ := id wC
  have ht2 : t ≤ 13 := by rcases hct with rfl | rfl <;> omega
  have hsb := ovS_b (ov := ovm m) (m 0 0).toNat (fun r r1 r2 => by have := ovm_b wD (r := r) (by omega); omega)
  refine a_ald0 eX9_brought_0 ?_
  refine a_cV0 eX9_brought_1 lk_X9_129 mV_X9_hasCity sh_0 ⟨_, rfl, rfl⟩ mt_X9_hasCity rfl rfl rfl rfl (c_X9_hasCity hR hct hrt hC wC (fun hT1 => ?_) (fun hF1 => ?_))
  · skip
    dsimp only [Option.toList, List.cons_append, List.nil_append]
    refine a_if_eq 16 eX9_brought_4 (by decide) (by omega) (fun h => absurd h (by decide)) (fun _ => ?_)
    refine a_ild1 eX9_brought_7 ?_
    refine a_iconst eX9_brought_8 ?_
    refine a_iconst eX9_brought_9 ?_
    refine a_cS3 eX9_brought_10 lk_X9_81 mS_X9_within mt_X9_within rfl rfl rfl rfl rfl rfl rfl (c_X9_within (by omega) (fun hT10 => ?_) (fun hF10 => ?_))
    · skip
      dsimp only [Option.toList, List.cons_append, List.nil_append]
      refine a_if_ne 18 eX9_brought_13 (by decide) (by omega) (fun _ => ?_) (fun h => absurd h (by decide))
      refine a_ald0 eX9_brought_18 ?_
      refine a_getR 6 57 eX9_brought_19 fl_X9_48 rfl rfl sh_0 ((congrFun (congrFun hR _) _).trans rf_0_6) ?_
      refine a_ald0 eX9_brought_22 ?_
      refine a_getR 1 t eX9_brought_23 fl_X9_19 rfl rfl sh_0 ((congrFun (congrFun hR _) _).trans hrt) ?_
      refine a_ald0 eX9_brought_26 ?_
      refine a_getR 2 21 eX9_brought_27 fl_X9_26 rfl rfl sh_0 ((congrFun (congrFun hR _) _).trans rf_0_2) ?_
      refine a_cV2 eX9_brought_30 lk_X9_258 mV_X1_weigh sh_57 ⟨_, rfl, rfl⟩ mt_X1_weigh rfl rfl rfl rfl rfl rfl (c_X1_weigh hct hR hC wC hD wD (fun σ2 f2 hO2 hS2 hW2 hOd2 => ?_))
      dsimp only [Option.toList, List.cons_append, List.nil_append]
      have hR2 : σ2.2.2 = RF tw cs := by rw [f2.2]; exact hR
      have hR := hR2
      have hC2 : cityC σ2 t m := cityC_lo hct (fun b j q => f2.1 b j (by omega) (by omega) (by omega)) hC
      refine a_ild1 eX9_brought_33 ?_
      refine a_if_ne 47 eX9_brought_34 (by decide) (by omega) (fun hT34 => ?_) (fun hF34 => ?_)
      · skip
        refine a_ald0 eX9_brought_47 ?_
        refine a_getR 6 57 eX9_brought_48 fl_X9_48 rfl rfl sh_0 ((congrFun (congrFun hR _) _).trans rf_0_6) ?_
        refine a_ald0 eX9_brought_51 ?_
        refine a_getR 1 t eX9_brought_52 fl_X9_19 rfl rfl sh_0 ((congrFun (congrFun hR _) _).trans hrt) ?_
        refine a_cV1 eX9_brought_55 lk_X9_265 mV_X1_leastMinutes sh_57 ⟨_, rfl, rfl⟩ mt_X1_leastMinutes rfl rfl rfl rfl rfl (c_X1_leastMinutes hct hR hC2 wC (by omega) wD hO2 hS2 hW2 hOd2 (fun σ3 cs3 f3 hR3 => ?_))
        dsimp only [Option.toList, List.cons_append, List.nil_append]
        refine a_iret eX9_brought_58 rfl rfl ⟨Nat.zero_le _, Nat.zero_le _⟩ ?_
        exact hk σ3 cs3 _ ⟨fun b j q => (f3.1 b j (by omega) (by omega)).trans (f2.1 b j (by omega) (by omega) (by omega)), by rw [f3.2, f2.2]⟩ hR3 (aw_mb (Or.inr (Or.inr ⟨⟨by omega, by omega⟩, _, hOd2, rfl⟩)))
      · skip
        refine a_ald0 eX9_brought_37 ?_
        refine a_getR 6 57 eX9_brought_38 fl_X9_48 rfl rfl sh_0 ((congrFun (congrFun hR _) _).trans rf_0_6) ?_
        refine a_cV0 eX9_brought_41 lk_X9_262 mV_X1_moved sh_57 ⟨_, rfl, rfl⟩ mt_X1_moved rfl rfl rfl rfl (c_X1_moved hR (by omega) ?_)
        dsimp only [Option.toList, List.cons_append, List.nil_append]
        refine a_goto 58 eX9_brought_44 (by decide) ?_
        refine a_iret eX9_brought_58 rfl rfl ⟨Nat.zero_le _, Nat.zero_le _⟩ ?_
        refine hk σ2 cs _ ⟨fun b j q => f2.1 b j (by omega) (by omega) (by omega), by rw [f2.2]⟩ hR (aw_mb (Or.inr (Or.inl ⟨⟨by omega, by omega⟩, ?_⟩)))
        unfold brN
        rw [hS2, hW2]
    · skip
      dsimp only [Option.toList, List.cons_append, List.nil_append]
      refine a_if_ne 18 eX9_brought_13 (by decide) (by omega) (fun h => absurd h (by decide)) (fun _ => ?_)
      refine a_iconst eX9_brought_16 ?_
      refine a_iret eX9_brought_17 rfl rfl ⟨Nat.zero_le _, Nat.zero_le _⟩ ?_
      exact hk σ cs (-1) ⟨fun _ _ _ => rfl, rfl⟩ hR (aw_mb (Or.inl ⟨by omega, rfl⟩))
  · skip
    dsimp only [Option.toList, List.cons_append, List.nil_append]
    refine a_if_eq 16 eX9_brought_4 (by decide) (by omega) (fun _ => ?_) (fun h => absurd h (by decide))
    refine a_iconst eX9_brought_16 ?_
    refine a_iret eX9_brought_17 rfl rfl ⟨Nat.zero_le _, Nat.zero_le _⟩ ?_
    exact hk σ cs (-1) ⟨fun _ _ _ => rfl, rfl⟩ hR (aw_mb (Or.inl ⟨by omega, rfl⟩))

set_option maxHeartbeats 4000000 in
set_option maxRecDepth 100000 in
theorem lp_bg1 {l : Launch} {σ : aw_S} {Post : Option Value → aw_S → Prop} {tw cs : Bool} (hR : σ.2.2 = RF tw cs) {m : mS} (hM : cityM σ m) (wC : wfCity m) {N w : Int} (hr : (-2147483648 ≤ w ∧ w ≤ 2147483647)) (hD : dayM σ m) (wD : wfDay m 0 N) (hk : ∀ σ2 l2, frO σ σ2 → (∀ r : Int, 0 ≤ r → r < m 0 0 → σ2.1 203 r = ovS (ovm m) r ∧ σ2.1 204 r = ovW (ovm m) r) → AW l yX10_brought cX10_brought 5 (some .int) 2 45 0 0 SH Post SH 0 0 (σ2) 80 [some (.ref 171), some (.int (jI w)), l2, none, none] [])  : ∀ (n : Nat) (i : Int) (σ1 : aw_S), ((m 0 0 - i).toNat ≤ n) → (0 ≤ i ∧ i ≤ m 0 0) → (frO σ σ1) → ((∀ r : Int, 0 ≤ r → r < i → σ1.1 203 r = ovS (ovm m) r ∧ σ1.1 204 r = ovW (ovm m) r)) → AW l yX10_brought cX10_brought 5 (some .int) 2 45 0 0 SH Post SH 0 0 (σ1) 20 [some (.ref 171), some (.int (jI w)), some (.int (jI i)), none, none] [] := by
  intro n
  induction n with
  | zero =>
    intro i σ1 hm hi f1 hs
    obtain ⟨c1, c2, -⟩ := id hM
    obtain ⟨d1, d2, d3, d4, -⟩ := id hD
    simp only [Int.zero_add] at d4
    have h6 := wC.1
    have hR : σ1.2.2 = RF tw cs := by rw [f1.2]; exact hR
    have e0 : σ1.1 171 14 = m 0 0 := (f1.1 _ _ (by omega)).trans c1
    have v4 := (wfDay_0 wD).2.2.2.1
    have hdi : i < m 0 0 → (σ1.1 184 i = m 10 i ∧ σ1.1 186 i = m 11 i) ∧ (0 ≤ m 10 i ∧ m 10 i ≤ 16) ∧ (0 ≤ m 11 i ∧ m 11 i ≤ 20) := fun h => ⟨⟨(f1.1 _ _ (by omega)).trans (d4 i (by omega) (by omega)).1, (f1.1 _ _ (by omega)).trans (d4 i (by omega) (by omega)).2⟩, (v4 i (by omega) (by omega)).1, (v4 i (by omega) (by omega)).2.1⟩
    refine a_ild2 eX10_brought_20 ?_
    refine a_ald0 eX10_brought_21 ?_
    refine a_getI 14 eX10_brought_22 fl_X10_235 rfl rfl sh_171 ?_
    refine a_eqtop (y0 := m 0 0) (by exact e0) ?_
    refine a_icmp_ge 80 eX10_brought_25 (by decide) (by omega) (fun hT25 => ?_) (fun hF25 => ?_)
    · skip
      exact hk σ1 _ f1 (fun r r1 r2 => hs r r1 (by omega))
    · skip
      exfalso; omega
  | succ n ih =>
    intro i σ1 hm hi f1 hs
    obtain ⟨c1, c2, -⟩ := id hM
    obtain ⟨d1, d2, d3, d4, -⟩ := id hD
    simp only [Int.zero_add] at d4
    have h6 := wC.1
    have hR : σ1.2.2 = RF tw cs := by rw [f1.2]; exact hR
    have e0 : σ1.1 171 14 = m 0 0 := (f1.1 _ _ (by omega)).trans c1
    have v4 := (wfDay_0 wD).2.2.2.1
    have hdi : i < m 0 0 → (σ1.1 184 i = m 10 i ∧ σ1.1 186 i = m 11 i) ∧ (0 ≤ m 10 i ∧ m 10 i ≤ 16) ∧ (0 ≤ m 11 i ∧ m 11 i ≤ 20) := fun h => ⟨⟨(f1.1 _ _ (by omega)).trans (d4 i (by omega) (by omega)).1, (f1.1 _ _ (by omega)).trans (d4 i (by omega) (by omega)).2⟩, (v4 i (by omega) (by omega)).1, (v4 i (by omega) (by omega)).2.1⟩
    refine a_ild2 eX10_brought_20 ?_
    refine a_ald0 eX10_brought_21 ?_
    refine a_getI 14 eX10_brought_22 fl_X10_235 rfl rfl sh_171 ?_
    refine a_eqtop (y0 := m 0 0) (by exact e0) ?_
    refine a_icmp_ge 80 eX10_brought_25 (by decide) (by omega) (fun hT25 => ?_) (fun hF25 => ?_)
    · skip
      exact hk σ1 _ f1 (fun r r1 r2 => hs r r1 (by omega))
    · skip
      have hdi := hdi (by omega)
      refine a_ald0 eX10_brought_28 ?_
      refine a_getR 48 203 eX10_brought_29 fl_X10_106 rfl rfl sh_171 ((congrFun (congrFun hR _) _).trans rf_171_48) ?_
      refine a_ild2 eX10_brought_32 ?_
      refine a_iconst eX10_brought_33 ?_
      refine a_ald0 eX10_brought_34 ?_
      refine a_getR 25 184 eX10_brought_35 fl_X10_48 rfl rfl sh_171 ((congrFun (congrFun hR _) _).trans rf_171_25) ?_
      refine a_ild2 eX10_brought_38 ?_
      refine a_iald eX10_brought_39 sh_184 rfl (by omega) ?_
      refine a_ald0 eX10_brought_40 ?_
      refine a_getR 28 186 eX10_brought_41 fl_X10_54 rfl rfl sh_171 ((congrFun (congrFun hR _) _).trans rf_171_28) ?_
      refine a_ild2 eX10_brought_44 ?_
      refine a_iald eX10_brought_45 sh_186 rfl (by omega) ?_
      refine a_isub eX10_brought_46 ?_
      refine a_eqtop (y0 := m 10 i - m 11 i) (by rw [hdi.1.1, hdi.1.2]) ?_
      refine a_mmax eX10_brought_47 lk_X10_348 (by omega) rfl rfl ?_
      refine a_eqtop (y0 := ovS (ovm m) i) (by unfold ovS ovm; (repeat' split) <;> omega) ?_
      refine a_iast eX10_brought_50 sh_203 rfl (by omega) ?_
      refine a_ald0 eX10_brought_51 ?_
      refine a_getR 49 204 eX10_brought_52 fl_X10_109 rfl rfl sh_171 ((congrFun (congrFun hR _) _).trans rf_171_49) ?_
      refine a_ild2 eX10_brought_55 ?_
      refine a_iconst eX10_brought_56 ?_
      refine a_ald0 eX10_brought_57 ?_
      refine a_getR 28 186 eX10_brought_58 fl_X10_54 rfl rfl sh_171 ((congrFun (congrFun hR _) _).trans rf_171_28) ?_
      refine a_ild2 eX10_brought_61 ?_
      refine a_iald eX10_brought_62 sh_186 rfl (by omega) ?_
      refine a_ald0 eX10_brought_63 ?_
      refine a_getR 25 184 eX10_brought_64 fl_X10_48 rfl rfl sh_171 ((congrFun (congrFun hR _) _).trans rf_171_25) ?_
      refine a_ild2 eX10_brought_67 ?_
      refine a_iald eX10_brought_68 sh_184 rfl (by omega) ?_
      refine a_isub eX10_brought_69 ?_
      refine a_eqtop (y0 := m 11 i - m 10 i) (by rw [rd_si_ne (by omega), rd_si_ne (by omega), hdi.1.1, hdi.1.2]) ?_
      refine a_mmax eX10_brought_70 lk_X10_348 (by omega) rfl rfl ?_
      refine a_eqtop (y0 := ovW (ovm m) i) (by unfold ovW ovm; (repeat' split) <;> omega) ?_
      refine a_iast eX10_brought_73 sh_204 rfl (by omega) ?_
      refine a_iinc2 eX10_brought_74 (by decide) aw_n2i ?_
      refine a_goto 20 eX10_brought_77 (by decide) ?_
      refine ih (i + 1) _ (by omega) (by omega) ⟨fun b j q => by rw [rd_si_ne (by omega), rd_si_ne (by omega)]; exact f1.1 b j q, f1.2⟩ (fun r r1 r2 => ?_)
      by_cases q : r = i
      · subst q
        rw [rd_si_ne (by omega), rd_si_eq, rd_si_eq]
        exact ⟨rfl, rfl⟩
      · rw [rd_si_ne (by omega), rd_si_ni q, rd_si_ni q, rd_si_ne (by omega)]
        exact hs r r1 (by omega)

set_option maxHeartbeats 4000000 in
set_option maxRecDepth 100000 in
theorem lp_bg2 {l : Launch} {σ : aw_S} {Post : Option Value → aw_S → Prop} {tw cs : Bool} (hR : σ.2.2 = RF tw cs) {w : Int} (hk : ∀ σ2 l2, fr1 205 σ σ2 → xOK σ2 (fun _ _ => 0) → AW l yX10_brought cX10_brought 5 (some .int) 2 45 0 0 SH Post SH 0 0 (σ2) 101 [some (.ref 171), some (.int (jI w)), l2, none, none] [])  : ∀ (n : Nat) (i : Int) (σ1 : aw_S), ((36 - i).toNat ≤ n) → (0 ≤ i ∧ i ≤ 36) → (fr1 205 σ σ1) → (∀ j : Int, 0 ≤ j → j < i → σ1.1 205 j = 0) → AW l yX10_brought cX10_brought 5 (some .int) 2 45 0 0 SH Post SH 0 0 (σ1) 82 [some (.ref 171), some (.int (jI w)), some (.int (jI i)), none, none] [] := by
  intro n
  induction n with
  | zero =>
    intro i σ1 hm hi f1 hz
    have hR : σ1.2.2 = RF tw cs := by rw [f1.2]; exact hR
    refine a_ild2 eX10_brought_82 ?_
    refine a_bipush eX10_brought_83 (by decide) ?_
    refine a_icmp_ge 101 eX10_brought_85 (by decide) (by omega) (fun hT85 => ?_) (fun hF85 => ?_)
    · skip
      exact hk σ1 _ f1 (fun a b a1 a2 b1 b2 => hz _ (by omega) (by omega))
    · skip
      exfalso; omega
  | succ n ih =>
    intro i σ1 hm hi f1 hz
    have hR : σ1.2.2 = RF tw cs := by rw [f1.2]; exact hR
    refine a_ild2 eX10_brought_82 ?_
    refine a_bipush eX10_brought_83 (by decide) ?_
    refine a_icmp_ge 101 eX10_brought_85 (by decide) (by omega) (fun hT85 => ?_) (fun hF85 => ?_)
    · skip
      exact hk σ1 _ f1 (fun a b a1 a2 b1 b2 => hz _ (by omega) (by omega))
    · skip
      refine a_ald0 eX10_brought_88 ?_
      refine a_getR 50 205 eX10_brought_89 fl_X10_112 rfl rfl sh_171 ((congrFun (congrFun hR _) _).trans rf_171_50) ?_
      refine a_ild2 eX10_brought_92 ?_
      refine a_iconst eX10_brought_93 ?_
      refine a_iast eX10_brought_94 sh_205 rfl (by omega) ?_
      refine a_iinc2 eX10_brought_95 (by decide) aw_n2i ?_
      refine a_goto 82 eX10_brought_98 (by decide) ?_
      refine ih (i + 1) _ (by omega) (by omega) ⟨fun b j q => by rw [rd_si_ne q]; exact f1.1 b j q, f1.2⟩ (fun j j1 j2 => ?_)
      by_cases q : j = i
      · rw [q, rd_si_eq]
      · rw [rd_si_ni q]; exact hz j j1 (by omega)

theorem brI_0 {m : mS} {sp wa : Int → Int} (h6 : 0 ≤ m 0 0 ∧ m 0 0 ≤ 6) (h : ∀ r : Int, 0 ≤ r → r < m 0 0 → sp r = ovS (ovm m) r ∧ wa r = ovW (ovm m) r) : brI (m 0 0) (dm m) (ovS (ovm m)) (ovW (ovm m)) (fun _ _ => 0) sp wa 0 0 := by
  refine ⟨fun _ _ _ _ _ _ => Int.le_refl _, fun a a1 a2 => ?_, fun b b1 b2 => ?_, ?_, ?_, aw_mb ⟨fun _ => 0, 0, ⟨fun a b _ _ _ _ => ?_, fun _ _ _ _ _ _ z => absurd z (Int.lt_irrefl 0), fun a _ _ => ⟨fun _ => Int.le_refl _, fun _ => Int.le_refl _⟩, fun b _ _ => ⟨fun _ => Int.le_refl _, fun _ => Int.le_refl _⟩⟩, fun v _ _ => ⟨Int.le_refl 0, by show (0 : Int) ≤ 1000000; omega⟩⟩⟩
  · rw [(h a a1 a2).1, s6_z]
    unfold ovS
    split <;> omega
  · rw [(h b b1 b2).2, s6_z]
    unfold ovW
    split <;> omega
  · unfold tot
    rw [s6_cg (g := fun _ => (0 : Int)) _ (fun i _ _ => by rw [s6_cg (g := fun _ => (0 : Int)) _ (fun j _ _ => Int.zero_mul _), s6_z]), s6_z]
  · rw [s6_cg (g := fun _ => (0 : Int)) _ (fun i _ _ => s6_z _), s6_z]
  · have := dm_nn (m := m) a b
    show (0 : Int) ≤ 0 + dm m a b
    omega
theorem brI_n {R A n : Int} {d x : Int → Int → Int} {s0 w0 sp wa : Int → Int} (hR : 0 ≤ R ∧ R ≤ 6) (h : brI R d s0 w0 x sp wa A n) (hs : ∀ r : Int, 0 ≤ r → r < R → s0 r ≤ 99) : 0 ≤ n ∧ n ≤ 600 := by
  obtain ⟨i1, i2, i3, i4, i5, -⟩ := h
  have h1 := s6_nn (f := fun a => s6 (x a) R.toNat) R.toNat (fun a a1 a2 => s6_nn _ (fun b b1 b2 => i1 a b a1 (by omega) b1 (by omega)))
  have h2 := s6_le (f := fun a => s6 (x a) R.toNat) (g := fun _ => (1 : Int) * 99) R.toNat (fun a a1 a2 => by
    have := i2 a a1 (by omega)
    have := hs a a1 (by omega)
    omega)
  rw [s6_mul (f := fun _ => (1 : Int)), s6_c1] at h2
  omega
set_option maxHeartbeats 4000000 in
set_option maxRecDepth 100000 in
theorem lp_bg {l : Launch} {σ : aw_S} {Post : Option Value → aw_S → Prop} {tw cs : Bool} (hR : σ.2.2 = RF tw cs) {m : mS} (hM : cityM σ m) (wC : wfCity m) {N w : Int} (hr : (-2147483648 ≤ w ∧ w ≤ 2147483647)) (hD : dayM σ m) (wD : wfDay m 0 N) (hk : ∀ σ' v, frO σ σ' → aw_bx (isbrM m w v) → Post (some (.int (jI v))) σ') (h0 : 0 < m 0 0 ∧ (0 ≤ w ∧ w ≤ 1))  : ∀ (n : Nat) (σ1 : aw_S) (x : Int → Int → Int) (n1 : Int) (A : Int) (μ : Int), ((700 - n1).toNat ≤ n) → (frO σ σ1) → (xOK σ1 x) → (brI (m 0 0) (dm m) (ovS (ovm m)) (ovW (ovm m)) x (σ1.1 203) (σ1.1 204) (A + μ) (n1 + 1)) → (0 ≤ μ ∧ μ ≤ 1000000) → AW l yX10_brought cX10_brought 5 (some .int) 2 45 0 0 SH Post SH 0 0 (σ1) 111 [some (.ref 171), some (.int (jI w)), some (.int (jI n1)), some (.int (jI A)), some (.int (jI μ))] [] := by
  intro n
  induction n with
  | zero =>
    intro σ1 x n1 A μ hm f1 hx hI hμ
    have h6 := wC.1
    have hR : σ1.2.2 = RF tw cs := by rw [f1.2]; exact hR
    have hs0 : ∀ r : Int, 0 ≤ r → r < m 0 0 → ovS (ovm m) r ≤ 99 ∧ ovW (ovm m) r ≤ 99 := fun r r1 r2 => by
      have := ovm_b wD (r := r) (by omega)
      unfold ovS ovW
      split <;> split <;> omega
    have hn9 := brI_n h6 hI (fun r r1 r2 => (hs0 r r1 r2).1)
    refine a_ild4 eX10_brought_111 ?_
    refine a_iconst eX10_brought_113 ?_
    refine a_icmp_eq 134 eX10_brought_114 (by decide) (by omega) (fun hT114 => ?_) (fun hF114 => ?_)
    · skip
      exfalso; omega
    · skip
      exfalso; omega
  | succ n ih =>
    intro σ1 x n1 A μ hm f1 hx hI hμ
    have h6 := wC.1
    have hR : σ1.2.2 = RF tw cs := by rw [f1.2]; exact hR
    have hs0 : ∀ r : Int, 0 ≤ r → r < m 0 0 → ovS (ovm m) r ≤ 99 ∧ ovW (ovm m) r ≤ 99 := fun r r1 r2 => by
      have := ovm_b wD (r := r) (by omega)
      unfold ovS ovW
      split <;> split <;> omega
    have hn9 := brI_n h6 hI (fun r r1 r2 => (hs0 r r1 r2).1)
    refine a_ild4 eX10_brought_111 ?_
    refine a_iconst eX10_brought_113 ?_
    refine a_icmp_eq 134 eX10_brought_114 (by decide) (by omega) (fun hT114 => ?_) (fun hF114 => ?_)
    · skip
      exfalso; omega
    · skip
      refine a_iinc2 eX10_brought_117 (by decide) aw_n2i ?_
      refine a_ild3 eX10_brought_120 ?_
      refine a_ild4 eX10_brought_121 ?_
      refine a_iadd eX10_brought_123 ?_
      refine a_ist3 eX10_brought_124 (by decide) aw_n2i ?_
      refine a_ald0 eX10_brought_125 ?_
      refine a_cV0 eX10_brought_126 lk_X10_353 mV_X10_oneMore sh_171 ⟨_, rfl, rfl⟩ mt_X10_oneMore rfl rfl rfl rfl (c_X10_oneMore hR (cityM_O f1 hM) wC hx hI hs0 (fun σ2 f2 hx2 hI2 hE2 => ?_) (fun σ2 x2 μ2 f2 hx2 hI2 hμ2 => ?_))
      · skip
        dsimp only [Option.toList, List.cons_append, List.nil_append]
        refine a_ist4 eX10_brought_129 (by decide) aw_n2i ?_
        refine a_goto 111 eX10_brought_131 (by decide) ?_
        refine a_ild4 eX10_brought_111 ?_
        refine a_iconst eX10_brought_113 ?_
        refine a_icmp_eq 134 eX10_brought_114 (by decide) (by omega) (fun _ => ?_) (fun h => absurd h (by decide))
        refine a_ild1 eX10_brought_134 ?_
        refine a_if_ne 142 eX10_brought_135 (by decide) (by omega) (fun hT135 => ?_) (fun hF135 => ?_)
        · skip
          refine a_ild3 eX10_brought_142 ?_
          refine a_iret eX10_brought_143 rfl rfl ⟨Nat.zero_le _, Nat.zero_le _⟩ ?_
          exact hk σ2 _ (frO_tr f1 f2) (aw_mb (Or.inr (Or.inr ⟨⟨by omega, by omega⟩, _, _, _, _, hI2, aw_ub hE2⟩)))
        · skip
          refine a_ild2 eX10_brought_138 ?_
          refine a_goto 143 eX10_brought_139 (by decide) ?_
          refine a_iret eX10_brought_143 rfl rfl ⟨Nat.zero_le _, Nat.zero_le _⟩ ?_
          have hfin := br_fin h6 hI2 (aw_ub hE2)
          exact hk σ2 _ (frO_tr f1 f2) (aw_mb (Or.inr (Or.inl ⟨⟨by omega, by omega⟩, hfin.2.2.2.2.2⟩)))
      · skip
        dsimp only [Option.toList, List.cons_append, List.nil_append]
        refine a_ist4 eX10_brought_129 (by decide) aw_n2i ?_
        refine a_goto 111 eX10_brought_131 (by decide) ?_
        exact ih σ2 x2 (n1 + 1) (A + μ) μ2 (by omega) (frO_tr f1 f2) hx2 hI2 hμ2

set_option maxHeartbeats 4000000 in
set_option maxRecDepth 100000 in
theorem c_X10_brought {l : Launch} {σ : aw_S} {Post : Option Value → aw_S → Prop} {tw cs : Bool} (hR : σ.2.2 = RF tw cs) {m : mS} (hM : cityM σ m) (wC : wfCity m) {N w : Int} (hr : (-2147483648 ≤ w ∧ w ≤ 2147483647)) (hD : dayM σ m) (wD : wfDay m 0 N) (hk : ∀ σ' v, frO σ σ' → aw_bx (isbrM m w v) → Post (some (.int (jI v))) σ')  : AE l yX10_brought cX10_brought 5 (some .int) 2 45 0 0 SH SH σ [.ref 171, .int (jI w)] Post := by
  show AW l yX10_brought cX10_brought 5 (some .int) 2 45 0 0 SH Post SH 0 0 σ 0 [some (.ref 171), some (.int (jI w)), none, none, none] []
  have h6 := wC.1
  obtain ⟨c1, c2, -⟩ := id hM
  have hs0 : ∀ r : Int, 0 ≤ r → r < m 0 0 → ovS (ovm m) r ≤ 99 ∧ ovW (ovm m) r ≤ 99 := fun r r1 r2 => by
    have := ovm_b wD (r := r) (by omega)
    unfold ovS ovW
    split <;> split <;> omega
  refine a_ald0 eX10_brought_0 ?_
  refine a_getI 14 eX10_brought_1 fl_X10_235 rfl rfl sh_171 ?_
  refine a_eqtop (y0 := m 0 0) (by exact c1) ?_
  refine a_if_eq 16 eX10_brought_4 (by decide) (by omega) (fun hT4 => ?_) (fun hF4 => ?_)
  · skip
    refine a_iconst eX10_brought_16 ?_
    refine a_iret eX10_brought_17 rfl rfl ⟨Nat.zero_le _, Nat.zero_le _⟩ ?_
    exact hk σ _ (frO_rf σ) (aw_mb (Or.inl ⟨by omega, rfl⟩))
  · skip
    refine a_ild1 eX10_brought_7 ?_
    refine a_iconst eX10_brought_8 ?_
    refine a_iconst eX10_brought_9 ?_
    refine a_cS3 eX10_brought_10 lk_X10_128 mS_X10_in mt_X10_in rfl rfl rfl rfl rfl rfl rfl (c_X10_in (by omega) (fun hT10 => ?_) (fun hF10 => ?_))
    · skip
      dsimp only [Option.toList, List.cons_append, List.nil_append]
      refine a_if_ne 18 eX10_brought_13 (by decide) (by omega) (fun _ => ?_) (fun h => absurd h (by decide))
      refine a_iconst eX10_brought_18 ?_
      refine a_ist2 eX10_brought_19 (by decide) aw_n2i ?_
      refine lp_bg1 hR hM wC hr hD wD (fun σ3 l2 f3 hs3 => ?_) _ 0 σ (Nat.le_refl _) (by omega) (frO_rf σ) (fun r r1 r2 => by omega)
      have hR3 : σ3.2.2 = RF tw cs := by rw [f3.2]; exact hR
      refine a_iconst eX10_brought_80 ?_
      refine a_ist2 eX10_brought_81 (by decide) aw_n2i ?_
      refine lp_bg2 hR3 (fun σ4 l2 f4 hx4 => ?_) _ 0 σ3 (Nat.le_refl _) (by omega) ⟨fun _ _ _ => rfl, rfl⟩ (fun j j1 j2 => by omega)
      have hR4 : σ4.2.2 = RF tw cs := by rw [f4.2]; exact hR3
      have f34 : frO σ σ4 := frO_tr f3 ⟨fun b j q => f4.1 b j (by omega), f4.2⟩
      have hI4 := brI_0 (sp := σ4.1 203) (wa := σ4.1 204) h6 (fun r r1 r2 => by rw [f4.1 203 r (by omega), f4.1 204 r (by omega)]; exact hs3 r r1 r2)
      refine a_iconst eX10_brought_101 ?_
      refine a_ist2 eX10_brought_102 (by decide) aw_n2i ?_
      refine a_iconst eX10_brought_103 ?_
      refine a_ist3 eX10_brought_104 (by decide) aw_n2i ?_
      refine a_ald0 eX10_brought_105 ?_
      refine a_cV0 eX10_brought_106 lk_X10_353 mV_X10_oneMore sh_171 ⟨_, rfl, rfl⟩ mt_X10_oneMore rfl rfl rfl rfl (c_X10_oneMore hR4 (cityM_O f34 hM) wC hx4 hI4 hs0 (fun σ2 f2 hx2 hI2 hE2 => ?_) (fun σ2 x2 μ2 f2 hx2 hI2 hμ2 => ?_))
      · skip
        dsimp only [Option.toList, List.cons_append, List.nil_append]
        refine a_ist4 eX10_brought_109 (by decide) aw_n2i ?_
        refine a_ild4 eX10_brought_111 ?_
        refine a_iconst eX10_brought_113 ?_
        refine a_icmp_eq 134 eX10_brought_114 (by decide) (by omega) (fun _ => ?_) (fun h => absurd h (by decide))
        refine a_ild1 eX10_brought_134 ?_
        refine a_if_ne 142 eX10_brought_135 (by decide) (by omega) (fun hT135 => ?_) (fun hF135 => ?_)
        · skip
          refine a_ild3 eX10_brought_142 ?_
          refine a_iret eX10_brought_143 rfl rfl ⟨Nat.zero_le _, Nat.zero_le _⟩ ?_
          exact hk σ2 _ (frO_tr f34 f2) (aw_mb (Or.inr (Or.inr ⟨⟨by omega, by omega⟩, _, _, _, _, hI2, aw_ub hE2⟩)))
        · skip
          refine a_ild2 eX10_brought_138 ?_
          refine a_goto 143 eX10_brought_139 (by decide) ?_
          refine a_iret eX10_brought_143 rfl rfl ⟨Nat.zero_le _, Nat.zero_le _⟩ ?_
          have hfin := br_fin h6 hI2 (aw_ub hE2)
          exact hk σ2 _ (frO_tr f34 f2) (aw_mb (Or.inr (Or.inl ⟨⟨by omega, by omega⟩, hfin.2.2.2.2.2⟩)))
      · skip
        dsimp only [Option.toList, List.cons_append, List.nil_append]
        refine a_ist4 eX10_brought_109 (by decide) aw_n2i ?_
        exact lp_bg hR hM wC hr hD wD hk ⟨by omega, by omega⟩ _ σ2 x2 0 0 μ2 (Nat.le_refl _) (frO_tr f34 f2) hx2 hI2 hμ2
    · skip
      dsimp only [Option.toList, List.cons_append, List.nil_append]
      refine a_if_ne 18 eX10_brought_13 (by decide) (by omega) (fun h => absurd h (by decide)) (fun _ => ?_)
      refine a_iconst eX10_brought_16 ?_
      refine a_iret eX10_brought_17 rfl rfl ⟨Nat.zero_le _, Nat.zero_le _⟩ ?_
      exact hk σ _ (frO_rf σ) (aw_mb (Or.inl ⟨by omega, rfl⟩))
