/-! ===== cabs brought: the class ===== -/
theorem s6_s {f : Int → Int} {i : Int} (h : 0 ≤ i) : s6 f (i + 1).toNat = s6 f i.toNat + f i := by
  rw [show (i + 1).toNat = i.toNat + 1 by omega]
  show s6 f i.toNat + f ((i.toNat : Nat) : Int) = _
  rw [Int.toNat_of_nonneg h]
def frG (σ σ' : aw_S) : Prop := (∀ (a : Nat) (j : Int), a ≠ 58 → a ≠ 59 → ¬ (a = 57 ∧ (j = 2 ∨ j = 3)) → σ'.1 a j = σ.1 a j) ∧ σ'.2 = σ.2
def frL (σ σ' : aw_S) : Prop := (∀ (a : Nat) (j : Int), a ≠ 60 → a ≠ 61 → σ'.1 a j = σ.1 a j) ∧ σ'.2.1 = σ.2.1
def frN (σ σ' : aw_S) : Prop := (∀ (a : Nat) (j : Int), ¬ (57 ≤ a ∧ a ≤ 61) → σ'.1 a j = σ.1 a j) ∧ σ'.2.1 = σ.2.1
theorem ovm_b {m : mS} {N r : Int} (wD : wfDay m 0 N) (hr : 0 ≤ r ∧ r < 6) : -20 ≤ ovm m r ∧ ovm m r ≤ 16 := by
  have := (wfDay_0 wD).2.2.2.1 r hr.1 hr.2
  unfold ovm
  omega
theorem ovS_b {ov : Int → Int} : ∀ k : Nat, (∀ r : Int, 0 ≤ r → r < (k : Int) → -20 ≤ ov r ∧ ov r ≤ 20) → (0 ≤ s6 (ovS ov) k ∧ s6 (ovS ov) k ≤ 20 * (k : Int)) ∧ (0 ≤ s6 (ovW ov) k ∧ s6 (ovW ov) k ≤ 20 * (k : Int))
  | 0, _ => by
    show ((0 : Int) ≤ 0 ∧ (0 : Int) ≤ 20 * ((0 : Nat) : Int)) ∧ ((0 : Int) ≤ 0 ∧ (0 : Int) ≤ 20 * ((0 : Nat) : Int))
    omega
  | k + 1, h => by
    have ih := ovS_b k (fun r r1 r2 => h r r1 (by omega))
    have hk := h (k : Int) (by omega) (by omega)
    show (0 ≤ s6 (ovS ov) k + ovS ov (k : Int) ∧ s6 (ovS ov) k + ovS ov (k : Int) ≤ _) ∧ (0 ≤ s6 (ovW ov) k + ovW ov (k : Int) ∧ s6 (ovW ov) k + ovW ov (k : Int) ≤ _)
    unfold ovS ovW at ih ⊢
    split <;> split <;> omega
theorem pbl_i {p : Int → Int} {v : Int} : ∀ k : Nat, 0 ≤ s6 (fun r => if p r < v then 1 else 0) k ∧ s6 (fun r => if p r < v then 1 else 0) k ≤ (k : Int)
  | 0 => by
    show (0 : Int) ≤ 0 ∧ (0 : Int) ≤ ((0 : Nat) : Int)
    omega
  | k + 1 => by
    have ih := pbl_i (p := p) (v := v) k
    show 0 ≤ s6 (fun r => if p r < v then 1 else 0) k + (if p (k : Int) < v then 1 else 0) ∧ s6 (fun r => if p r < v then 1 else 0) k + (if p (k : Int) < v then 1 else 0) ≤ _
    split <;> omega
set_option maxHeartbeats 4000000 in
set_option maxRecDepth 100000 in
theorem lp_pbl {l : Launch} {σ : aw_S} {Post : Option Value → aw_S → Prop} {a : Nat} (ha : isCity a) {tw cs : Bool} (hR : σ.2.2 = RF tw cs) {m : mS} (hC : cityC σ a m) (wC : wfCity m) {p : Int} (hp : 0 ≤ p ∧ p ≤ 99) (hk : Post (some (.int (jI (pbl (m 1) (m 0 0) p)))) σ)  : ∀ (n : Nat) (i : Int), ((m 0 0 - i).toNat ≤ n) → (0 ≤ i ∧ i ≤ m 0 0) → AW l yX1_placesBelow cX1_placesBelow 4 (some .int) 0 0 0 0 SH Post SH 0 0 (σ) 4 [some (.ref a), some (.int (jI p)), some (.int (jI (s6 (fun r => if m 1 r < p then 1 else 0) i.toNat))), some (.int (jI i))] [] := by
  intro n
  induction n with
  | zero =>
    intro i hm hi
    obtain ⟨c1, c2, c3, c4, c5, c6, c7, c8⟩ := id hC
    obtain ⟨y1, y2, y3, y4, y5, y6, y7, y8⟩ := id wC
    have ha2 : a ≤ 13 := by rcases ha with rfl | rfl <;> omega
    have hbb := pbl_i (p := m 1) (v := p) i.toNat
    have c2i : i < m 0 0 → σ.1 (a + 1) i = m 1 i ∧ (0 ≤ m 1 i ∧ m 1 i ≤ 99) := fun h => ⟨(c2 i (by omega) h).1, (y2 i (by omega) h).1⟩
    refine a_ild3 eX1_placesBelow_4 ?_
    refine a_ald0 eX1_placesBelow_5 ?_
    refine a_getI 0 eX1_placesBelow_6 fl_X1_31 rfl rfl (sh_city ha) ?_
    refine a_eqtop (y0 := m 0 0) (by exact c1) ?_
    refine a_icmp_ge 31 eX1_placesBelow_9 (by decide) (by omega) (fun hT9 => ?_) (fun hF9 => ?_)
    · skip
      refine a_ild2 eX1_placesBelow_31 ?_
      refine a_iret eX1_placesBelow_32 rfl rfl ⟨Nat.zero_le _, Nat.zero_le _⟩ ?_
      unfold pbl at hk
      rw [show (m 0 0) = i by omega] at hk
      exact hk
    · skip
      exfalso; omega
  | succ n ih =>
    intro i hm hi
    obtain ⟨c1, c2, c3, c4, c5, c6, c7, c8⟩ := id hC
    obtain ⟨y1, y2, y3, y4, y5, y6, y7, y8⟩ := id wC
    have ha2 : a ≤ 13 := by rcases ha with rfl | rfl <;> omega
    have hbb := pbl_i (p := m 1) (v := p) i.toNat
    have c2i : i < m 0 0 → σ.1 (a + 1) i = m 1 i ∧ (0 ≤ m 1 i ∧ m 1 i ≤ 99) := fun h => ⟨(c2 i (by omega) h).1, (y2 i (by omega) h).1⟩
    refine a_ild3 eX1_placesBelow_4 ?_
    refine a_ald0 eX1_placesBelow_5 ?_
    refine a_getI 0 eX1_placesBelow_6 fl_X1_31 rfl rfl (sh_city ha) ?_
    refine a_eqtop (y0 := m 0 0) (by exact c1) ?_
    refine a_icmp_ge 31 eX1_placesBelow_9 (by decide) (by omega) (fun hT9 => ?_) (fun hF9 => ?_)
    · skip
      refine a_ild2 eX1_placesBelow_31 ?_
      refine a_iret eX1_placesBelow_32 rfl rfl ⟨Nat.zero_le _, Nat.zero_le _⟩ ?_
      unfold pbl at hk
      rw [show (m 0 0) = i by omega] at hk
      exact hk
    · skip
      have c2i := c2i (by omega)
      refine a_ald0 eX1_placesBelow_12 ?_
      refine a_getR 1 (a + 1) eX1_placesBelow_13 fl_X1_50 rfl rfl (sh_city ha) ((congrFun (congrFun hR _) _).trans (rf_city_1 ha)) ?_
      refine a_ild3 eX1_placesBelow_16 ?_
      refine a_iald eX1_placesBelow_17 (sh_city_1 ha) rfl (by omega) ?_
      refine a_eqtop (y0 := m 1 i) (by exact c2i.1) ?_
      refine a_ild1 eX1_placesBelow_18 ?_
      refine a_icmp_ge 25 eX1_placesBelow_19 (by decide) (by omega) (fun hT19 => ?_) (fun hF19 => ?_)
      · skip
        refine a_iinc3 eX1_placesBelow_25 (by decide) aw_n2i ?_
        refine a_goto 4 eX1_placesBelow_28 (by decide) ?_
        have e9 := s6_s (f := fun r => if m 1 r < p then 1 else 0) hi.1
        simp only [if_neg (show ¬ m 1 i < p by omega), Int.add_zero] at e9
        rw [← e9]
        exact ih (i + 1) (by omega) (by omega)
      · skip
        refine a_iinc2 eX1_placesBelow_22 (by decide) aw_n2i ?_
        refine a_iinc3 eX1_placesBelow_25 (by decide) aw_n2i ?_
        refine a_goto 4 eX1_placesBelow_28 (by decide) ?_
        have e9 := s6_s (f := fun r => if m 1 r < p then 1 else 0) hi.1
        simp only [if_pos (show m 1 i < p by omega)] at e9
        rw [← e9]
        exact ih (i + 1) (by omega) (by omega)

set_option maxHeartbeats 4000000 in
set_option maxRecDepth 100000 in
theorem c_X1_placesBelow {l : Launch} {σ : aw_S} {Post : Option Value → aw_S → Prop} {a : Nat} (ha : isCity a) {tw cs : Bool} (hR : σ.2.2 = RF tw cs) {m : mS} (hC : cityC σ a m) (wC : wfCity m) {p : Int} (hp : 0 ≤ p ∧ p ≤ 99) (hk : Post (some (.int (jI (pbl (m 1) (m 0 0) p)))) σ)  : AE l yX1_placesBelow cX1_placesBelow 4 (some .int) 0 0 0 0 SH SH σ [.ref a, .int (jI p)] Post := by
  show AW l yX1_placesBelow cX1_placesBelow 4 (some .int) 0 0 0 0 SH Post SH 0 0 σ 0 [some (.ref a), some (.int (jI p)), none, none] []
  have y1 := wC.1
  refine a_iconst eX1_placesBelow_0 ?_
  refine a_ist2 eX1_placesBelow_1 (by decide) aw_n2i ?_
  refine a_iconst eX1_placesBelow_2 ?_
  refine a_ist3 eX1_placesBelow_3 (by decide) aw_n2i ?_
  exact lp_pbl ha hR hC wC hp hk _ 0 (Nat.le_refl _) (by omega)

set_option maxHeartbeats 4000000 in
set_option maxRecDepth 100000 in
theorem lp_weigh {l : Launch} {σ : aw_S} {Post : Option Value → aw_S → Prop} {a : Nat} (ha : isCity a) {tw cs : Bool} (hR : σ.2.2 = RF tw cs) {N : Int} {m : mS} (hC : cityC σ a m) (wC : wfCity m) (hD : dayC σ 21 0 m) (wD : wfDay m 0 N) (hk : ∀ σ', frG σ σ' → (∀ r : Int, 0 ≤ r → r < m 0 0 → σ'.1 58 r = ovm m r) → σ'.1 57 2 = s6 (ovS (ovm m)) (m 0 0).toNat → σ'.1 57 3 = s6 (ovW (ovm m)) (m 0 0).toNat → ordOK (m 1) (m 0 0) (σ'.1 59) → Post none σ')  : ∀ (n : Nat) (i : Int) (σ1 : aw_S), ((m 0 0 - i).toNat ≤ n) → (0 ≤ i ∧ i ≤ m 0 0) → (frG σ σ1) → ((∀ r : Int, 0 ≤ r → r < i → σ1.1 58 r = ovm m r)) → (σ1.1 57 2 = s6 (ovS (ovm m)) i.toNat) → (σ1.1 57 3 = s6 (ovW (ovm m)) i.toNat) → ((∀ r : Int, 0 ≤ r → r < i → σ1.1 59 (pbl (m 1) (m 0 0) (m 1 r)) = r)) → AW l yX1_weigh cX1_weigh 4 (none : Option Jvm.ClassFile.FieldType) 1 23 0 0 SH Post SH 0 0 (σ1) 12 [some (.ref 57), some (.ref a), some (.ref 21), some (.int (jI i))] [] := by
  intro n
  induction n with
  | zero =>
    intro i σ1 hm hi f1 hO hS hW hOr
    obtain ⟨c1, c2, c3, c4, c5, c6, c7, c8⟩ := id hC
    obtain ⟨y1, y2, y3, y4, y5, y6, y7, y8⟩ := id wC
    have ha2 : a ≤ 13 := by rcases ha with rfl | rfl <;> omega
    obtain ⟨d1, d2, d3, d4, -⟩ := id hD
    simp only [Int.zero_add] at d4
    have hR : σ1.2.2 = RF tw cs := by rw [f1.2]; exact hR
    have hC1 : cityC σ1 a m := cityC_lo ha (fun b j q => f1.1 b j (by omega) (by omega) (by omega)) hC
    have e0 : σ1.1 a 0 = m 0 0 := hC1.1
    have hsb := ovS_b (ov := ovm m) i.toNat (fun r r1 r2 => by have := ovm_b wD (r := r) (by omega); omega)
    have hov : i < m 0 0 → (-20 ≤ ovm m i ∧ ovm m i ≤ 16) ∧ (σ1.1 30 i = m 10 i ∧ σ1.1 31 i = m 11 i) ∧ (σ1.1 (a + 1) i = m 1 i ∧ (0 ≤ m 1 i ∧ m 1 i ≤ 99)) ∧ (0 ≤ pbl (m 1) (m 0 0) (m 1 i) ∧ pbl (m 1) (m 0 0) (m 1 i) < m 0 0) := fun h => ⟨ovm_b wD (by omega), ⟨(f1.1 _ _ (by omega) (by omega) (by omega)).trans (d4 i (by omega) (by omega)).1, (f1.1 _ _ (by omega) (by omega) (by omega)).trans (d4 i (by omega) (by omega)).2⟩, ⟨(hC1.2.1 i (by omega) h).1, (y2 i (by omega) h).1⟩, pbl_b (by omega)⟩
    refine a_ild3 eX1_weigh_12 ?_
    refine a_ald1 eX1_weigh_13 ?_
    refine a_getI 0 eX1_weigh_14 fl_X1_31 rfl rfl (sh_city ha) ?_
    refine a_eqtop (y0 := m 0 0) (by exact e0) ?_
    refine a_icmp_ge 100 eX1_weigh_17 (by decide) (by omega) (fun hT17 => ?_) (fun hF17 => ?_)
    · skip
      refine a_vret eX1_weigh_100 rfl rfl ⟨Nat.zero_le _, Nat.zero_le _⟩ ?_
      have ei : i = m 0 0 := by omega
      rw [ei] at hO hS hW hOr
      exact hk σ1 f1 hO hS hW hOr
    · skip
      exfalso; omega
  | succ n ih =>
    intro i σ1 hm hi f1 hO hS hW hOr
    obtain ⟨c1, c2, c3, c4, c5, c6, c7, c8⟩ := id hC
    obtain ⟨y1, y2, y3, y4, y5, y6, y7, y8⟩ := id wC
    have ha2 : a ≤ 13 := by rcases ha with rfl | rfl <;> omega
    obtain ⟨d1, d2, d3, d4, -⟩ := id hD
    simp only [Int.zero_add] at d4
    have hR : σ1.2.2 = RF tw cs := by rw [f1.2]; exact hR
    have hC1 : cityC σ1 a m := cityC_lo ha (fun b j q => f1.1 b j (by omega) (by omega) (by omega)) hC
    have e0 : σ1.1 a 0 = m 0 0 := hC1.1
    have hsb := ovS_b (ov := ovm m) i.toNat (fun r r1 r2 => by have := ovm_b wD (r := r) (by omega); omega)
    have hov : i < m 0 0 → (-20 ≤ ovm m i ∧ ovm m i ≤ 16) ∧ (σ1.1 30 i = m 10 i ∧ σ1.1 31 i = m 11 i) ∧ (σ1.1 (a + 1) i = m 1 i ∧ (0 ≤ m 1 i ∧ m 1 i ≤ 99)) ∧ (0 ≤ pbl (m 1) (m 0 0) (m 1 i) ∧ pbl (m 1) (m 0 0) (m 1 i) < m 0 0) := fun h => ⟨ovm_b wD (by omega), ⟨(f1.1 _ _ (by omega) (by omega) (by omega)).trans (d4 i (by omega) (by omega)).1, (f1.1 _ _ (by omega) (by omega) (by omega)).trans (d4 i (by omega) (by omega)).2⟩, ⟨(hC1.2.1 i (by omega) h).1, (y2 i (by omega) h).1⟩, pbl_b (by omega)⟩
    refine a_ild3 eX1_weigh_12 ?_
    refine a_ald1 eX1_weigh_13 ?_
    refine a_getI 0 eX1_weigh_14 fl_X1_31 rfl rfl (sh_city ha) ?_
    refine a_eqtop (y0 := m 0 0) (by exact e0) ?_
    refine a_icmp_ge 100 eX1_weigh_17 (by decide) (by omega) (fun hT17 => ?_) (fun hF17 => ?_)
    · skip
      refine a_vret eX1_weigh_100 rfl rfl ⟨Nat.zero_le _, Nat.zero_le _⟩ ?_
      have ei : i = m 0 0 := by omega
      rw [ei] at hO hS hW hOr
      exact hk σ1 f1 hO hS hW hOr
    · skip
      obtain ⟨hv1, ⟨hv2, hv3⟩, hv4, hv5⟩ := hov (by omega)
      refine a_ald0 eX1_weigh_20 ?_
      refine a_getR 0 58 eX1_weigh_21 fl_X1_9 rfl rfl sh_57 ((congrFun (congrFun hR _) _).trans rf_57_0) ?_
      refine a_ild3 eX1_weigh_24 ?_
      refine a_ald2 eX1_weigh_25 ?_
      refine a_getR 4 (21 + 9) eX1_weigh_26 fl_X1_36 rfl rfl (sh_day (Or.inl rfl)) ((congrFun (congrFun hR _) _).trans (rf_day_4 (Or.inl rfl))) ?_
      refine a_ild3 eX1_weigh_29 ?_
      refine a_iald eX1_weigh_30 (sh_day_9 (Or.inl rfl)) rfl (by omega) ?_
      refine a_ald2 eX1_weigh_31 ?_
      refine a_getR 5 (21 + 10) eX1_weigh_32 fl_X1_41 rfl rfl (sh_day (Or.inl rfl)) ((congrFun (congrFun hR _) _).trans (rf_day_5 (Or.inl rfl))) ?_
      refine a_ild3 eX1_weigh_35 ?_
      refine a_iald eX1_weigh_36 (sh_day_10 (Or.inl rfl)) rfl (by omega) ?_
      refine a_isub eX1_weigh_37 ?_
      refine a_eqtop (y0 := ovm m i) (by unfold ovm; rw [← hv2, ← hv3]) ?_
      refine a_iast eX1_weigh_38 sh_58 rfl (by omega) ?_
      refine a_ald0 eX1_weigh_39 ?_
      refine a_dup eX1_weigh_40 rfl ?_
      refine a_getI 2 eX1_weigh_41 fl_X1_24 rfl rfl sh_57 ?_
      refine a_ald0 eX1_weigh_44 ?_
      refine a_getR 0 58 eX1_weigh_45 fl_X1_9 rfl rfl sh_57 ((congrFun (congrFun hR _) _).trans rf_57_0) ?_
      refine a_ild3 eX1_weigh_48 ?_
      refine a_iald eX1_weigh_49 sh_58 rfl (by omega) ?_
      refine a_eqtop (y0 := ovm m i) (by exact rd_si_eq) ?_
      refine a_iconst eX1_weigh_50 ?_
      refine a_mmax eX1_weigh_51 lk_X1_44 (by omega) rfl rfl ?_
      refine a_iadd eX1_weigh_54 ?_
      refine a_eqtop (y0 := s6 (ovS (ovm m)) i.toNat + ovS (ovm m) i) (by rw [rd_si_ne (by omega), hS]; unfold ovS; split <;> split <;> omega) ?_
      refine a_putI 2 eX1_weigh_55 fl_X1_24 rfl rfl sh_57 (fun q h => Or.inl (by cases h; rfl)) ?_
      refine a_ald0 eX1_weigh_58 ?_
      refine a_dup eX1_weigh_59 rfl ?_
      refine a_getI 3 eX1_weigh_60 fl_X1_28 rfl rfl sh_57 ?_
      refine a_ald0 eX1_weigh_63 ?_
      refine a_getR 0 58 eX1_weigh_64 fl_X1_9 rfl rfl sh_57 ((congrFun (congrFun hR _) _).trans rf_57_0) ?_
      refine a_ild3 eX1_weigh_67 ?_
      refine a_iald eX1_weigh_68 sh_58 rfl (by omega) ?_
      refine a_eqtop (y0 := ovm m i) (by rw [rd_si_ne (by omega)]; exact rd_si_eq) ?_
      refine a_ineg eX1_weigh_69 ?_
      refine a_iconst eX1_weigh_70 ?_
      refine a_mmax eX1_weigh_71 lk_X1_44 (by omega) rfl rfl ?_
      refine a_iadd eX1_weigh_74 ?_
      refine a_eqtop (y0 := s6 (ovW (ovm m)) i.toNat + ovW (ovm m) i) (by rw [rd_si_ni (by omega), rd_si_ne (by omega), hW]; unfold ovW; split <;> split <;> omega) ?_
      refine a_putI 3 eX1_weigh_75 fl_X1_28 rfl rfl sh_57 (fun q h => Or.inl (by cases h; rfl)) ?_
      refine a_ald0 eX1_weigh_78 ?_
      refine a_getR 1 59 eX1_weigh_79 fl_X1_15 rfl rfl sh_57 ((congrFun (congrFun hR _) _).trans rf_57_1) ?_
      refine a_ald1 eX1_weigh_82 ?_
      refine a_ald1 eX1_weigh_83 ?_
      refine a_getR 1 (a + 1) eX1_weigh_84 fl_X1_50 rfl rfl (sh_city ha) ((congrFun (congrFun hR _) _).trans (rf_city_1 ha)) ?_
      refine a_ild3 eX1_weigh_87 ?_
      refine a_iald eX1_weigh_88 (sh_city_1 ha) rfl (by omega) ?_
      refine a_eqtop (y0 := m 1 i) (by rw [rd_si_ne (by omega), rd_si_ne (by omega), rd_si_ne (by omega)]; exact hv4.1) ?_
      refine a_cS2 eX1_weigh_89 lk_X1_53 mS_X1_placesBelow mt_X1_placesBelow rfl rfl rfl rfl rfl rfl (c_X1_placesBelow ha (by exact hR) (cityC_lo ha (fun b j q => by simp only [rd_si]; (repeat rw [if_neg (by omega)])) hC1) wC (by omega) ?_)
      dsimp only [Option.toList, List.cons_append, List.nil_append]
      refine a_ild3 eX1_weigh_92 ?_
      refine a_iast eX1_weigh_93 sh_59 rfl (by omega) ?_
      refine a_iinc3 eX1_weigh_94 (by decide) aw_n2r ?_
      refine a_goto 12 eX1_weigh_97 (by decide) ?_
      have eS := s6_s (f := ovS (ovm m)) hi.1
      have eW := s6_s (f := ovW (ovm m)) hi.1
      refine ih (i + 1) _ (by omega) (by omega) ⟨fun b j q1 q2 q3 => ?_, f1.2⟩ (fun r r1 r2 => ?_) ?_ ?_ (fun r r1 r2 => ?_)
      · simp only [rd_si]
        (repeat rw [if_neg (by omega)])
        exact f1.1 b j q1 q2 q3
      · rw [rd_si_ne (by omega), rd_si_ne (by omega), rd_si_ne (by omega)]
        by_cases q : r = i
        · subst q
          rw [rd_si_eq]
        · rw [rd_si_ni q]
          exact hO r r1 (by omega)
      · rw [eS, rd_si_ne (by omega), rd_si_ni (by omega), rd_si_eq]
      · rw [eW, rd_si_ne (by omega), rd_si_eq]
      · by_cases q : r = i
        · subst q
          exact rd_si_eq
        · have hne : pbl (m 1) (m 0 0) (m 1 r) ≠ pbl (m 1) (m 0 0) (m 1 i) := fun z => q (pbl_inj y3 (by omega) (by omega) z)
          rw [rd_si_ni hne, rd_si_ne (by omega), rd_si_ne (by omega), rd_si_ne (by omega)]
          exact hOr r r1 (by omega)

set_option maxHeartbeats 4000000 in
set_option maxRecDepth 100000 in
theorem c_X1_weigh {l : Launch} {σ : aw_S} {Post : Option Value → aw_S → Prop} {a : Nat} (ha : isCity a) {tw cs : Bool} (hR : σ.2.2 = RF tw cs) {N : Int} {m : mS} (hC : cityC σ a m) (wC : wfCity m) (hD : dayC σ 21 0 m) (wD : wfDay m 0 N) (hk : ∀ σ', frG σ σ' → (∀ r : Int, 0 ≤ r → r < m 0 0 → σ'.1 58 r = ovm m r) → σ'.1 57 2 = s6 (ovS (ovm m)) (m 0 0).toNat → σ'.1 57 3 = s6 (ovW (ovm m)) (m 0 0).toNat → ordOK (m 1) (m 0 0) (σ'.1 59) → Post none σ')  : AE l yX1_weigh cX1_weigh 4 (none : Option Jvm.ClassFile.FieldType) 1 23 0 0 SH SH σ [.ref 57, .ref a, .ref 21] Post := by
  show AW l yX1_weigh cX1_weigh 4 (none : Option Jvm.ClassFile.FieldType) 1 23 0 0 SH Post SH 0 0 σ 0 [some (.ref 57), some (.ref a), some (.ref 21), none] []
  have y1 := wC.1
  have ha2 : a ≤ 13 := by rcases ha with rfl | rfl <;> omega
  refine a_ald0 eX1_weigh_0 ?_
  refine a_iconst eX1_weigh_1 ?_
  refine a_putI 2 eX1_weigh_2 fl_X1_24 rfl rfl sh_57 (fun q h => Or.inl (by cases h; rfl)) ?_
  refine a_ald0 eX1_weigh_5 ?_
  refine a_iconst eX1_weigh_6 ?_
  refine a_putI 3 eX1_weigh_7 fl_X1_28 rfl rfl sh_57 (fun q h => Or.inl (by cases h; rfl)) ?_
  refine a_iconst eX1_weigh_10 ?_
  refine a_ist3 eX1_weigh_11 (by decide) aw_n2r ?_
  refine lp_weigh ha hR hC wC hD wD hk _ 0 _ (Nat.le_refl _) (by omega) ⟨fun b j q1 q2 q3 => ?_, rfl⟩ (fun r r1 r2 => by omega) ?_ ?_ (fun r r1 r2 => by omega)
  · simp only [rd_si]
    (repeat rw [if_neg (by omega)])
  · rw [rd_si_ni (by omega), rd_si_eq]
    rfl
  · rw [rd_si_eq]
    rfl

set_option maxHeartbeats 4000000 in
set_option maxRecDepth 100000 in
theorem c_X1_moved {l : Launch} {σ : aw_S} {Post : Option Value → aw_S → Prop} {tw cs : Bool} (hR : σ.2.2 = RF tw cs) (hb : (0 ≤ σ.1 57 2 ∧ σ.1 57 2 ≤ 120) ∧ (0 ≤ σ.1 57 3 ∧ σ.1 57 3 ≤ 120)) (hk : Post (some (.int (jI (if σ.1 57 2 < σ.1 57 3 then σ.1 57 2 else σ.1 57 3)))) σ) : AE l yX1_moved cX1_moved 1 (some .int) 1 21 0 0 SH SH σ [.ref 57] Post := by
  show AW l yX1_moved cX1_moved 1 (some .int) 1 21 0 0 SH Post SH 0 0 σ 0 [some (.ref 57)] []
  refine a_ald0 eX1_moved_0 ?_
  refine a_getI 2 eX1_moved_1 fl_X1_24 rfl rfl sh_57 ?_
  refine a_ald0 eX1_moved_4 ?_
  refine a_getI 3 eX1_moved_5 fl_X1_28 rfl rfl sh_57 ?_
  refine a_mmin eX1_moved_8 lk_X1_57 (by omega) rfl rfl ?_
  refine a_iret eX1_moved_11 rfl rfl ⟨Nat.zero_le _, Nat.zero_le _⟩ ?_
  exact aw_ret hk (by split <;> split <;> omega)

theorem dpS_0 {c n : Int → Int} {s st : Int} : dpS c n s st 0 = n := funext (fun t => if_neg (by omega))
theorem dpS_n {c n : Int → Int} {s st K t : Int} (h : t ≠ K + s) : dpS c n s st (K + 1) t = dpS c n s st K t := by
  unfold dpS
  by_cases q : (0 ≤ t - s ∧ t - s < K ∧ 0 ≤ t ∧ t ≤ 32) ∧ c (t - s) < 1000000 ∧ c (t - s) + aw_ap t 16 * st < n t
  · rw [if_pos q, if_pos ⟨by omega, q.2⟩]
  · rw [if_neg q, if_neg (fun z => q ⟨by omega, z.2⟩)]
theorem dpS_o {c n : Int → Int} {s st K : Int} : dpS c n s st K (K + s) = n (K + s) := if_neg (fun z => by omega)
theorem dpS_y {c n : Int → Int} {s st K : Int} (h : 0 ≤ K ∧ (0 ≤ K + s ∧ K + s ≤ 32) ∧ c K < 1000000) : dpS c n s st (K + 1) (K + s) = if c K + aw_ap (K + s) 16 * st < n (K + s) then c K + aw_ap (K + s) 16 * st else n (K + s) := by
  unfold dpS
  rw [show K + s - s = K by omega]
  by_cases q : c K + aw_ap (K + s) 16 * st < n (K + s)
  · rw [if_pos q, if_pos ⟨by omega, h.2.2, q⟩]
  · rw [if_neg q, if_neg (fun z => q z.2.2)]
theorem dpS_x {c n : Int → Int} {s st K : Int} (h : ¬ ((0 ≤ K + s ∧ K + s ≤ 32) ∧ c K < 1000000)) : dpS c n s st (K + 1) (K + s) = n (K + s) := by
  unfold dpS
  rw [show K + s - s = K by omega]
  exact if_neg (fun z => h ⟨by omega, z.2.1⟩)
theorem dpS_cg {c c' n n' : Int → Int} {s st t : Int} (ht : 0 ≤ t ∧ t ≤ 32) (hc : ∀ u : Int, 0 ≤ u → u ≤ 32 → c u = c' u) (hn : n t = n' t) : dpS c n s st 33 t = dpS c' n' s st 33 t := by
  unfold dpS
  by_cases q : 0 ≤ t - s ∧ t - s < 33 ∧ 0 ≤ t ∧ t ≤ 32
  · rw [hc (t - s) q.1 (by omega), hn]
  · rw [if_neg (fun z => q z.1), if_neg (fun z => q z.1), hn]
theorem dpN_cg {c c' : Int → Int} {lo st : Int} (hc : ∀ u : Int, 0 ≤ u → u ≤ 32 → c u = c' u) : ∀ (j : Nat) (t : Int), (0 ≤ t ∧ t ≤ 32) → dpN c lo st j t = dpN c' lo st j t
  | 0, t, _ => rfl
  | j + 1, t, ht => dpS_cg ht hc (dpN_cg hc j t ht)
theorem apst {t st : Int} (ht : 0 ≤ t ∧ t ≤ 32) (hs : 0 ≤ st ∧ st ≤ 99) : 0 ≤ aw_ap t 16 * st ∧ aw_ap t 16 * st ≤ 1584 := by
  have h : 0 ≤ aw_ap t 16 ∧ aw_ap t 16 ≤ 16 := by unfold aw_ap; split <;> omega
  have h1 : 0 ≤ aw_ap t 16 * st := Int.mul_nonneg h.1 hs.1
  have h2 : aw_ap t 16 * st ≤ 16 * st := Int.mul_le_mul_of_nonneg_right h.2 hs.1
  omega
theorem dpS_b {c n : Int → Int} {s st K t : Int} (hs : 0 ≤ st ∧ st ≤ 99) (hc : ∀ u : Int, 0 ≤ u → u ≤ 32 → 0 ≤ c u) (hn : 0 ≤ n t ∧ n t ≤ 1000000) (hK : K ≤ 33) : 0 ≤ dpS c n s st K t ∧ dpS c n s st K t ≤ 1000000 := by
  unfold dpS
  by_cases q : (0 ≤ t - s ∧ t - s < K ∧ 0 ≤ t ∧ t ≤ 32) ∧ c (t - s) < 1000000 ∧ c (t - s) + aw_ap t 16 * st < n t
  · rw [if_pos q]
    have h1 := apst (t := t) (by omega) hs
    have h2 := hc (t - s) (by omega) (by omega)
    omega
  · rw [if_neg q]; exact hn
theorem dpN_b {c : Int → Int} {lo st : Int} (hs : 0 ≤ st ∧ st ≤ 99) (hc : ∀ u : Int, 0 ≤ u → u ≤ 32 → 0 ≤ c u) : ∀ (j : Nat) (t : Int), 0 ≤ dpN c lo st j t ∧ dpN c lo st j t ≤ 1000000
  | 0, t => by
    show (0 : Int) ≤ 1000000 ∧ (1000000 : Int) ≤ 1000000
    omega
  | j + 1, t => dpS_b hs hc (dpN_b hs hc j t) (by omega)
theorem dpC_b {lo hi st : Int → Int} {R : Nat} (hs : ∀ k : Int, 0 ≤ k → k < (R : Int) → 0 ≤ st k ∧ st k ≤ 99) : ∀ (k : Nat) (t : Int), k ≤ R → 0 ≤ dpC lo hi st k t ∧ dpC lo hi st k t ≤ 1000000
  | 0, t, _ => by
    show 0 ≤ (if t = 16 then (0 : Int) else 1000000) ∧ (if t = 16 then (0 : Int) else 1000000) ≤ 1000000
    split <;> omega
  | k + 1, t, h => dpN_b (hs k (by omega) (by omega)) (fun u _ _ => (dpC_b hs k u (by omega)).1) _ t
/-- the two rows of costs -/
def isCs (cs : Bool) (u v : Nat) : Prop := (cs = false ∧ u = 60 ∧ v = 61) ∨ (cs = true ∧ u = 61 ∧ v = 60)
theorem cs_u {tw cs : Bool} {u v : Nat} (h : isCs cs u v) : RF tw cs 57 4 = some u := by rcases h with ⟨rfl, rfl, rfl⟩ | ⟨rfl, rfl, rfl⟩ <;> rfl
theorem cs_v {tw cs : Bool} {u v : Nat} (h : isCs cs u v) : RF tw cs 57 5 = some v := by rcases h with ⟨rfl, rfl, rfl⟩ | ⟨rfl, rfl, rfl⟩ <;> rfl
theorem cs_su {cs : Bool} {u v : Nat} (h : isCs cs u v) : SH[u]? = some (.inr (0, 33)) := by rcases h with ⟨rfl, rfl, rfl⟩ | ⟨rfl, rfl, rfl⟩ <;> rfl
theorem cs_sv {cs : Bool} {u v : Nat} (h : isCs cs u v) : SH[v]? = some (.inr (0, 33)) := by rcases h with ⟨rfl, rfl, rfl⟩ | ⟨rfl, rfl, rfl⟩ <;> rfl
theorem cs_n {cs : Bool} {u v : Nat} (h : isCs cs u v) : (u ≠ v ∧ (60 ≤ u ∧ u ≤ 61)) ∧ (60 ≤ v ∧ v ≤ 61) := by rcases h with ⟨rfl, rfl, rfl⟩ | ⟨rfl, rfl, rfl⟩ <;> omega
theorem cs_sw {cs : Bool} {u v : Nat} (h : isCs cs u v) : isCs (!cs) v u := by rcases h with ⟨rfl, rfl, rfl⟩ | ⟨rfl, rfl, rfl⟩ <;> simp [isCs]
theorem cs_ex (cs : Bool) : ∃ u v, isCs cs u v := by
  cases cs
  · exact ⟨60, 61, Or.inl ⟨rfl, rfl, rfl⟩⟩
  · exact ⟨61, 60, Or.inr ⟨rfl, rfl, rfl⟩⟩
theorem cs_rf {tw cs : Bool} {u v : Nat} (h : isCs cs u v) {σ : aw_S} (hR : σ.2.2 = RF tw cs) : (aw_sr (aw_sr σ 57 4 (some v)) 57 5 (some u)).2.2 = RF tw (!cs) := by
  funext b j
  show (if b = 57 ∧ j = 5 then some u else if b = 57 ∧ j = 4 then some v else σ.2.2 b j) = _
  rw [hR]
  unfold RF
  by_cases q5 : b = 57 ∧ j = 5
  · obtain ⟨rfl, rfl⟩ := q5
    rcases h with ⟨rfl, rfl, rfl⟩ | ⟨rfl, rfl, rfl⟩ <;> rfl
  · by_cases q4 : b = 57 ∧ j = 4
    · obtain ⟨rfl, rfl⟩ := q4
      rcases h with ⟨rfl, rfl, rfl⟩ | ⟨rfl, rfl, rfl⟩ <;> rfl
    · simp only [if_neg q5, if_neg q4]
set_option maxHeartbeats 4000000 in
set_option maxRecDepth 100000 in
theorem lp_send {l : Launch} {σ : aw_S} {Post : Option Value → aw_S → Prop} {tw cs : Bool} (hR : σ.2.2 = RF tw cs) {u v : Nat} (hcs : isCs cs u v) {s st : Int} (hs : -20 ≤ s ∧ s ≤ 20) (hst : 0 ≤ st ∧ st ≤ 99) (hb : ∀ t : Int, 0 ≤ t → t ≤ 32 → (0 ≤ σ.1 u t ∧ σ.1 u t ≤ 1000000) ∧ (0 ≤ σ.1 v t ∧ σ.1 v t ≤ 1000000)) (hk : ∀ σ', fr1 v σ σ' → (∀ t : Int, 0 ≤ t → t ≤ 32 → σ'.1 v t = dpS (σ.1 u) (σ.1 v) s st 33 t) → Post none σ')  : ∀ (n : Nat) (K : Int) (σ1 : aw_S) (l4 : Option Value) (l5 : Option Value), ((33 - K).toNat ≤ n) → (0 ≤ K ∧ K ≤ 33) → (fr1 v σ σ1) → (∀ t : Int, 0 ≤ t → t ≤ 32 → σ1.1 v t = dpS (σ.1 u) (σ.1 v) s st K t) → AW l yX1_send cX1_send 6 (none : Option Jvm.ClassFile.FieldType) 1 22 0 0 SH Post SH 0 0 (σ1) 2 [some (.ref 57), some (.int (jI s)), some (.int (jI st)), some (.int (jI K)), l4, l5] [] := by
  intro n
  induction n with
  | zero =>
    intro K σ1 l4 l5 hm hK f1 hd
    have hR : σ1.2.2 = RF tw cs := by rw [f1.2]; exact hR
    have hn := cs_n hcs
    have eu : ∀ t : Int, σ1.1 u t = σ.1 u t := fun t => f1.1 u t hn.1.1
    have hbK : K ≤ 32 → 0 ≤ σ.1 u K ∧ σ.1 u K ≤ 1000000 := fun h => (hb K (by omega) h).1
    refine a_ild3 eX1_send_2 ?_
    refine a_bipush eX1_send_3 (by decide) ?_
    refine a_icmp_ge 79 eX1_send_5 (by decide) (by omega) (fun hT5 => ?_) (fun hF5 => ?_)
    · skip
      refine a_vret eX1_send_79 rfl rfl ⟨Nat.zero_le _, Nat.zero_le _⟩ ?_
      exact hk σ1 f1 (fun t t1 t2 => by rw [show (33 : Int) = K by omega]; exact hd t t1 t2)
    · skip
      exfalso; omega
  | succ n ih =>
    intro K σ1 l4 l5 hm hK f1 hd
    have hR : σ1.2.2 = RF tw cs := by rw [f1.2]; exact hR
    have hn := cs_n hcs
    have eu : ∀ t : Int, σ1.1 u t = σ.1 u t := fun t => f1.1 u t hn.1.1
    have hbK : K ≤ 32 → 0 ≤ σ.1 u K ∧ σ.1 u K ≤ 1000000 := fun h => (hb K (by omega) h).1
    refine a_ild3 eX1_send_2 ?_
    refine a_bipush eX1_send_3 (by decide) ?_
    refine a_icmp_ge 79 eX1_send_5 (by decide) (by omega) (fun hT5 => ?_) (fun hF5 => ?_)
    · skip
      refine a_vret eX1_send_79 rfl rfl ⟨Nat.zero_le _, Nat.zero_le _⟩ ?_
      exact hk σ1 f1 (fun t t1 t2 => by rw [show (33 : Int) = K by omega]; exact hd t t1 t2)
    · skip
      have hbK := hbK (by omega)
      refine a_ild3 eX1_send_8 ?_
      refine a_ild1 eX1_send_9 ?_
      refine a_iadd eX1_send_10 ?_
      refine a_ist4 eX1_send_11 (by decide) aw_n2i ?_
      refine a_ald0 eX1_send_13 ?_
      refine a_getR 4 u eX1_send_14 fl_X1_18 rfl rfl sh_57 ((congrFun (congrFun hR _) _).trans (cs_u hcs)) ?_
      refine a_ild3 eX1_send_17 ?_
      refine a_iald eX1_send_18 (cs_su hcs) rfl (by omega) ?_
      refine a_eqtop (y0 := σ.1 u K) (by exact eu K) ?_
      refine a_ldc (1000000) (by decide) eX1_send_19 kc_X1_60 ?_
      refine a_icmp_ge 73 eX1_send_21 (by decide) (by omega) (fun hT21 => ?_) (fun hF21 => ?_)
      · skip
        refine a_iinc3 eX1_send_73 (by decide) aw_n2i ?_
        refine a_goto 2 eX1_send_76 (by decide) ?_
        refine ih (K + 1) _ _ _ (by omega) (by omega) f1 (fun t t1 t2 => ?_)
        by_cases q : t = K + s
        · subst q
          rw [dpS_x (by omega), ← dpS_o (c := σ.1 u) (n := σ.1 v) (st := st)]
          exact hd _ t1 t2
        · rw [dpS_n q]
          exact hd t t1 t2
      · skip
        refine a_ild4 eX1_send_24 ?_
        refine a_iconst eX1_send_26 ?_
        refine a_bipush eX1_send_27 (by decide) ?_
        refine a_cN3 eX1_send_29 ln_X1_71 mS_X9_within mt_X9_within rfl rfl rfl rfl rfl rfl rfl (c_X9_within (by omega) (fun hT29 => ?_) (fun hF29 => ?_))
        · skip
          dsimp only [Option.toList, List.cons_append, List.nil_append]
          refine a_if_eq 73 eX1_send_32 (by decide) (by omega) (fun h => absurd h (by decide)) (fun _ => ?_)
          have hap := apst (t := K + s) (st := st) (by omega) hst
          have hdt := hd (K + s) (by omega) (by omega)
          rw [dpS_o] at hdt
          have hbt := (hb (K + s) (by omega) (by omega)).2
          refine a_ald0 eX1_send_35 ?_
          refine a_getR 4 u eX1_send_36 fl_X1_18 rfl rfl sh_57 ((congrFun (congrFun hR _) _).trans (cs_u hcs)) ?_
          refine a_ild3 eX1_send_39 ?_
          refine a_iald eX1_send_40 (cs_su hcs) rfl (by omega) ?_
          refine a_eqtop (y0 := σ.1 u K) (by exact eu K) ?_
          refine a_ild4 eX1_send_41 ?_
          refine a_bipush eX1_send_43 (by decide) ?_
          refine a_isub eX1_send_45 ?_
          refine a_mabs eX1_send_46 lk_X1_75 (by omega) rfl rfl ?_
          refine a_eqtop (y0 := aw_ap (K + s) 16) (by unfold aw_ap; split <;> split <;> omega) ?_
          refine a_ild2 eX1_send_49 ?_
          refine a_imul eX1_send_50 ?_
          refine a_iadd eX1_send_51 ?_
          refine a_ist5 eX1_send_52 (by decide) aw_n2i ?_
          refine a_ald0 eX1_send_54 ?_
          refine a_getR 5 v eX1_send_55 fl_X1_21 rfl rfl sh_57 ((congrFun (congrFun hR _) _).trans (cs_v hcs)) ?_
          refine a_ild4 eX1_send_58 ?_
          refine a_ald0 eX1_send_60 ?_
          refine a_getR 5 v eX1_send_61 fl_X1_21 rfl rfl sh_57 ((congrFun (congrFun hR _) _).trans (cs_v hcs)) ?_
          refine a_ild4 eX1_send_64 ?_
          refine a_iald eX1_send_66 (cs_sv hcs) rfl (by omega) ?_
          refine a_eqtop (y0 := σ.1 v (K + s)) (by exact hdt) ?_
          refine a_ild5 eX1_send_67 ?_
          refine a_mmin eX1_send_69 lk_X1_57 (by omega) rfl rfl ?_
          refine a_iast eX1_send_72 (cs_sv hcs) rfl (by omega) ?_
          refine a_iinc3 eX1_send_73 (by decide) aw_n2i ?_
          refine a_goto 2 eX1_send_76 (by decide) ?_
          refine ih (K + 1) _ _ _ (by omega) (by omega) ⟨fun b j q => by rw [rd_si_ne q]; exact f1.1 b j q, f1.2⟩ (fun t t1 t2 => ?_)
          by_cases q : t = K + s
          · subst q
            rw [rd_si_eq, dpS_y ⟨by omega, by omega, by omega⟩]
          · rw [rd_si_ni q, dpS_n q]
            exact hd t t1 t2
        · skip
          dsimp only [Option.toList, List.cons_append, List.nil_append]
          refine a_if_eq 73 eX1_send_32 (by decide) (by omega) (fun _ => ?_) (fun h => absurd h (by decide))
          refine a_iinc3 eX1_send_73 (by decide) aw_n2i ?_
          refine a_goto 2 eX1_send_76 (by decide) ?_
          refine ih (K + 1) _ _ _ (by omega) (by omega) f1 (fun t t1 t2 => ?_)
          by_cases q : t = K + s
          · subst q
            rw [dpS_x (by omega), ← dpS_o (c := σ.1 u) (n := σ.1 v) (st := st)]
            exact hd _ t1 t2
          · rw [dpS_n q]
            exact hd t t1 t2

set_option maxHeartbeats 4000000 in
set_option maxRecDepth 100000 in
theorem c_X1_send {l : Launch} {σ : aw_S} {Post : Option Value → aw_S → Prop} {tw cs : Bool} (hR : σ.2.2 = RF tw cs) {u v : Nat} (hcs : isCs cs u v) {s st : Int} (hs : -20 ≤ s ∧ s ≤ 20) (hst : 0 ≤ st ∧ st ≤ 99) (hb : ∀ t : Int, 0 ≤ t → t ≤ 32 → (0 ≤ σ.1 u t ∧ σ.1 u t ≤ 1000000) ∧ (0 ≤ σ.1 v t ∧ σ.1 v t ≤ 1000000)) (hk : ∀ σ', fr1 v σ σ' → (∀ t : Int, 0 ≤ t → t ≤ 32 → σ'.1 v t = dpS (σ.1 u) (σ.1 v) s st 33 t) → Post none σ')  : AE l yX1_send cX1_send 6 (none : Option Jvm.ClassFile.FieldType) 1 22 0 0 SH SH σ [.ref 57, .int (jI s), .int (jI st)] Post := by
  show AW l yX1_send cX1_send 6 (none : Option Jvm.ClassFile.FieldType) 1 22 0 0 SH Post SH 0 0 σ 0 [some (.ref 57), some (.int (jI s)), some (.int (jI st)), none, none, none] []
  refine a_iconst eX1_send_0 ?_
  refine a_ist3 eX1_send_1 (by decide) aw_n2i ?_
  exact lp_send hR hcs hs hst hb hk _ 0 σ none none (Nat.le_refl _) (by omega) ⟨fun _ _ _ => rfl, rfl⟩ (fun t _ _ => by rw [dpS_0])
