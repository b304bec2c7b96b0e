/-- the greatest ring -/
def bst (m : mS) (S : Nat) : Prop := S < 65536 ∧ isHp (rkm m) (wsm m) S (m 0 4).toNat ∧ isRg (rkm m) (wsm m) S (m 0 4).toNat ∧ ∀ T : Nat, isHp (rkm m) (wsm m) T (m 0 4).toNat → isRg (rkm m) (wsm m) T (m 0 4).toNat → pop T ≤ pop S ∧ (pop T = pop S → S ≤ T)
theorem bst_u {m : mS} {S T : Nat} (h1 : bst m S) (h2 : bst m T) : S = T := by
  obtain ⟨-, a1, a2, a3⟩ := h1
  obtain ⟨-, b1, b2, b3⟩ := h2
  have x := a3 T b1 b2
  have y := b3 S a1 a2
  have e : pop T = pop S := by omega
  have := x.2 e
  have := y.2 e.symm
  omega
theorem hp_mod {rk ws : Nat → Int} {S n : Nat} (h : isHp rk ws S n) : S < 2 ^ n := Nat.lt_pow_two_of_testBit S (fun i hi => Bool.eq_false_iff.mpr (fun z => by have := (h i z).1; omega))
theorem bst_rg {m : mS} {N : Int} {S : Nat} (wC : wfCity m) (wD : wfDay m 0 N) (hS : S < 65536) (h : rgOK m S (m 0 4).toNat) : bst m S := by
  have v16 := (wfDay_0 wD).2.1
  have ok := rk_ok wC wD (n := (m 0 4).toNat) (by omega)
  obtain ⟨g1, g2, g3⟩ := h
  obtain ⟨f, g3⟩ := aw_ub g3
  refine ⟨hS, g1, g2, fun T t1 t2 => ?_⟩
  have ho := opt_le ok g3 g1 t1 g2 t2
  have hn : (m 0 4).toNat ≤ 16 := by omega
  generalize (m 0 4).toNat = n at *
  rw [sm_wt, sm_wt, Nat.mod_eq_of_lt (hp_mod g1), Nat.mod_eq_of_lt (hp_mod t1)] at ho
  have p1 := popN_lt (hp_mod g1) (16 - n)
  have p2 := popN_lt (hp_mod t1) (16 - n)
  rw [show n + (16 - n) = 16 by omega] at p1 p2
  have hT6 : T < 65536 := Nat.lt_of_lt_of_le (hp_mod t1) (Nat.pow_le_pow_right (n := 2) (by decide) hn)
  unfold pop
  rw [p1, p2]
  omega
theorem bal_hi {rk ws : Nat → Int} {T : Nat} {r : Int} : ∀ n : Nat, (∀ c : Nat, c < n → T.testBit c = true → rk c ≠ r ∧ ws c ≠ r) → bal rk ws T n r = 0
  | 0, _ => rfl
  | n + 1, h => by
    have ih := bal_hi (T := T) (r := r) n (fun c hc => h c (by omega))
    show bal rk ws T n r + (if T.testBit n = true then dl (ind r) rk ws n else 0) = 0
    rw [ih]
    by_cases q : T.testBit n = true
    · have := h n (by omega) q
      rw [if_pos q]
      unfold dl ind
      rw [if_neg this.1, if_neg this.2]
      omega
    · rw [if_neg q]; omega
theorem bal_s (rk ws : Nat → Int) (T n : Nat) (r : Int) : bal rk ws T (n + 1) r = bal rk ws T n r + (if T.testBit n = true then (if ws n = r then 1 else 0) - (if rk n = r then 1 else 0) else 0) := rfl
def myb (m : mS) : Nat → Nat
  | 0 => 0
  | c + 1 => if wsm m c = -1 then myb m c else myb m c ||| 2 ^ c
theorem myb_t (m : mS) (q : Nat) : ∀ n : Nat, (myb m n).testBit q = true ↔ (q < n ∧ wsm m q ≠ -1)
  | 0 => by
    show (0 : Nat).testBit q = true ↔ _
    rw [Nat.zero_testBit]
    exact ⟨fun h => absurd h (by decide), fun h => by omega⟩
  | n + 1 => by
    have ih := myb_t m q n
    show (if wsm m n = -1 then myb m n else myb m n ||| 2 ^ n).testBit q = true ↔ _
    by_cases z : wsm m n = -1
    · rw [if_pos z, ih]
      constructor
      · exact fun h => ⟨by omega, h.2⟩
      · intro h
        refine ⟨?_, h.2⟩
        rcases Nat.lt_or_ge q n with w | w
        · exact w
        · exact absurd (show wsm m q = -1 by rw [show q = n by omega]; exact z) h.2
    · rw [if_neg z, bt_or_pow, Bool.or_eq_true, ih, decide_eq_true_eq]
      constructor
      · rintro (h | h)
        · exact ⟨by omega, h.2⟩
        · subst h; exact ⟨by omega, z⟩
      · intro h
        by_cases w : q = n
        · exact Or.inr w
        · exact Or.inl ⟨by omega, h.2⟩
theorem myb_b (m : mS) : ∀ n : Nat, myb m n < 2 ^ n
  | 0 => by show 0 < 1; omega
  | n + 1 => by
    have ih := myb_b m n
    show (if wsm m n = -1 then myb m n else myb m n ||| 2 ^ n) < 2 ^ (n + 1)
    have h2 : 2 ^ n < 2 ^ (n + 1) := Nat.pow_lt_pow_right (by decide) (by omega)
    split
    · omega
    · exact Nat.or_lt_two_pow (by omega) h2
theorem hp_may {m : mS} {T n : Nat} : isHp (rkm m) (wsm m) T n ↔ T &&& (T ^^^ myb m n) = 0 := by
  constructor
  · intro h
    refine Nat.eq_of_testBit_eq (fun q => ?_)
    rw [Nat.testBit_and, Nat.testBit_xor, Nat.zero_testBit]
    cases z : T.testBit q
    · rfl
    · have := (myb_t m q n).mpr (h q z)
      rw [this]
      rfl
  · intro h c hc
    refine (myb_t m c n).mp ?_
    have h1 := congrArg (fun x => x.testBit c) h
    have h1 : (T &&& (T ^^^ myb m n)).testBit c = (0 : Nat).testBit c := h1
    rw [Nat.testBit_and, Nat.testBit_xor, Nat.zero_testBit, hc] at h1
    simpa using h1
theorem hp_le {m : mS} {T n : Nat} (h : isHp (rkm m) (wsm m) T n) : T ≤ myb m n := by
  have e : T &&& myb m n = T := by
    refine Nat.eq_of_testBit_eq (fun q => ?_)
    rw [Nat.testBit_and]
    cases z : T.testBit q
    · rfl
    · rw [(myb_t m q n).mpr (h q z)]; rfl
  rw [← e]
  exact Nat.and_le_right
theorem bal_b {rk ws : Nat → Int} {T : Nat} {r : Int} : ∀ n : Nat, -(n : Int) ≤ bal rk ws T n r ∧ bal rk ws T n r ≤ (n : Int)
  | 0 => by show -((0 : Nat) : Int) ≤ 0 ∧ (0 : Int) ≤ ((0 : Nat) : Int); omega
  | n + 1 => by
    have ih := bal_b (rk := rk) (ws := ws) (T := T) (r := r) n
    rw [bal_s]
    split
    · split <;> split <;> omega
    · omega
set_option maxHeartbeats 4000000 in
set_option maxRecDepth 100000 in
theorem lp_irC {l : Launch} {σ : aw_S} {Post : Option Value → aw_S → Prop} {tw cs : Bool} (hR : σ.2.2 = RF tw cs) {m : mS} (hM : cityM σ m) (wC : wfCity m) {N : Int} (hM2 : dayM σ m) (wD : wfDay m 0 N) (hN : 0 ≤ N ∧ N ≤ 1000) {T : Nat} (hT6 : T < 65536) (hTp : isHp (rkm m) (wsm m) T (m 0 4).toNat) (h1 : isRg (rkm m) (wsm m) T (m 0 4).toNat → ∀ σ', fr1 208 σ σ' → Post (some (.int (jI 1))) σ') (h0 : ¬ isRg (rkm m) (wsm m) T (m 0 4).toNat → ∀ σ', fr1 208 σ σ' → Post (some (.int (jI 0))) σ')  : ∀ (n : Nat) (r : Int) (σ1 : aw_S), ((m 0 0 - r).toNat ≤ n) → (0 ≤ r ∧ r ≤ m 0 0) → (fr1 208 σ σ1) → (∀ q : Int, 0 ≤ q → q < m 0 0 → σ1.1 208 q = bal (rkm m) (wsm m) T (m 0 4).toNat q) → (∀ q : Int, 0 ≤ q → q < r → bal (rkm m) (wsm m) T (m 0 4).toNat q = 0) → AW l yX10_isRing cX10_isRing 3 (some .boolean) 1 22 0 0 SH Post SH 0 0 (σ1) 83 [some (.ref 171), some (.int (jI (T : Int))), some (.int (jI r))] [] := by
  intro n
  induction n with
  | zero =>
    intro r σ1 hm hr f1 hb hz
    have hR : σ1.2.2 = RF tw cs := by rw [f1.2]; exact hR
    obtain ⟨c1, -⟩ := id hM
    obtain ⟨d1, d2, d3, d4, d5, d6, d7⟩ := id hM2
    obtain ⟨v1, v2, v3, v4, v5, v6, v7, v8⟩ := wfDay_0 wD
    have y1 := wC.1
    have c1 : σ1.1 171 14 = m 0 0 := (f1.1 _ _ (by omega)).trans c1
    have d2 : σ1.1 171 22 = m 0 4 := (f1.1 _ _ (by omega)).trans d2
    have ok := rk_ok wC wD (n := (m 0 4).toNat) (by omega)
    refine a_ild2 eX10_isRing_83 ?_
    refine a_ald0 eX10_isRing_84 ?_
    refine a_getI 14 eX10_isRing_85 fl_X10_235 rfl rfl sh_171 ?_
    refine a_eqtop (y0 := m 0 0) (by exact c1) ?_
    refine a_icmp_ge 108 eX10_isRing_88 (by decide) (by omega) (fun hT88 => ?_) (fun hF88 => ?_)
    · skip
      refine a_iconst eX10_isRing_108 ?_
      refine a_zret eX10_isRing_109 rfl (by first | exact Or.inl rfl | exact Or.inr rfl | omega) rfl ⟨Nat.zero_le _, Nat.zero_le _⟩ ?_
      refine h1 (fun q q1 q2 => ?_) σ1 f1
      by_cases z : q < m 0 0
      · exact hz q q1 (by omega)
      · refine bal_hi _ (fun c hc ht => ?_)
        have w5 := v5 (c : Int) (by omega) (by omega)
        unfold wfCab at w5
        have hh := (hTp c ht).2
        have r3 : rkm m c = m (100 + (c : Int)) 3 := rfl
        have r9 : wsm m c = m (100 + (c : Int)) 9 := rfl
        omega
    · skip
      exfalso; omega
  | succ n ih =>
    intro r σ1 hm hr f1 hb hz
    have hR : σ1.2.2 = RF tw cs := by rw [f1.2]; exact hR
    obtain ⟨c1, -⟩ := id hM
    obtain ⟨d1, d2, d3, d4, d5, d6, d7⟩ := id hM2
    obtain ⟨v1, v2, v3, v4, v5, v6, v7, v8⟩ := wfDay_0 wD
    have y1 := wC.1
    have c1 : σ1.1 171 14 = m 0 0 := (f1.1 _ _ (by omega)).trans c1
    have d2 : σ1.1 171 22 = m 0 4 := (f1.1 _ _ (by omega)).trans d2
    have ok := rk_ok wC wD (n := (m 0 4).toNat) (by omega)
    refine a_ild2 eX10_isRing_83 ?_
    refine a_ald0 eX10_isRing_84 ?_
    refine a_getI 14 eX10_isRing_85 fl_X10_235 rfl rfl sh_171 ?_
    refine a_eqtop (y0 := m 0 0) (by exact c1) ?_
    refine a_icmp_ge 108 eX10_isRing_88 (by decide) (by omega) (fun hT88 => ?_) (fun hF88 => ?_)
    · skip
      refine a_iconst eX10_isRing_108 ?_
      refine a_zret eX10_isRing_109 rfl (by first | exact Or.inl rfl | exact Or.inr rfl | omega) rfl ⟨Nat.zero_le _, Nat.zero_le _⟩ ?_
      refine h1 (fun q q1 q2 => ?_) σ1 f1
      by_cases z : q < m 0 0
      · exact hz q q1 (by omega)
      · refine bal_hi _ (fun c hc ht => ?_)
        have w5 := v5 (c : Int) (by omega) (by omega)
        unfold wfCab at w5
        have hh := (hTp c ht).2
        have r3 : rkm m c = m (100 + (c : Int)) 3 := rfl
        have r9 : wsm m c = m (100 + (c : Int)) 9 := rfl
        omega
    · skip
      have hbr := hb r (by omega) (by omega)
      have hbb := bal_b (rk := rkm m) (ws := wsm m) (T := T) (r := r) (m 0 4).toNat
      refine a_ald0 eX10_isRing_91 ?_
      refine a_getR 53 208 eX10_isRing_92 fl_X10_121 rfl rfl sh_171 ((congrFun (congrFun hR _) _).trans rf_171_53) ?_
      refine a_ild2 eX10_isRing_95 ?_
      refine a_iald eX10_isRing_96 sh_208 rfl (by omega) ?_
      refine a_eqtop (y0 := bal (rkm m) (wsm m) T (m 0 4).toNat r) (by exact hbr) ?_
      refine a_if_eq 102 eX10_isRing_97 (by decide) (by omega) (fun hT97 => ?_) (fun hF97 => ?_)
      · skip
        refine a_iinc2 eX10_isRing_102 (by decide) aw_n2i ?_
        refine a_goto 83 eX10_isRing_105 (by decide) ?_
        refine ih (r + 1) σ1 (by omega) (by omega) f1 hb (fun q q1 q2 => ?_)
        by_cases z : q = r
        · rw [z]; omega
        · exact hz q q1 (by omega)
      · skip
        refine a_iconst eX10_isRing_100 ?_
        refine a_zret eX10_isRing_101 rfl (by first | exact Or.inl rfl | exact Or.inr rfl | omega) rfl ⟨Nat.zero_le _, Nat.zero_le _⟩ ?_
        exact h0 (fun z => by have := z r (by omega) (by omega); omega) σ1 f1

set_option maxHeartbeats 4000000 in
set_option maxRecDepth 100000 in
theorem lp_irB {l : Launch} {σ : aw_S} {Post : Option Value → aw_S → Prop} {tw cs : Bool} (hR : σ.2.2 = RF tw cs) {m : mS} (hM : cityM σ m) (wC : wfCity m) {N : Int} (hM2 : dayM σ m) (wD : wfDay m 0 N) (hN : 0 ≤ N ∧ N ≤ 1000) {T : Nat} (hT6 : T < 65536) (hTp : isHp (rkm m) (wsm m) T (m 0 4).toNat) (h1 : isRg (rkm m) (wsm m) T (m 0 4).toNat → ∀ σ', fr1 208 σ σ' → Post (some (.int (jI 1))) σ') (h0 : ¬ isRg (rkm m) (wsm m) T (m 0 4).toNat → ∀ σ', fr1 208 σ σ' → Post (some (.int (jI 0))) σ')  : ∀ (n : Nat) (c : Nat) (σ1 : aw_S), ((m 0 4 - (c : Int)).toNat ≤ n) → ((c : Int) ≤ m 0 4) → (fr1 208 σ σ1) → (∀ q : Int, 0 ≤ q → q < m 0 0 → σ1.1 208 q = bal (rkm m) (wsm m) T c q) → AW l yX10_isRing cX10_isRing 3 (some .boolean) 1 22 0 0 SH Post SH 0 0 (σ1) 25 [some (.ref 171), some (.int (jI (T : Int))), some (.int (jI (c : Int)))] [] := by
  intro n
  induction n with
  | zero =>
    intro c σ1 hm hc f1 hb
    have hR0 := hR
    have hR : σ1.2.2 = RF tw cs := by rw [f1.2]; exact hR
    obtain ⟨c1, -⟩ := id hM
    obtain ⟨d1, d2, d3, d4, d5, d6, d7⟩ := id hM2
    obtain ⟨v1, v2, v3, v4, v5, v6, v7, v8⟩ := wfDay_0 wD
    have y1 := wC.1
    have c1 : σ1.1 171 14 = m 0 0 := (f1.1 _ _ (by omega)).trans c1
    have d2 : σ1.1 171 22 = m 0 4 := (f1.1 _ _ (by omega)).trans d2
    have ok := rk_ok wC wD (n := (m 0 4).toNat) (by omega)
    have htb := tb_b T c
    refine a_ild2 eX10_isRing_25 ?_
    refine a_ald0 eX10_isRing_26 ?_
    refine a_getI 22 eX10_isRing_27 fl_X10_246 rfl rfl sh_171 ?_
    refine a_eqtop (y0 := m 0 4) (by exact d2) ?_
    refine a_icmp_ge 81 eX10_isRing_30 (by decide) (by omega) (fun hT30 => ?_) (fun hF30 => ?_)
    · skip
      refine a_iconst eX10_isRing_81 ?_
      refine a_ist2 eX10_isRing_82 (by decide) aw_n2i ?_
      have e9 : c = (m 0 4).toNat := by omega
      rw [e9] at hb
      exact lp_irC hR0 hM wC hM2 wD hN hT6 hTp h1 h0 _ 0 σ1 (Nat.le_refl _) (by omega) f1 hb (fun q q1 q2 => by omega)
    · skip
      exfalso; omega
  | succ n ih =>
    intro c σ1 hm hc f1 hb
    have hR0 := hR
    have hR : σ1.2.2 = RF tw cs := by rw [f1.2]; exact hR
    obtain ⟨c1, -⟩ := id hM
    obtain ⟨d1, d2, d3, d4, d5, d6, d7⟩ := id hM2
    obtain ⟨v1, v2, v3, v4, v5, v6, v7, v8⟩ := wfDay_0 wD
    have y1 := wC.1
    have c1 : σ1.1 171 14 = m 0 0 := (f1.1 _ _ (by omega)).trans c1
    have d2 : σ1.1 171 22 = m 0 4 := (f1.1 _ _ (by omega)).trans d2
    have ok := rk_ok wC wD (n := (m 0 4).toNat) (by omega)
    have htb := tb_b T c
    refine a_ild2 eX10_isRing_25 ?_
    refine a_ald0 eX10_isRing_26 ?_
    refine a_getI 22 eX10_isRing_27 fl_X10_246 rfl rfl sh_171 ?_
    refine a_eqtop (y0 := m 0 4) (by exact d2) ?_
    refine a_icmp_ge 81 eX10_isRing_30 (by decide) (by omega) (fun hT30 => ?_) (fun hF30 => ?_)
    · skip
      refine a_iconst eX10_isRing_81 ?_
      refine a_ist2 eX10_isRing_82 (by decide) aw_n2i ?_
      have e9 : c = (m 0 4).toNat := by omega
      rw [e9] at hb
      exact lp_irC hR0 hM wC hM2 wD hN hT6 hTp h1 h0 _ 0 σ1 (Nat.le_refl _) (by omega) f1 hb (fun q q1 q2 => by omega)
    · skip
      refine a_ild1 eX10_isRing_33 ?_
      refine a_ild2 eX10_isRing_34 ?_
      refine a_ishr ((T / 2 ^ c : Nat) : Int) eX10_isRing_35 (jtb1 (by omega) (by omega)) ?_
      refine a_iconst eX10_isRing_36 ?_
      refine a_iand ((tb T c : Nat) : Int) eX10_isRing_37 (jtb2 T c) ?_
      refine a_if_ne 44 eX10_isRing_38 (by decide) (by omega) (fun hT38 => ?_) (fun hF38 => ?_)
      · skip
        have htc : T.testBit c = true := (tb_i T c).mpr (by omega)
        have hh := (hTp c htc).2
        have okc := ok c (by omega) hh
        have w5 := v5 (c : Int) (by omega) (by omega)
        unfold wfCab at w5
        have kc := d5 (c : Int) (by omega) (by omega)
        unfold cabM at kc
        simp only [Int.zero_add] at kc
        have r3 : rkm m c = m (100 + (c : Int)) 3 := rfl
        have r9 : wsm m c = m (100 + (c : Int)) 9 := rfl
        have k8 : σ1.1 182 (11 * (c : Int) + 8) = wsm m c := (f1.1 _ _ (by omega)).trans (by rw [r9]; exact kc.2.2.2.2.2.2.2.2.2.1)
        have k2 : σ1.1 182 (11 * (c : Int) + 2) = rkm m c := (f1.1 _ _ (by omega)).trans (by rw [r3]; exact kc.2.2.2.1 (by omega))
        refine a_ald0 eX10_isRing_44 ?_
        refine a_getR 53 208 eX10_isRing_45 fl_X10_121 rfl rfl sh_171 ((congrFun (congrFun hR _) _).trans rf_171_53) ?_
        refine a_ald0 eX10_isRing_48 ?_
        refine a_ild2 eX10_isRing_49 ?_
        refine a_bipush eX10_isRing_50 (by decide) ?_
        refine a_cV2 eX10_isRing_52 lk_X10_276 mV_X10_of0 sh_171 ⟨_, rfl, rfl⟩ mt_X10_of0 rfl rfl rfl rfl rfl rfl (c_X10_of0 hR (by omega) ?_)
        dsimp only [Option.toList, List.cons_append, List.nil_append]
        refine a_eqtop (y0 := wsm m c) (by exact k8) ?_
        refine a_dup2 eX10_isRing_55 rfl rfl ?_
        refine a_iald eX10_isRing_56 sh_208 rfl (by omega) ?_
        refine a_iconst eX10_isRing_57 ?_
        refine a_iadd eX10_isRing_58 ?_
        refine a_iast eX10_isRing_59 sh_208 rfl (by omega) ?_
        refine a_ald0 eX10_isRing_60 ?_
        refine a_getR 53 208 eX10_isRing_61 fl_X10_121 rfl rfl sh_171 ((congrFun (congrFun hR _) _).trans rf_171_53) ?_
        refine a_ald0 eX10_isRing_64 ?_
        refine a_ild2 eX10_isRing_65 ?_
        refine a_iconst eX10_isRing_66 ?_
        refine a_cV2 eX10_isRing_67 lk_X10_276 mV_X10_of0 sh_171 ⟨_, rfl, rfl⟩ mt_X10_of0 rfl rfl rfl rfl rfl rfl (c_X10_of0 (by exact hR) (by omega) ?_)
        dsimp only [Option.toList, List.cons_append, List.nil_append]
        refine a_eqtop (y0 := rkm m c) (by rw [rd_si_ne (by omega)]; exact k2) ?_
        refine a_dup2 eX10_isRing_70 rfl rfl ?_
        refine a_iald eX10_isRing_71 sh_208 rfl (by omega) ?_
        refine a_eqtop (y0 := σ1.1 208 (rkm m c)) (by rw [rd_si_ni (by omega)]) ?_
        refine a_iconst eX10_isRing_72 ?_
        refine a_isub eX10_isRing_73 ?_
        refine a_iast eX10_isRing_74 sh_208 rfl (by omega) ?_
        refine a_iinc2 eX10_isRing_75 (by decide) aw_n2i ?_
        refine a_goto 25 eX10_isRing_78 (by decide) ?_
        have e9 : ∀ q, bal (rkm m) (wsm m) T (c + 1) q = bal (rkm m) (wsm m) T c q + ((if wsm m c = q then 1 else 0) - (if rkm m c = q then 1 else 0)) := fun q => by rw [bal_s, if_pos htc]
        have ih1 := ih (c + 1) (aw_si (aw_si σ1 208 (wsm m c) (σ1.1 208 (wsm m c) + 1)) 208 (rkm m c) (σ1.1 208 (rkm m c) - 1)) (by omega) (by omega) ⟨fun b j q => by rw [rd_si_ne q, rd_si_ne q]; exact f1.1 b j q, f1.2⟩ (fun q q1 q2 => ?_)
        · rw [show (((c + 1 : Nat) : Nat) : Int) = (c : Int) + 1 by omega] at ih1
          exact ih1
        · have hq := hb q q1 q2
          rw [e9]
          by_cases z : q = rkm m c
          · rw [← z, rd_si_eq, if_pos rfl, if_neg (by omega)]; omega
          · rw [rd_si_ni z, if_neg (show ¬ rkm m c = q from fun e => z e.symm)]
            by_cases y : q = wsm m c
            · rw [← y, rd_si_eq, if_pos rfl]; omega
            · rw [rd_si_ni y, if_neg (show ¬ wsm m c = q from fun e => y e.symm)]; omega
      · skip
        refine a_goto 75 eX10_isRing_41 (by decide) ?_
        refine a_iinc2 eX10_isRing_75 (by decide) aw_n2i ?_
        refine a_goto 25 eX10_isRing_78 (by decide) ?_
        have e9 : ∀ q, bal (rkm m) (wsm m) T (c + 1) q = bal (rkm m) (wsm m) T c q := fun q => by rw [bal_s, if_neg (fun z => by have := (tb_i T c).mp z; omega)]; omega
        have ih1 := ih (c + 1) σ1 (by omega) (by omega) f1 (fun q q1 q2 => by rw [e9]; exact hb q q1 q2)
        rw [show (((c + 1 : Nat) : Nat) : Int) = (c : Int) + 1 by omega] at ih1
        exact ih1

set_option maxHeartbeats 4000000 in
set_option maxRecDepth 100000 in
theorem lp_irA {l : Launch} {σ : aw_S} {Post : Option Value → aw_S → Prop} {tw cs : Bool} (hR : σ.2.2 = RF tw cs) {m : mS} (hM : cityM σ m) (wC : wfCity m) {N : Int} (hM2 : dayM σ m) (wD : wfDay m 0 N) (hN : 0 ≤ N ∧ N ≤ 1000) {T : Nat} (hT6 : T < 65536) (hTp : isHp (rkm m) (wsm m) T (m 0 4).toNat) (h1 : isRg (rkm m) (wsm m) T (m 0 4).toNat → ∀ σ', fr1 208 σ σ' → Post (some (.int (jI 1))) σ') (h0 : ¬ isRg (rkm m) (wsm m) T (m 0 4).toNat → ∀ σ', fr1 208 σ σ' → Post (some (.int (jI 0))) σ')  : ∀ (n : Nat) (r : Int) (σ1 : aw_S), ((m 0 0 - r).toNat ≤ n) → (0 ≤ r ∧ r ≤ m 0 0) → (fr1 208 σ σ1) → (∀ q : Int, 0 ≤ q → q < r → σ1.1 208 q = 0) → AW l yX10_isRing cX10_isRing 3 (some .boolean) 1 22 0 0 SH Post SH 0 0 (σ1) 2 [some (.ref 171), some (.int (jI (T : Int))), some (.int (jI r))] [] := by
  intro n
  induction n with
  | zero =>
    intro r σ1 hm hr f1 hz
    have hR0 := hR
    have hR : σ1.2.2 = RF tw cs := by rw [f1.2]; exact hR
    obtain ⟨c1, -⟩ := id hM
    obtain ⟨d1, d2, d3, d4, d5, d6, d7⟩ := id hM2
    obtain ⟨v1, v2, v3, v4, v5, v6, v7, v8⟩ := wfDay_0 wD
    have y1 := wC.1
    have c1 : σ1.1 171 14 = m 0 0 := (f1.1 _ _ (by omega)).trans c1
    have d2 : σ1.1 171 22 = m 0 4 := (f1.1 _ _ (by omega)).trans d2
    have ok := rk_ok wC wD (n := (m 0 4).toNat) (by omega)
    refine a_ild2 eX10_isRing_2 ?_
    refine a_ald0 eX10_isRing_3 ?_
    refine a_getI 14 eX10_isRing_4 fl_X10_235 rfl rfl sh_171 ?_
    refine a_eqtop (y0 := m 0 0) (by exact c1) ?_
    refine a_icmp_ge 23 eX10_isRing_7 (by decide) (by omega) (fun hT7 => ?_) (fun hF7 => ?_)
    · skip
      refine a_iconst eX10_isRing_23 ?_
      refine a_ist2 eX10_isRing_24 (by decide) aw_n2i ?_
      exact lp_irB hR0 hM wC hM2 wD hN hT6 hTp h1 h0 _ 0 σ1 (Nat.le_refl _) (by omega) f1 (fun q q1 q2 => hz q q1 (by omega))
    · skip
      exfalso; omega
  | succ n ih =>
    intro r σ1 hm hr f1 hz
    have hR0 := hR
    have hR : σ1.2.2 = RF tw cs := by rw [f1.2]; exact hR
    obtain ⟨c1, -⟩ := id hM
    obtain ⟨d1, d2, d3, d4, d5, d6, d7⟩ := id hM2
    obtain ⟨v1, v2, v3, v4, v5, v6, v7, v8⟩ := wfDay_0 wD
    have y1 := wC.1
    have c1 : σ1.1 171 14 = m 0 0 := (f1.1 _ _ (by omega)).trans c1
    have d2 : σ1.1 171 22 = m 0 4 := (f1.1 _ _ (by omega)).trans d2
    have ok := rk_ok wC wD (n := (m 0 4).toNat) (by omega)
    refine a_ild2 eX10_isRing_2 ?_
    refine a_ald0 eX10_isRing_3 ?_
    refine a_getI 14 eX10_isRing_4 fl_X10_235 rfl rfl sh_171 ?_
    refine a_eqtop (y0 := m 0 0) (by exact c1) ?_
    refine a_icmp_ge 23 eX10_isRing_7 (by decide) (by omega) (fun hT7 => ?_) (fun hF7 => ?_)
    · skip
      refine a_iconst eX10_isRing_23 ?_
      refine a_ist2 eX10_isRing_24 (by decide) aw_n2i ?_
      exact lp_irB hR0 hM wC hM2 wD hN hT6 hTp h1 h0 _ 0 σ1 (Nat.le_refl _) (by omega) f1 (fun q q1 q2 => hz q q1 (by omega))
    · skip
      refine a_ald0 eX10_isRing_10 ?_
      refine a_getR 53 208 eX10_isRing_11 fl_X10_121 rfl rfl sh_171 ((congrFun (congrFun hR _) _).trans rf_171_53) ?_
      refine a_ild2 eX10_isRing_14 ?_
      refine a_iconst eX10_isRing_15 ?_
      refine a_iast eX10_isRing_16 sh_208 rfl (by omega) ?_
      refine a_iinc2 eX10_isRing_17 (by decide) aw_n2i ?_
      refine a_goto 2 eX10_isRing_20 (by decide) ?_
      refine ih (r + 1) _ (by omega) (by omega) ⟨fun b j q => by rw [rd_si_ne q]; exact f1.1 b j q, f1.2⟩ (fun q q1 q2 => ?_)
      by_cases z : q = r
      · rw [z]; exact rd_si_eq
      · rw [rd_si_ni z]; exact hz q q1 (by omega)

set_option maxHeartbeats 4000000 in
set_option maxRecDepth 100000 in
theorem c_X10_isRing {l : Launch} {σ : aw_S} {Post : Option Value → aw_S → Prop} {tw cs : Bool} (hR : σ.2.2 = RF tw cs) {m : mS} (hM : cityM σ m) (wC : wfCity m) {N : Int} (hM2 : dayM σ m) (wD : wfDay m 0 N) (hN : 0 ≤ N ∧ N ≤ 1000) {T : Nat} (hT6 : T < 65536) (hTp : isHp (rkm m) (wsm m) T (m 0 4).toNat) (h1 : isRg (rkm m) (wsm m) T (m 0 4).toNat → ∀ σ', fr1 208 σ σ' → Post (some (.int (jI 1))) σ') (h0 : ¬ isRg (rkm m) (wsm m) T (m 0 4).toNat → ∀ σ', fr1 208 σ σ' → Post (some (.int (jI 0))) σ')  : AE l yX10_isRing cX10_isRing 3 (some .boolean) 1 22 0 0 SH SH σ [.ref 171, .int (jI (T : Int))] Post := by
  show AW l yX10_isRing cX10_isRing 3 (some .boolean) 1 22 0 0 SH Post SH 0 0 σ 0 [some (.ref 171), some (.int (jI (T : Int))), none] []
  have y1 := wC.1
  refine a_iconst eX10_isRing_0 ?_
  refine a_ist2 eX10_isRing_1 (by decide) aw_n2i ?_
  exact lp_irA hR hM wC hM2 wD hN hT6 hTp h1 h0 _ 0 σ (Nat.le_refl _) (by omega) ⟨fun _ _ _ => rfl, rfl⟩ (fun q q1 q2 => by omega)

theorem cityM_1 {σ σ' : aw_S} {m : mS} {c : Nat} (hc : 187 ≤ c) (h : fr1 c σ σ') (hM : cityM σ m) : cityM σ' m := by
  unfold cityM at hM ⊢
  simp only [fun j => h.1 178 j (by omega), fun j => h.1 179 j (by omega), fun j => h.1 180 j (by omega), fun j => h.1 181 j (by omega), h.1 171 14 (by omega), h.1 171 16 (by omega), h.1 171 20 (by omega)]
  exact hM
theorem dayM_1 {σ σ' : aw_S} {m : mS} {c : Nat} (hc : 187 ≤ c) (h : fr1 c σ σ') (hM : dayM σ m) : dayM σ' m := by
  have e : ∀ a : Nat, a < 187 → σ'.1 a = σ.1 a := fun a ha => funext (fun j => h.1 a j (by omega))
  unfold dayM at hM ⊢
  rw [h.1 171 21 (by omega), h.1 171 22 (by omega), h.1 171 26 (by omega), e 182 (by omega), e 183 (by omega), e 184 (by omega), e 185 (by omega), e 186 (by omega)]
  exact hM
theorem f1x {c : Nat} {σ σ1 σ2 : aw_S} (h2 : fr1 c σ1 σ2) (h1 : fr1 c σ σ1) : σ2.2 = σ.2 := h2.2.trans h1.2
set_option maxHeartbeats 4000000 in
set_option maxRecDepth 100000 in
theorem lp_rgB {l : Launch} {σ : aw_S} {Post : Option Value → aw_S → Prop} {tw cs : Bool} (hR : σ.2.2 = RF tw cs) {m : mS} (hM : cityM σ m) (wC : wfCity m) {N : Int} (hM2 : dayM σ m) (wD : wfDay m 0 N) (hN : 0 ≤ N ∧ N ≤ 1000) (hk : ∀ (σ' : aw_S) (S : Nat), fr1 208 σ σ' → bst m S → Post (some (.int (jI (S : Int)))) σ')  : ∀ (n : Nat) (x : Nat) (σ1 : aw_S) (B : Nat) (lx : Option Value), ((myb m (m 0 4).toNat + 1 - x) ≤ n) → (1 ≤ x) → (x ≤ myb m (m 0 4).toNat + 1) → (fr1 208 σ σ1) → ((isHp (rkm m) (wsm m) B (m 0 4).toNat ∧ isRg (rkm m) (wsm m) B (m 0 4).toNat ∧ B < x ∧ ∀ T : Nat, T < x → isHp (rkm m) (wsm m) T (m 0 4).toNat → isRg (rkm m) (wsm m) T (m 0 4).toNat → pop T ≤ pop B ∧ (pop T = pop B → B ≤ T))) → AW l yX10_rings cX10_rings 6 (some .int) 2 44 0 0 SH Post SH 0 0 (σ1) 52 [some (.ref 171), some (.int (jI ((myb m (m 0 4).toNat : Nat) : Int))), some (.int (jI (B : Int))), some (.int (jI ((pop B : Nat) : Int))), some (.int (jI (x : Int))), lx] [] := by
  intro n
  induction n with
  | zero =>
    intro x σ1 B lx hm hx hx2 f1 hB
    have hR : σ1.2.2 = RF tw cs := by rw [f1.2]; exact hR
    have hM1 : cityM σ1 m := cityM_1 (by decide) f1 hM
    have hM21 : dayM σ1 m := dayM_1 (by decide) f1 hM2
    have v16 := (wfDay_0 wD).2.1
    have hm6 : myb m (m 0 4).toNat < 65536 := Nat.lt_of_lt_of_le (myb_b m _) (Nat.pow_le_pow_right (n := 2) (by decide) (show (m 0 4).toNat ≤ 16 by omega))
    have hpB := popN_le B 16
    have hpB2 : pop B = popN B 16 := rfl
    have hpx := popN_le x 16
    have hpx2 : pop x = popN x 16 := rfl
    refine a_ild4 eX10_rings_52 ?_
    refine a_ild1 eX10_rings_54 ?_
    refine a_icmp_gt 107 eX10_rings_55 (by decide) (by omega) (fun hT55 => ?_) (fun hF55 => ?_)
    · skip
      refine a_ild2 eX10_rings_107 ?_
      refine a_iret eX10_rings_108 rfl rfl ⟨Nat.zero_le _, Nat.zero_le _⟩ ?_
      obtain ⟨g1, g2, g3, g4⟩ := hB
      exact hk σ1 B f1 ⟨by omega, g1, g2, fun T t1 t2 => g4 T (by have := hp_le t1; omega) t1 t2⟩
    · skip
      exfalso; omega
  | succ n ih =>
    intro x σ1 B lx hm hx hx2 f1 hB
    have hR : σ1.2.2 = RF tw cs := by rw [f1.2]; exact hR
    have hM1 : cityM σ1 m := cityM_1 (by decide) f1 hM
    have hM21 : dayM σ1 m := dayM_1 (by decide) f1 hM2
    have v16 := (wfDay_0 wD).2.1
    have hm6 : myb m (m 0 4).toNat < 65536 := Nat.lt_of_lt_of_le (myb_b m _) (Nat.pow_le_pow_right (n := 2) (by decide) (show (m 0 4).toNat ≤ 16 by omega))
    have hpB := popN_le B 16
    have hpB2 : pop B = popN B 16 := rfl
    have hpx := popN_le x 16
    have hpx2 : pop x = popN x 16 := rfl
    refine a_ild4 eX10_rings_52 ?_
    refine a_ild1 eX10_rings_54 ?_
    refine a_icmp_gt 107 eX10_rings_55 (by decide) (by omega) (fun hT55 => ?_) (fun hF55 => ?_)
    · skip
      refine a_ild2 eX10_rings_107 ?_
      refine a_iret eX10_rings_108 rfl rfl ⟨Nat.zero_le _, Nat.zero_le _⟩ ?_
      obtain ⟨g1, g2, g3, g4⟩ := hB
      exact hk σ1 B f1 ⟨by omega, g1, g2, fun T t1 t2 => g4 T (by have := hp_le t1; omega) t1 t2⟩
    · skip
      refine a_ild4 eX10_rings_58 ?_
      refine a_ild1 eX10_rings_60 ?_
      refine a_iconst eX10_rings_61 ?_
      refine a_ixor (-1 - ((myb m (m 0 4).toNat : Nat) : Int)) eX10_rings_62 (jI_notN _) ?_
      refine a_iand ((x &&& (x ^^^ myb m (m 0 4).toNat) : Nat) : Int) eX10_rings_63 (by rw [← jI_notN]; have h9 := jI_andnot (x := ((x : Nat) : Int)) (y := ((myb m (m 0 4).toNat : Nat) : Int)) (Int.natCast_nonneg _) (Int.natCast_nonneg _); rw [Int.toNat_natCast, Int.toNat_natCast] at h9; exact h9) ?_
      have hxl : x &&& (x ^^^ myb m (m 0 4).toNat) ≤ x := Nat.and_le_left
      refine a_if_eq 70 eX10_rings_64 (by decide) (by omega) (fun hT64 => ?_) (fun hF64 => ?_)
      · skip
        have hxp : isHp (rkm m) (wsm m) x (m 0 4).toNat := hp_may.mpr (by omega)
        refine a_ild4 eX10_rings_70 ?_
        refine a_cS1 eX10_rings_72 lk_X10_362 mS_X10_ones mt_X10_ones rfl rfl rfl rfl rfl (c_X10_ones (by omega) ?_)
        dsimp only [Option.toList, List.cons_append, List.nil_append]
        refine a_ist5 eX10_rings_75 (by decide) aw_n2i ?_
        refine a_ild5 eX10_rings_77 ?_
        refine a_ild3 eX10_rings_79 ?_
        refine a_icmp_le 101 eX10_rings_80 (by decide) (by omega) (fun hT80 => ?_) (fun hF80 => ?_)
        · skip
          refine a_iinc4 eX10_rings_101 (by decide) aw_n2i ?_
          refine a_goto 52 eX10_rings_104 (by decide) ?_
          rw [show (x : Int) + 1 = (((x + 1 : Nat) : Nat) : Int) by omega]
          first
            | exact ih (x + 1) σ2 x _ (by omega) (by omega) (by omega) ⟨fun b j q => (f2.1 b j q).trans (f1.1 b j q), f1x f2 f1⟩ (by
                obtain ⟨g1, g2, g3, g4⟩ := hB
                refine ⟨hxp, hT86, by omega, fun T t1 t2 t3 => ?_⟩
                by_cases z : T = x
                · subst z; exact ⟨Nat.le_refl _, fun _ => Nat.le_refl _⟩
                · have := g4 T (by omega) t2 t3
                  exact ⟨by omega, fun w => by omega⟩)
            | exact ih (x + 1) σ2 B _ (by omega) (by omega) (by omega) ⟨fun b j q => (f2.1 b j q).trans (f1.1 b j q), f1x f2 f1⟩ (by
                obtain ⟨g1, g2, g3, g4⟩ := hB
                refine ⟨g1, g2, by omega, fun T t1 t2 t3 => ?_⟩
                by_cases z : T = x
                · subst z; exact absurd t3 hF86
                · exact g4 T (by omega) t2 t3)
            | exact ih (x + 1) σ1 B _ (by omega) (by omega) (by omega) f1 (by
                obtain ⟨g1, g2, g3, g4⟩ := hB
                refine ⟨g1, g2, by omega, fun T t1 t2 t3 => ?_⟩
                by_cases z : T = x
                · subst z
                  first
                    | exact ⟨by omega, fun w => by omega⟩
                    | exact absurd (hp_may.mp t2) (by omega)
                · exact g4 T (by omega) t2 t3)
        · skip
          refine a_ald0 eX10_rings_83 ?_
          refine a_ild4 eX10_rings_84 ?_
          refine a_cV1 eX10_rings_86 lk_X10_371 mV_X10_isRing sh_171 ⟨_, rfl, rfl⟩ mt_X10_isRing rfl rfl rfl rfl rfl (c_X10_isRing hR hM1 wC hM21 wD hN (T := x) (by omega) hxp (fun hT86 σ2 f2 => ?_) (fun hF86 σ2 f2 => ?_))
          · skip
            dsimp only [Option.toList, List.cons_append, List.nil_append]
            refine a_if_ne 95 eX10_rings_89 (by decide) (by omega) (fun _ => ?_) (fun h => absurd h (by decide))
            refine a_ild4 eX10_rings_95 ?_
            refine a_ist2 eX10_rings_97 (by decide) aw_n2i ?_
            refine a_ild5 eX10_rings_98 ?_
            refine a_ist3 eX10_rings_100 (by decide) aw_n2i ?_
            refine a_iinc4 eX10_rings_101 (by decide) aw_n2i ?_
            refine a_goto 52 eX10_rings_104 (by decide) ?_
            rw [show (x : Int) + 1 = (((x + 1 : Nat) : Nat) : Int) by omega]
            first
              | exact ih (x + 1) σ2 x _ (by omega) (by omega) (by omega) ⟨fun b j q => (f2.1 b j q).trans (f1.1 b j q), f1x f2 f1⟩ (by
                  obtain ⟨g1, g2, g3, g4⟩ := hB
                  refine ⟨hxp, hT86, by omega, fun T t1 t2 t3 => ?_⟩
                  by_cases z : T = x
                  · subst z; exact ⟨Nat.le_refl _, fun _ => Nat.le_refl _⟩
                  · have := g4 T (by omega) t2 t3
                    exact ⟨by omega, fun w => by omega⟩)
              | exact ih (x + 1) σ2 B _ (by omega) (by omega) (by omega) ⟨fun b j q => (f2.1 b j q).trans (f1.1 b j q), f1x f2 f1⟩ (by
                  obtain ⟨g1, g2, g3, g4⟩ := hB
                  refine ⟨g1, g2, by omega, fun T t1 t2 t3 => ?_⟩
                  by_cases z : T = x
                  · subst z; exact absurd t3 hF86
                  · exact g4 T (by omega) t2 t3)
              | exact ih (x + 1) σ1 B _ (by omega) (by omega) (by omega) f1 (by
                  obtain ⟨g1, g2, g3, g4⟩ := hB
                  refine ⟨g1, g2, by omega, fun T t1 t2 t3 => ?_⟩
                  by_cases z : T = x
                  · subst z
                    first
                      | exact ⟨by omega, fun w => by omega⟩
                      | exact absurd (hp_may.mp t2) (by omega)
                  · exact g4 T (by omega) t2 t3)
          · skip
            dsimp only [Option.toList, List.cons_append, List.nil_append]
            refine a_if_ne 95 eX10_rings_89 (by decide) (by omega) (fun h => absurd h (by decide)) (fun _ => ?_)
            refine a_goto 101 eX10_rings_92 (by decide) ?_
            refine a_iinc4 eX10_rings_101 (by decide) aw_n2i ?_
            refine a_goto 52 eX10_rings_104 (by decide) ?_
            rw [show (x : Int) + 1 = (((x + 1 : Nat) : Nat) : Int) by omega]
            first
              | exact ih (x + 1) σ2 x _ (by omega) (by omega) (by omega) ⟨fun b j q => (f2.1 b j q).trans (f1.1 b j q), f1x f2 f1⟩ (by
                  obtain ⟨g1, g2, g3, g4⟩ := hB
                  refine ⟨hxp, hT86, by omega, fun T t1 t2 t3 => ?_⟩
                  by_cases z : T = x
                  · subst z; exact ⟨Nat.le_refl _, fun _ => Nat.le_refl _⟩
                  · have := g4 T (by omega) t2 t3
                    exact ⟨by omega, fun w => by omega⟩)
              | exact ih (x + 1) σ2 B _ (by omega) (by omega) (by omega) ⟨fun b j q => (f2.1 b j q).trans (f1.1 b j q), f1x f2 f1⟩ (by
                  obtain ⟨g1, g2, g3, g4⟩ := hB
                  refine ⟨g1, g2, by omega, fun T t1 t2 t3 => ?_⟩
                  by_cases z : T = x
                  · subst z; exact absurd t3 hF86
                  · exact g4 T (by omega) t2 t3)
              | exact ih (x + 1) σ1 B _ (by omega) (by omega) (by omega) f1 (by
                  obtain ⟨g1, g2, g3, g4⟩ := hB
                  refine ⟨g1, g2, by omega, fun T t1 t2 t3 => ?_⟩
                  by_cases z : T = x
                  · subst z
                    first
                      | exact ⟨by omega, fun w => by omega⟩
                      | exact absurd (hp_may.mp t2) (by omega)
                  · exact g4 T (by omega) t2 t3)
      · skip
        refine a_goto 101 eX10_rings_67 (by decide) ?_
        refine a_iinc4 eX10_rings_101 (by decide) aw_n2i ?_
        refine a_goto 52 eX10_rings_104 (by decide) ?_
        rw [show (x : Int) + 1 = (((x + 1 : Nat) : Nat) : Int) by omega]
        first
          | exact ih (x + 1) σ2 x _ (by omega) (by omega) (by omega) ⟨fun b j q => (f2.1 b j q).trans (f1.1 b j q), f1x f2 f1⟩ (by
              obtain ⟨g1, g2, g3, g4⟩ := hB
              refine ⟨hxp, hT86, by omega, fun T t1 t2 t3 => ?_⟩
              by_cases z : T = x
              · subst z; exact ⟨Nat.le_refl _, fun _ => Nat.le_refl _⟩
              · have := g4 T (by omega) t2 t3
                exact ⟨by omega, fun w => by omega⟩)
          | exact ih (x + 1) σ2 B _ (by omega) (by omega) (by omega) ⟨fun b j q => (f2.1 b j q).trans (f1.1 b j q), f1x f2 f1⟩ (by
              obtain ⟨g1, g2, g3, g4⟩ := hB
              refine ⟨g1, g2, by omega, fun T t1 t2 t3 => ?_⟩
              by_cases z : T = x
              · subst z; exact absurd t3 hF86
              · exact g4 T (by omega) t2 t3)
          | exact ih (x + 1) σ1 B _ (by omega) (by omega) (by omega) f1 (by
              obtain ⟨g1, g2, g3, g4⟩ := hB
              refine ⟨g1, g2, by omega, fun T t1 t2 t3 => ?_⟩
              by_cases z : T = x
              · subst z
                first
                  | exact ⟨by omega, fun w => by omega⟩
                  | exact absurd (hp_may.mp t2) (by omega)
              · exact g4 T (by omega) t2 t3)

set_option maxHeartbeats 4000000 in
set_option maxRecDepth 100000 in
theorem lp_rgA {l : Launch} {σ : aw_S} {Post : Option Value → aw_S → Prop} {tw cs : Bool} (hR : σ.2.2 = RF tw cs) {m : mS} (hM : cityM σ m) (wC : wfCity m) {N : Int} (hM2 : dayM σ m) (wD : wfDay m 0 N) (hN : 0 ≤ N ∧ N ≤ 1000) (hk : ∀ (σ' : aw_S) (S : Nat), fr1 208 σ σ' → bst m S → Post (some (.int (jI (S : Int)))) σ')  : ∀ (n : Nat) (c : Nat), ((m 0 4 - (c : Int)).toNat ≤ n) → ((c : Int) ≤ m 0 4) → AW l yX10_rings cX10_rings 6 (some .int) 2 44 0 0 SH Post SH 0 0 (σ) 4 [some (.ref 171), some (.int (jI ((myb m c : Nat) : Int))), some (.int (jI (c : Int))), none, none, none] [] := by
  intro n
  induction n with
  | zero =>
    intro c hm hc
    have y1 := wC.1
    obtain ⟨c1, -⟩ := id hM
    obtain ⟨d1, d2, d3, d4, d5, d6, d7⟩ := id hM2
    obtain ⟨v1, v2, v3, v4, v5, v6, v7, v8⟩ := wfDay_0 wD
    refine a_ild2 eX10_rings_4 ?_
    refine a_ald0 eX10_rings_5 ?_
    refine a_getI 22 eX10_rings_6 fl_X10_246 rfl rfl sh_171 ?_
    refine a_eqtop (y0 := m 0 4) (by exact d2) ?_
    refine a_icmp_ge 45 eX10_rings_9 (by decide) (by omega) (fun hT9 => ?_) (fun hF9 => ?_)
    · skip
      refine a_iconst eX10_rings_45 ?_
      refine a_ist2 eX10_rings_46 (by decide) aw_n2i ?_
      refine a_iconst eX10_rings_47 ?_
      refine a_ist3 eX10_rings_48 (by decide) aw_n2i ?_
      refine a_iconst eX10_rings_49 ?_
      refine a_ist4 eX10_rings_50 (by decide) aw_n2i ?_
      rw [show c = (m 0 4).toNat by omega]
      exact lp_rgB hR hM wC hM2 wD hN hk _ 1 σ 0 _ (Nat.le_refl _) (by omega) (by omega) ⟨fun _ _ _ => rfl, rfl⟩ ⟨fun c hc => absurd hc (by rw [Nat.zero_testBit]; decide), fun r r1 r2 => bal_hi _ (fun c _ hc => absurd hc (by rw [Nat.zero_testBit]; decide)), by omega, fun T t1 t2 t3 => by rw [show T = 0 by omega]; exact ⟨Nat.le_refl _, fun _ => Nat.le_refl _⟩⟩
    · skip
      exfalso; omega
  | succ n ih =>
    intro c hm hc
    have y1 := wC.1
    obtain ⟨c1, -⟩ := id hM
    obtain ⟨d1, d2, d3, d4, d5, d6, d7⟩ := id hM2
    obtain ⟨v1, v2, v3, v4, v5, v6, v7, v8⟩ := wfDay_0 wD
    refine a_ild2 eX10_rings_4 ?_
    refine a_ald0 eX10_rings_5 ?_
    refine a_getI 22 eX10_rings_6 fl_X10_246 rfl rfl sh_171 ?_
    refine a_eqtop (y0 := m 0 4) (by exact d2) ?_
    refine a_icmp_ge 45 eX10_rings_9 (by decide) (by omega) (fun hT9 => ?_) (fun hF9 => ?_)
    · skip
      refine a_iconst eX10_rings_45 ?_
      refine a_ist2 eX10_rings_46 (by decide) aw_n2i ?_
      refine a_iconst eX10_rings_47 ?_
      refine a_ist3 eX10_rings_48 (by decide) aw_n2i ?_
      refine a_iconst eX10_rings_49 ?_
      refine a_ist4 eX10_rings_50 (by decide) aw_n2i ?_
      rw [show c = (m 0 4).toNat by omega]
      exact lp_rgB hR hM wC hM2 wD hN hk _ 1 σ 0 _ (Nat.le_refl _) (by omega) (by omega) ⟨fun _ _ _ => rfl, rfl⟩ ⟨fun c hc => absurd hc (by rw [Nat.zero_testBit]; decide), fun r r1 r2 => bal_hi _ (fun c _ hc => absurd hc (by rw [Nat.zero_testBit]; decide)), by omega, fun T t1 t2 t3 => by rw [show T = 0 by omega]; exact ⟨Nat.le_refl _, fun _ => Nat.le_refl _⟩⟩
    · skip
      have w5 := v5 (c : Int) (by omega) (by omega)
      unfold wfCab at w5
      have kc := d5 (c : Int) (by omega) (by omega)
      unfold cabM at kc
      simp only [Int.zero_add] at kc
      have r9 : wsm m c = m (100 + (c : Int)) 9 := rfl
      have k8 : σ.1 182 (11 * (c : Int) + 8) = wsm m c := by rw [r9]; exact kc.2.2.2.2.2.2.2.2.2.1
      have k0 : σ.1 182 (11 * (c : Int) + 0) = m (100 + (c : Int)) 1 := by rw [Int.add_zero]; exact kc.1
      refine a_ald0 eX10_rings_12 ?_
      refine a_ild2 eX10_rings_13 ?_
      refine a_iconst eX10_rings_14 ?_
      refine a_cV2 eX10_rings_15 lk_X10_276 mV_X10_of0 sh_171 ⟨_, rfl, rfl⟩ mt_X10_of0 rfl rfl rfl rfl rfl rfl (c_X10_of0 hR (by omega) ?_)
      dsimp only [Option.toList, List.cons_append, List.nil_append]
      refine a_eqtop (y0 := m (100 + (c : Int)) 1) (by exact k0) ?_
      refine a_iconst eX10_rings_18 ?_
      refine a_icmp_ne 39 eX10_rings_19 (by decide) (by omega) (fun hT19 => ?_) (fun hF19 => ?_)
      · skip
        refine a_iinc2 eX10_rings_39 (by decide) aw_n2i ?_
        refine a_goto 4 eX10_rings_42 (by decide) ?_
        have e9 : myb m (c + 1) = myb m c := if_pos (by omega)
        have ih1 := ih (c + 1) (by omega) (by omega)
        rw [e9, show (((c + 1 : Nat) : Nat) : Int) = (c : Int) + 1 by omega] at ih1
        exact ih1
      · skip
        refine a_ald0 eX10_rings_22 ?_
        refine a_ild2 eX10_rings_23 ?_
        refine a_bipush eX10_rings_24 (by decide) ?_
        refine a_cV2 eX10_rings_26 lk_X10_276 mV_X10_of0 sh_171 ⟨_, rfl, rfl⟩ mt_X10_of0 rfl rfl rfl rfl rfl rfl (c_X10_of0 hR (by omega) ?_)
        dsimp only [Option.toList, List.cons_append, List.nil_append]
        refine a_eqtop (y0 := wsm m c) (by exact k8) ?_
        refine a_iconst eX10_rings_29 ?_
        refine a_icmp_eq 39 eX10_rings_30 (by decide) (by omega) (fun hT30 => ?_) (fun hF30 => ?_)
        · skip
          refine a_iinc2 eX10_rings_39 (by decide) aw_n2i ?_
          refine a_goto 4 eX10_rings_42 (by decide) ?_
          have e9 : myb m (c + 1) = myb m c := if_pos (by omega)
          have ih1 := ih (c + 1) (by omega) (by omega)
          rw [e9, show (((c + 1 : Nat) : Nat) : Int) = (c : Int) + 1 by omega] at ih1
          exact ih1
        · skip
          refine a_ild1 eX10_rings_33 ?_
          refine a_iconst eX10_rings_34 ?_
          refine a_ild2 eX10_rings_35 ?_
          refine a_ishl (2 ^ c) eX10_rings_36 (by rw [pw_shl (by omega), Int.toNat_natCast]) ?_
          refine a_ior ((myb m c ||| 2 ^ c : Nat) : Int) eX10_rings_37 (by have h9 := aw_or16 (myb m c) (k := ((c : Nat) : Int)) (by omega); rw [Int.toNat_natCast] at h9; exact h9) ?_
          refine a_ist1 eX10_rings_38 (by decide) aw_n2r ?_
          refine a_iinc2 eX10_rings_39 (by decide) aw_n2i ?_
          refine a_goto 4 eX10_rings_42 (by decide) ?_
          have e9 : myb m (c + 1) = myb m c ||| 2 ^ c := if_neg (by omega)
          have ih1 := ih (c + 1) (by omega) (by omega)
          rw [e9, show (((c + 1 : Nat) : Nat) : Int) = (c : Int) + 1 by omega] at ih1
          exact ih1

set_option maxHeartbeats 4000000 in
set_option maxRecDepth 100000 in
theorem c_X10_rings {l : Launch} {σ : aw_S} {Post : Option Value → aw_S → Prop} {tw cs : Bool} (hR : σ.2.2 = RF tw cs) {m : mS} (hM : cityM σ m) (wC : wfCity m) {N : Int} (hM2 : dayM σ m) (wD : wfDay m 0 N) (hN : 0 ≤ N ∧ N ≤ 1000) (hk : ∀ (σ' : aw_S) (S : Nat), fr1 208 σ σ' → bst m S → Post (some (.int (jI (S : Int)))) σ')  : AE l yX10_rings cX10_rings 6 (some .int) 2 44 0 0 SH SH σ [.ref 171] Post := by
  show AW l yX10_rings cX10_rings 6 (some .int) 2 44 0 0 SH Post SH 0 0 σ 0 [some (.ref 171), none, none, none, none, none] []
  have v16 := (wfDay_0 wD).2.1
  refine a_iconst eX10_rings_0 ?_
  refine a_ist1 eX10_rings_1 (by decide) aw_n2r ?_
  refine a_iconst eX10_rings_2 ?_
  refine a_ist2 eX10_rings_3 (by decide) aw_n2i ?_
  exact lp_rgA hR hM wC hM2 wD hN hk _ 0 (Nat.le_refl _) (by omega)
