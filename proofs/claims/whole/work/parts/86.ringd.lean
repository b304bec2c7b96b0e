/-- the state of the way back: so many steps, the heap now -/
def wayb (rk ws : Nat → Int) (S n : Nat) (s g : Int) (b via : Int → Int) (τ : Int → Nat) (f' : Int → Int) (k S' : Nat) (at0 : Int) : Prop :=
  S' < 65536 ∧ isHp rk ws S' n ∧ onway rk ws S' n g at0 ∧ feas f' rk ws S' n ∧ (0 ≤ at0 ∧ at0 < 6) ∧ b at0 ≠ (-268435456) ∧
  ∃ p : Nat → Int, p k = at0 ∧ (∀ i : Nat, i < k → (0 ≤ p i ∧ p i < 6) ∧ p i ≠ s) ∧ (∀ i j : Nat, i < j → j ≤ k → τ (p j) < τ (p i)) ∧
    (∀ v : Int, 0 ≤ v → v < 6 → v ≠ s → b v ≠ (-268435456) → (∀ i : Nat, i < k → p i ≠ v) → S'.testBit (via v).toNat = S.testBit (via v).toNat)
theorem wayb_lt {rk ws : Nat → Int} {S n k S' : Nat} {s g at0 : Int} {b via : Int → Int} {τ : Int → Nat} {f' : Int → Int} (hs : 0 ≤ s ∧ s < 6) (h : wayb rk ws S n s g b via τ f' k S' at0) : k < 6 := by
  obtain ⟨-, -, -, -, -, -, p, p1, p2, p3, -⟩ := h
  rcases Nat.lt_or_ge k 6 with q | q
  · exact q
  · exfalso
    obtain ⟨i, j, h1, h2, h3⟩ := pigI (n := 6) (fun i => if i < 6 then p i else s) (fun i hi => by
      show 0 ≤ (if i < 6 then p i else s) ∧ (if i < 6 then p i else s) < ((6 : Nat) : Int)
      split
      · have := (p2 i (by omega)).1; omega
      · omega)
    have h3 : (if i < 6 then p i else s) = (if j < 6 then p j else s) := h3
    rw [if_pos (show i < 6 by omega)] at h3
    by_cases z : j < 6
    · rw [if_pos z] at h3
      have := p3 i j h1 (by omega)
      rw [h3] at this
      omega
    · rw [if_neg z] at h3
      exact (p2 i (by omega)).2 h3
theorem lt_hp {rk ws : Nat → Int} {S n : Nat} (hn : n ≤ 16) (h : isHp rk ws S n) : S < 65536 := by
  have h1 : S < 2 ^ 16 := Nat.lt_pow_two_of_testBit S (fun i hi => Bool.eq_false_iff.mpr (fun z => by have := (h i z).1; omega))
  exact h1
theorem wayb_s {rk ws : Nat → Int} {S n k S' : Nat} {s g at0 : Int} {b via : Int → Int} {τ : Int → Nat} {f' : Int → Int} (hn : n ≤ 16) (ok : rkOK rk ws n) (ht : tight rk ws S n s b via τ) (hf : ∀ v : Int, 0 ≤ v → v < 6 → b v ≠ (-268435456) → f' v = b v)
    (h : wayb rk ws S n s g b via τ f' k S' at0) (hne : at0 ≠ s) : ∃ c : Nat, via at0 = (c : Int) ∧ c < n ∧ ws c ≠ -1 ∧ wayb rk ws S n s g b via τ f' (k + 1) (S' ^^^ 2 ^ c) (tlA rk ws S' c) := by
  obtain ⟨q1, q2, q3, q4, q5, q6, p, p1, p2, p3, p4⟩ := h
  obtain ⟨c, c1, c2, c3, c4, c5, c6, c7⟩ := ht at0 q5.1 q5.2 hne q6
  have hun : ∀ i : Nat, i < k → p i ≠ at0 := fun i hi e => by
    have := p3 i k hi (Nat.le_refl k)
    rw [p1, e] at this
    omega
  have hbit : S'.testBit c = S.testBit c := by
    have := p4 at0 q5.1 q5.2 hne q6 hun
    rw [c1, Int.toNat_natCast] at this
    exact this
  have ehd : hdA rk ws S' c = hdA rk ws S c := by unfold hdA; rw [hbit]
  have etl : tlA rk ws S' c = tlA rk ws S c := by unfold tlA; rw [hbit]
  have hb := tlA_b (S := S) ok c2 c3
  have htg : dl f' rk ws c = wt c := by
    have e1 := hf at0 q5.1 q5.2 q6
    have e2 := hf _ hb.1.1 hb.1.2 c5
    rw [← c4] at e1 c6
    unfold hdA tlA gnA at *
    unfold dl
    by_cases z : S.testBit c = true
    · simp only [if_pos z] at *; omega
    · simp only [if_neg z] at *; omega
  have hhp : isHp rk ws (S' ^^^ 2 ^ c) n := fun d hd => by
    rw [xorb_t] at hd
    by_cases z : d = c
    · subst z; exact ⟨c2, c3⟩
    · rw [if_neg z] at hd; exact q2 d hd
  refine ⟨c, c1, c2, c3, lt_hp hn hhp, hhp, onway_s c2 q3 (by rw [ehd, c4]), feas_x q4 htg, by rw [etl]; exact hb.1, by rw [etl]; exact c5, fun i => if i = k + 1 then tlA rk ws S' c else p i, if_pos rfl, fun i hi => ?_, fun i j hi hj => ?_, fun v v1 v2 v3 v4 v5 => ?_⟩
  · show (0 ≤ (if i = k + 1 then tlA rk ws S' c else p i) ∧ (if i = k + 1 then tlA rk ws S' c else p i) < 6) ∧ (if i = k + 1 then tlA rk ws S' c else p i) ≠ s
    rw [if_neg (by omega)]
    by_cases z : i = k
    · rw [z, p1]; exact ⟨q5, hne⟩
    · exact p2 i (by omega)
  · show τ (if j = k + 1 then tlA rk ws S' c else p j) < τ (if i = k + 1 then tlA rk ws S' c else p i)
    rw [if_neg (show ¬ i = k + 1 by omega)]
    by_cases z : j = k + 1
    · rw [if_pos z, etl]
      by_cases y : i = k
      · rw [y, p1]; exact c7
      · have := p3 i k (by omega) (Nat.le_refl k)
        rw [p1] at this
        omega
    · rw [if_neg z]; exact p3 i j hi (by omega)
  · have e1 : ∀ i : Nat, i < k → p i ≠ v := fun i hi => by
      have := v5 i (by omega)
      have this : (if i = k + 1 then tlA rk ws S' c else p i) ≠ v := this
      rw [if_neg (by omega)] at this
      exact this
    have e2 : at0 ≠ v := by
      have := v5 k (by omega)
      have this : (if k = k + 1 then tlA rk ws S' c else p k) ≠ v := this
      rw [if_neg (by omega), p1] at this
      exact this
    obtain ⟨d, d1, d2, d3, d4, -, -, -⟩ := ht v v1 v2 v3 v4
    rw [d1, Int.toNat_natCast, xorb_t, if_neg (fun z => e2 (by rw [← c4, ← d4, z]))]
    have := p4 v v1 v2 v3 v4 e1
    rw [d1, Int.toNat_natCast] at this
    exact this
theorem sm_or {S c : Nat} {g : Nat → Int} (h : S.testBit c = false) : ∀ n : Nat, sm (S ||| 2 ^ c) g n = sm S g n + (if c < n then g c else 0)
  | 0 => by show (0 : Int) = 0 + _; rw [if_neg (by omega)]; rfl
  | n + 1 => by
    have ih := sm_or h (g := g) n
    show sm (S ||| 2 ^ c) g n + (if (S ||| 2 ^ c).testBit n = true then g n else 0) = sm S g n + (if S.testBit n = true then g n else 0) + _
    rw [ih, bt_or_pow]
    by_cases q : n = c
    · subst q
      rw [h, if_neg (show ¬ n < n by omega), if_pos (show n < n + 1 by omega)]
      simp
    · rw [show decide (n = c) = false by simp [q], Bool.or_false]
      by_cases z : c < n
      · rw [if_pos z, if_pos (show c < n + 1 by omega)]; omega
      · rw [if_neg z, if_neg (show ¬ c < n + 1 by omega)]; omega
/-- the heap is the greatest of those below n -/
def rgOK (m : mS) (S n : Nat) : Prop := isHp (rkm m) (wsm m) S n ∧ isRg (rkm m) (wsm m) S n ∧ aw_bx (∃ f, feas f (rkm m) (wsm m) S n)
theorem rg_skip {m : mS} {S n : Nat} {f : Int → Int} (h1 : isHp (rkm m) (wsm m) S n) (h2 : isRg (rkm m) (wsm m) S n) (h3 : feas f (rkm m) (wsm m) S n) (h4 : wsm m n ≠ -1 → wt n ≤ dl f (rkm m) (wsm m) n) : rgOK m S (n + 1) := by
  have hb : S.testBit n = false := Bool.eq_false_iff.mpr (fun z => by have := (h1 n z).1; omega)
  refine ⟨fun c hc => ⟨by have := (h1 c hc).1; omega, (h1 c hc).2⟩, fun r r1 r2 => ?_, aw_mb ⟨f, fun c hc hw => ?_⟩⟩
  · show sm S _ n + (if S.testBit n = true then _ else 0) = 0
    rw [hb, if_neg (by decide), Int.add_zero]
    exact h2 r r1 r2
  · by_cases q : c = n
    · subst q; exact ⟨fun _ => h4 hw, fun z => by rw [hb] at z; cases z⟩
    · exact h3 c (by omega) hw
theorem rg_take {m : mS} {S' n : Nat} {f : Int → Int} (h1 : isHp (rkm m) (wsm m) S' n) (h2 : onway (rkm m) (wsm m) S' n (rkm m n) (wsm m n)) (h3 : feas f (rkm m) (wsm m) S' n) (hw : wsm m n ≠ -1) (h4 : dl f (rkm m) (wsm m) n ≤ wt n) : rgOK m (S' ||| 2 ^ n) (n + 1) := by
  have hb : S'.testBit n = false := Bool.eq_false_iff.mpr (fun z => by have := (h1 n z).1; omega)
  refine ⟨fun c hc => ?_, fun r r1 r2 => ?_, aw_mb ⟨f, fun c hc hwc => ?_⟩⟩
  · rw [bt_or_pow, Bool.or_eq_true, decide_eq_true_eq] at hc
    rcases hc with z | z
    · exact ⟨by have := (h1 c z).1; omega, (h1 c z).2⟩
    · subst z; exact ⟨by omega, hw⟩
  · have e := sm_or (g := dl (ind r) (rkm m) (wsm m)) hb (n + 1)
    have h5 := h2 r r1 r2
    unfold bal at h5 ⊢
    have e2 : sm S' (dl (ind r) (rkm m) (wsm m)) (n + 1) = sm S' (dl (ind r) (rkm m) (wsm m)) n := by
      show sm S' _ n + (if S'.testBit n = true then _ else 0) = _
      rw [hb, if_neg (by decide), Int.add_zero]
    rw [e, e2, h5, if_pos (show n < n + 1 by omega)]
    unfold dl
    omega
  · rw [bt_or_pow]
    by_cases q : c = n
    · subst q
      rw [show decide (c = c) = true by simp, Bool.or_true]
      exact ⟨fun z => absurd z (by decide), fun _ => h4⟩
    · rw [show decide (c = n) = false by simp [q], Bool.or_false]
      exact h3 c (by omega) hwc
def fr1x (σ σ' : aw_S) : Prop := (∀ (a : Nat) (j : Int), ¬ (a = 84 ∧ j = 2) → σ'.1 a j = σ.1 a j) ∧ σ'.2 = σ.2
set_option maxHeartbeats 4000000 in
set_option maxRecDepth 100000 in
theorem lp_ofW {l : Launch} {σ : aw_S} {Post : Option Value → aw_S → Prop} {tw cs : Bool} (hR : σ.2.2 = RF tw cs) {m : mS} {N : Int} (hD : dayC σ 21 0 m) (wC : wfCity m) (wD : wfDay m 0 N) {S : Nat} {c : Nat} (hc : (c : Int) < m 0 4) (hws : wsm m c ≠ -1) {τ : Int → Nat} {f' : Int → Int} (ht : tight (rkm m) (wsm m) S c (wsm m c) (σ.1 85) (σ.1 86) τ) (hf' : ∀ v : Int, 0 ≤ v → v < 6 → σ.1 85 v ≠ (-268435456) → f' v = σ.1 85 v) (hd9 : dl f' (rkm m) (wsm m) c ≤ wt c) (hk : ∀ (σ' : aw_S) (S' : Nat), frS σ σ' → S' < 65536 → σ'.1 84 2 = (S' : Int) → rgOK m S' (c + 1) → Post none σ')  : ∀ (n : Nat) (k : Nat) (σ1 : aw_S) (S1 : Nat) (at0 : Int) (lx : Option Value), ((6 - k) ≤ n) → (fr1x σ σ1) → (σ1.1 84 2 = (S1 : Int)) → (wayb (rkm m) (wsm m) S c (wsm m c) (rkm m c) (σ.1 85) (σ.1 86) τ f' k S1 at0) → AW l yX7_offer cX7_offer 8 (none : Option Jvm.ClassFile.FieldType) 4 94 0 0 SH Post SH 0 0 (σ1) 63 [some (.ref 84), some (.ref 21), some (.int (jI (c : Int))), some (.int (jI (wsm m c))), some (.int (jI (rkm m c))), some (.int (jI at0)), some (.int (jI (k : Int))), lx] [] := by
  intro n
  induction n with
  | zero =>
    intro k σ1 S1 at0 lx hm f1 hS hwb
    have hR : σ1.2.2 = RF tw cs := by rw [f1.2]; exact hR
    have hD1 : dayC σ1 21 0 m := dayC_R wD (fun a j q => f1.1 a j (by omega)) hD
    have v16 := (wfDay_0 wD).2.1
    have okc := rk_ok wC wD (n := c + 1) (by omega) c (by omega) hws
    have ok := rk_ok wC wD (n := c) (by omega)
    have hk6 := wayb_lt okc.2.1 hwb
    have hS6 := hwb.1
    have hat := hwb.2.2.2.2.1
    refine a_ild6 eX7_offer_63 ?_
    refine a_bipush eX7_offer_65 (by decide) ?_
    refine a_icmp_ge 113 eX7_offer_67 (by decide) (by omega) (fun hT67 => ?_) (fun hF67 => ?_)
    · skip
      refine a_ald0 eX7_offer_113 ?_
      refine a_dup eX7_offer_114 rfl ?_
      refine a_getI 2 eX7_offer_115 fl_X7_18 rfl rfl sh_84 ?_
      refine a_eqtop (y0 := ((S1 : Nat) : Int)) (by exact hS) ?_
      refine a_iconst eX7_offer_118 ?_
      refine a_ild2 eX7_offer_119 ?_
      refine a_ishl (2 ^ c) eX7_offer_120 (by rw [pw_shl (by omega), Int.toNat_natCast]) ?_
      refine a_ior ((S1 ||| 2 ^ c : Nat) : Int) eX7_offer_121 (by have h9 := aw_or16 S1 (k := ((c : Nat) : Int)) (by omega); rw [Int.toNat_natCast] at h9; exact h9) ?_
      refine a_putI 2 eX7_offer_122 fl_X7_18 rfl rfl sh_84 (fun q h => Or.inl (by cases h; rfl)) ?_
      refine a_vret eX7_offer_125 rfl rfl ⟨Nat.zero_le _, Nat.zero_le _⟩ ?_
      obtain ⟨q1, q2, q3, q4, q5, q6, q7⟩ := hwb
      rw [show at0 = wsm m c by omega] at q3
      have hfin := rg_take q2 q3 q4 hws hd9
      exact hk _ (S1 ||| 2 ^ c) ⟨fun b j p q r => by rw [rd_si, if_neg r]; exact f1.1 b j r, f1.2⟩ (lt_hp (n := c + 1) (by omega) hfin.1) rd_si_eq hfin
    · skip
      refine a_ild5 eX7_offer_70 ?_
      refine a_ild3 eX7_offer_72 ?_
      refine a_icmp_eq 113 eX7_offer_73 (by decide) (by omega) (fun hT73 => ?_) (fun hF73 => ?_)
      · skip
        refine a_ald0 eX7_offer_113 ?_
        refine a_dup eX7_offer_114 rfl ?_
        refine a_getI 2 eX7_offer_115 fl_X7_18 rfl rfl sh_84 ?_
        refine a_eqtop (y0 := ((S1 : Nat) : Int)) (by exact hS) ?_
        refine a_iconst eX7_offer_118 ?_
        refine a_ild2 eX7_offer_119 ?_
        refine a_ishl (2 ^ c) eX7_offer_120 (by rw [pw_shl (by omega), Int.toNat_natCast]) ?_
        refine a_ior ((S1 ||| 2 ^ c : Nat) : Int) eX7_offer_121 (by have h9 := aw_or16 S1 (k := ((c : Nat) : Int)) (by omega); rw [Int.toNat_natCast] at h9; exact h9) ?_
        refine a_putI 2 eX7_offer_122 fl_X7_18 rfl rfl sh_84 (fun q h => Or.inl (by cases h; rfl)) ?_
        refine a_vret eX7_offer_125 rfl rfl ⟨Nat.zero_le _, Nat.zero_le _⟩ ?_
        obtain ⟨q1, q2, q3, q4, q5, q6, q7⟩ := hwb
        rw [show at0 = wsm m c by omega] at q3
        have hfin := rg_take q2 q3 q4 hws hd9
        exact hk _ (S1 ||| 2 ^ c) ⟨fun b j p q r => by rw [rd_si, if_neg r]; exact f1.1 b j r, f1.2⟩ (lt_hp (n := c + 1) (by omega) hfin.1) rd_si_eq hfin
      · skip
        exfalso; omega
  | succ n ih =>
    intro k σ1 S1 at0 lx hm f1 hS hwb
    have hR : σ1.2.2 = RF tw cs := by rw [f1.2]; exact hR
    have hD1 : dayC σ1 21 0 m := dayC_R wD (fun a j q => f1.1 a j (by omega)) hD
    have v16 := (wfDay_0 wD).2.1
    have okc := rk_ok wC wD (n := c + 1) (by omega) c (by omega) hws
    have ok := rk_ok wC wD (n := c) (by omega)
    have hk6 := wayb_lt okc.2.1 hwb
    have hS6 := hwb.1
    have hat := hwb.2.2.2.2.1
    refine a_ild6 eX7_offer_63 ?_
    refine a_bipush eX7_offer_65 (by decide) ?_
    refine a_icmp_ge 113 eX7_offer_67 (by decide) (by omega) (fun hT67 => ?_) (fun hF67 => ?_)
    · skip
      refine a_ald0 eX7_offer_113 ?_
      refine a_dup eX7_offer_114 rfl ?_
      refine a_getI 2 eX7_offer_115 fl_X7_18 rfl rfl sh_84 ?_
      refine a_eqtop (y0 := ((S1 : Nat) : Int)) (by exact hS) ?_
      refine a_iconst eX7_offer_118 ?_
      refine a_ild2 eX7_offer_119 ?_
      refine a_ishl (2 ^ c) eX7_offer_120 (by rw [pw_shl (by omega), Int.toNat_natCast]) ?_
      refine a_ior ((S1 ||| 2 ^ c : Nat) : Int) eX7_offer_121 (by have h9 := aw_or16 S1 (k := ((c : Nat) : Int)) (by omega); rw [Int.toNat_natCast] at h9; exact h9) ?_
      refine a_putI 2 eX7_offer_122 fl_X7_18 rfl rfl sh_84 (fun q h => Or.inl (by cases h; rfl)) ?_
      refine a_vret eX7_offer_125 rfl rfl ⟨Nat.zero_le _, Nat.zero_le _⟩ ?_
      obtain ⟨q1, q2, q3, q4, q5, q6, q7⟩ := hwb
      rw [show at0 = wsm m c by omega] at q3
      have hfin := rg_take q2 q3 q4 hws hd9
      exact hk _ (S1 ||| 2 ^ c) ⟨fun b j p q r => by rw [rd_si, if_neg r]; exact f1.1 b j r, f1.2⟩ (lt_hp (n := c + 1) (by omega) hfin.1) rd_si_eq hfin
    · skip
      refine a_ild5 eX7_offer_70 ?_
      refine a_ild3 eX7_offer_72 ?_
      refine a_icmp_eq 113 eX7_offer_73 (by decide) (by omega) (fun hT73 => ?_) (fun hF73 => ?_)
      · skip
        refine a_ald0 eX7_offer_113 ?_
        refine a_dup eX7_offer_114 rfl ?_
        refine a_getI 2 eX7_offer_115 fl_X7_18 rfl rfl sh_84 ?_
        refine a_eqtop (y0 := ((S1 : Nat) : Int)) (by exact hS) ?_
        refine a_iconst eX7_offer_118 ?_
        refine a_ild2 eX7_offer_119 ?_
        refine a_ishl (2 ^ c) eX7_offer_120 (by rw [pw_shl (by omega), Int.toNat_natCast]) ?_
        refine a_ior ((S1 ||| 2 ^ c : Nat) : Int) eX7_offer_121 (by have h9 := aw_or16 S1 (k := ((c : Nat) : Int)) (by omega); rw [Int.toNat_natCast] at h9; exact h9) ?_
        refine a_putI 2 eX7_offer_122 fl_X7_18 rfl rfl sh_84 (fun q h => Or.inl (by cases h; rfl)) ?_
        refine a_vret eX7_offer_125 rfl rfl ⟨Nat.zero_le _, Nat.zero_le _⟩ ?_
        obtain ⟨q1, q2, q3, q4, q5, q6, q7⟩ := hwb
        rw [show at0 = wsm m c by omega] at q3
        have hfin := rg_take q2 q3 q4 hws hd9
        exact hk _ (S1 ||| 2 ^ c) ⟨fun b j p q r => by rw [rd_si, if_neg r]; exact f1.1 b j r, f1.2⟩ (lt_hp (n := c + 1) (by omega) hfin.1) rd_si_eq hfin
      · skip
        obtain ⟨a, a1, a2, a3, a4⟩ := wayb_s (by omega) ok ht hf' hwb (by omega)
        have ea : σ1.1 86 at0 = (a : Int) := (f1.1 _ _ (by omega)).trans a1
        refine a_ald0 eX7_offer_76 ?_
        refine a_getR 1 86 eX7_offer_77 fl_X7_15 rfl rfl sh_84 ((congrFun (congrFun hR _) _).trans rf_84_1) ?_
        refine a_ild5 eX7_offer_80 ?_
        refine a_iald eX7_offer_82 sh_86 rfl (by omega) ?_
        refine a_eqtop (y0 := ((a : Nat) : Int)) (by exact ea) ?_
        refine a_ist7 eX7_offer_83 (by decide) aw_n2i ?_
        refine a_ald0 eX7_offer_85 ?_
        refine a_ald1 eX7_offer_86 ?_
        refine a_ild7 eX7_offer_87 ?_
        refine a_cV2 eX7_offer_89 lk_X7_64 mV_X7_tail sh_84 ⟨_, rfl, rfl⟩ mt_X7_tail rfl rfl rfl rfl rfl rfl (c_X7_tail hR hD1 wC wD (c := a) (by omega) hS hS6 ?_)
        dsimp only [Option.toList, List.cons_append, List.nil_append]
        refine a_ist5 eX7_offer_92 (by decide) aw_n2i ?_
        refine a_ald0 eX7_offer_94 ?_
        refine a_dup eX7_offer_95 rfl ?_
        refine a_getI 2 eX7_offer_96 fl_X7_18 rfl rfl sh_84 ?_
        refine a_eqtop (y0 := ((S1 : Nat) : Int)) (by exact hS) ?_
        refine a_iconst eX7_offer_99 ?_
        refine a_ild7 eX7_offer_100 ?_
        refine a_ishl (((2 ^ a : Nat)) : Int) eX7_offer_102 (by rw [pw_shl (by omega), Int.toNat_natCast, Int.natCast_pow]; rfl) ?_
        refine a_ixor ((S1 ^^^ 2 ^ a : Nat) : Int) eX7_offer_103 (by have h9 := jI_xor (x := ((S1 : Nat) : Int)) (y := ((2 ^ a : Nat) : Int)) (Int.natCast_nonneg _) (Int.natCast_nonneg _); rw [Int.toNat_natCast, Int.toNat_natCast] at h9; exact h9) ?_
        refine a_putI 2 eX7_offer_104 fl_X7_18 rfl rfl sh_84 (fun q h => Or.inl (by cases h; rfl)) ?_
        refine a_iinc6 eX7_offer_107 (by decide) aw_n2i ?_
        refine a_goto 63 eX7_offer_110 (by decide) ?_
        have ih1 := ih (k + 1) (aw_si σ1 84 2 ((S1 ^^^ 2 ^ a : Nat) : Int)) (S1 ^^^ 2 ^ a) (tlA (rkm m) (wsm m) S1 a) (some (.int (jI (a : Int)))) (by omega) ⟨fun b j q => by rw [rd_si, if_neg q]; exact f1.1 b j q, f1.2⟩ rd_si_eq a4
        rw [show (((k + 1 : Nat) : Nat) : Int) = (k : Int) + 1 by omega] at ih1
        exact ih1

set_option maxHeartbeats 4000000 in
set_option maxRecDepth 100000 in
theorem c_X7_offer {l : Launch} {σ : aw_S} {Post : Option Value → aw_S → Prop} {tw cs : Bool} (hR : σ.2.2 = RF tw cs) {m : mS} {N : Int} (hD : dayC σ 21 0 m) (wC : wfCity m) (wD : wfDay m 0 N) {S : Nat} (hS : σ.1 84 2 = (S : Int)) (hS6 : S < 65536) {c : Nat} (hc : (c : Int) < m 0 4) (hws : wsm m c ≠ -1) (hrg : rgOK m S c) (hk : ∀ (σ' : aw_S) (S' : Nat), frS σ σ' → S' < 65536 → σ'.1 84 2 = (S' : Int) → rgOK m S' (c + 1) → Post none σ')  : AE l yX7_offer cX7_offer 8 (none : Option Jvm.ClassFile.FieldType) 4 94 0 0 SH SH σ [.ref 84, .ref 21, .int (jI (c : Int))] Post := by
  show AW l yX7_offer cX7_offer 8 (none : Option Jvm.ClassFile.FieldType) 4 94 0 0 SH Post SH 0 0 σ 0 [some (.ref 84), some (.ref 21), some (.int (jI (c : Int))), none, none, none, none, none] []
  obtain ⟨d1, d2, d3, d4, d5, d6, d7⟩ := id hD
  obtain ⟨v1, v2, v3, v4, v5, v6, v7, v8⟩ := wfDay_0 wD
  simp only [Int.zero_add] at d4 d5 d6 d7
  have w5 := v5 (c : Int) (by omega) (by omega)
  unfold wfCab at w5
  have y1 := wC.1
  have e1 := d5 (c : Int) 1 (by omega) (by omega) (by omega) (by omega)
  have e3 := d5 (c : Int) 3 (by omega) (by omega) (by omega) (by omega)
  have e9 := d5 (c : Int) 9 (by omega) (by omega) (by omega) (by omega)
  have r3 : rkm m c = m (100 + (c : Int)) 3 := rfl
  have r9 : wsm m c = m (100 + (c : Int)) 9 := rfl
  have okc := rk_ok wC wD (n := c + 1) (by omega) c (by omega) hws
  have ok := rk_ok wC wD (n := c) (by omega)
  obtain ⟨g1, g2, g3⟩ := id hrg
  obtain ⟨f, g3⟩ := aw_ub g3
  have hwt := wt_b (c := c) (by omega)
  refine a_ald1 eX7_offer_0 ?_
  refine a_getR 2 (21 + 1) eX7_offer_1 fl_X7_35 rfl rfl (sh_day (Or.inl rfl)) ((congrFun (congrFun hR _) _).trans (rf_day_2 (Or.inl rfl))) ?_
  refine a_ild2 eX7_offer_4 ?_
  refine a_aald _ eX7_offer_5 (sh_day_1 (Or.inl rfl)) rfl rfl rfl (by omega) ((congrFun (congrFun hR _) _).trans (rf_cab (Or.inl rfl) (by omega))) ?_
  refine a_getI 9 eX7_offer_6 fl_X7_44 rfl rfl (sh_cab (Or.inl rfl) (by omega)) ?_
  refine a_eqtop (y0 := wsm m c) (by exact e9) ?_
  refine a_ist3 eX7_offer_9 (by decide) aw_n2i ?_
  refine a_ald1 eX7_offer_10 ?_
  refine a_getR 2 (21 + 1) eX7_offer_11 fl_X7_35 rfl rfl (sh_day (Or.inl rfl)) ((congrFun (congrFun hR _) _).trans (rf_day_2 (Or.inl rfl))) ?_
  refine a_ild2 eX7_offer_14 ?_
  refine a_aald _ eX7_offer_15 (sh_day_1 (Or.inl rfl)) rfl rfl rfl (by omega) ((congrFun (congrFun hR _) _).trans (rf_cab (Or.inl rfl) (by omega))) ?_
  refine a_getI 3 eX7_offer_16 fl_X7_52 rfl rfl (sh_cab (Or.inl rfl) (by omega)) ?_
  refine a_eqtop (y0 := rkm m c) (by exact e3) ?_
  refine a_ist4 eX7_offer_19 (by decide) aw_n2i ?_
  refine a_ald0 eX7_offer_21 ?_
  refine a_ald1 eX7_offer_22 ?_
  refine a_ild3 eX7_offer_23 ?_
  refine a_ild2 eX7_offer_24 ?_
  refine a_cV3 eX7_offer_25 lk_X7_55 mV_X7_findWays sh_84 ⟨_, rfl, rfl⟩ mt_X7_findWays rfl rfl rfl rfl rfl rfl rfl (c_X7_findWays hR hD wC wD hS hS6 (n1 := c) (by omega) g3 okc.2.1 (fun σ1 t f1 hfw ht100 hF => ?_))
  dsimp only [Option.toList, List.cons_append, List.nil_append]
  have hR : σ1.2.2 = RF tw cs := by rw [f1.2]; exact hR
  have hS1 : σ1.1 84 2 = (S : Int) := (f1.1 _ _ (by omega) (by omega)).trans hS
  have hbr : ∀ v : Int, 0 ≤ v → v < 6 → σ1.1 85 v = (-268435456) ∨ (-134217728 ≤ σ1.1 85 v ∧ σ1.1 85 v ≤ 134217728) := fun v z1 z2 => by have := hfw.2.1 v z1 z2; omega
  have hbg := hbr (rkm m c) (by omega) (by omega)
  obtain ⟨f', k1, k2, k3⟩ := new_feas ok (by omega) g3 hF hbr
  have hst : σ1.1 85 (wsm m c) = 0 := hfw.1
  have hfs : f' (wsm m c) = 0 := by rw [k1 _ okc.2.1.1 okc.2.1.2 (by rw [hst]; decide)]; exact hst
  have hdd : dl f' (rkm m) (wsm m) c = - f' (rkm m c) := by unfold dl; rw [hfs]; omega
  refine a_ald0 eX7_offer_28 ?_
  refine a_getR 0 85 eX7_offer_29 fl_X7_9 rfl rfl sh_84 ((congrFun (congrFun hR _) _).trans rf_84_0) ?_
  refine a_ild4 eX7_offer_32 ?_
  refine a_iald eX7_offer_34 sh_85 rfl (by omega) ?_
  refine a_ldc (-268435456) (by decide) eX7_offer_35 kc_X7_59 ?_
  refine a_icmp_eq 55 eX7_offer_37 (by decide) (by omega) (fun hT37 => ?_) (fun hF37 => ?_)
  · skip
    refine a_vret eX7_offer_55 rfl rfl ⟨Nat.zero_le _, Nat.zero_le _⟩ ?_
    refine hk σ1 S ⟨fun a j p q _ => f1.1 a j p q, f1.2⟩ hS6 hS1 (rg_skip g1 g2 k3 (fun _ => ?_))
    by_cases z : σ1.1 85 (rkm m c) = (-268435456)
    · have := k2 _ okc.1.1 okc.1.2 z
      omega
    · have := k1 _ okc.1.1 okc.1.2 z
      omega
  · skip
    refine a_ald0 eX7_offer_40 ?_
    refine a_getR 0 85 eX7_offer_41 fl_X7_9 rfl rfl sh_84 ((congrFun (congrFun hR _) _).trans rf_84_0) ?_
    refine a_ild4 eX7_offer_44 ?_
    refine a_iald eX7_offer_46 sh_85 rfl (by omega) ?_
    refine a_ild2 eX7_offer_47 ?_
    refine a_cS1 eX7_offer_48 lk_X7_60 mS_X7_worthOf mt_X7_worthOf rfl rfl rfl rfl rfl (c_X7_worthOf (by omega) ?_)
    dsimp only [Option.toList, List.cons_append, List.nil_append]
    refine a_iadd eX7_offer_51 ?_
    refine a_if_gt 56 eX7_offer_52 (by decide) (by omega) (fun hT52 => ?_) (fun hF52 => ?_)
    · skip
      refine a_ild4 eX7_offer_56 ?_
      refine a_ist5 eX7_offer_58 (by decide) aw_n2i ?_
      refine a_iconst eX7_offer_60 ?_
      refine a_ist6 eX7_offer_61 (by decide) aw_n2i ?_
      have hD1 : dayC σ1 21 0 m := dayC_R wD (fun a j q => f1.1 a j (by omega) (by omega)) hD
      obtain ⟨τ, ht⟩ := fw_tight hfw hF
      have hgn : σ1.1 85 (rkm m c) ≠ (-268435456) := by omega
      have hfg := k1 _ okc.1.1 okc.1.2 hgn
      refine lp_ofW (σ := σ1) hR hD1 wC wD hc hws ht k1 (by omega) (fun σ2 S2 f2 h2 h3 h4 => hk σ2 S2 ⟨fun a j p q r => (f2.1 a j p q r).trans (f1.1 a j p q), f2.2.trans f1.2⟩ h2 h3 h4) _ 0 σ1 S (rkm m c) none (Nat.le_refl _) ⟨fun _ _ _ => rfl, rfl⟩ hS1 ⟨hS6, g1, fun r r1 r2 => ?_, k3, okc.1, hgn, fun _ => rkm m c, rfl, fun i hi => by omega, fun i j hi hj => by omega, fun _ _ _ _ _ _ => rfl⟩
      rw [g2 r r1 r2]
      omega
    · skip
      refine a_vret eX7_offer_55 rfl rfl ⟨Nat.zero_le _, Nat.zero_le _⟩ ?_
      refine hk σ1 S ⟨fun a j p q _ => f1.1 a j p q, f1.2⟩ hS6 hS1 (rg_skip g1 g2 k3 (fun _ => ?_))
      by_cases z : σ1.1 85 (rkm m c) = (-268435456)
      · have := k2 _ okc.1.1 okc.1.2 z
        omega
      · have := k1 _ okc.1.1 okc.1.2 z
        omega

set_option maxHeartbeats 4000000 in
set_option maxRecDepth 100000 in
theorem lp_grt {l : Launch} {σ : aw_S} {Post : Option Value → aw_S → Prop} {tw cs : Bool} (hR : σ.2.2 = RF tw cs) {m : mS} {N : Int} (hD : dayC σ 21 0 m) (wC : wfCity m) (wD : wfDay m 0 N) (hk : ∀ (σ' : aw_S) (S : Nat), frS σ σ' → S < 65536 → rgOK m S (m 0 4).toNat → Post (some (.int (jI (S : Int)))) σ')  : ∀ (n : Nat) (i : Nat) (σ1 : aw_S) (S : Nat), ((m 0 4 - (i : Int)).toNat ≤ n) → ((i : Int) ≤ m 0 4) → (frS σ σ1) → (σ1.1 84 2 = (S : Int)) → (S < 65536) → (rgOK m S i) → AW l yX7_greatest cX7_greatest 3 (some .int) 5 121 0 0 SH Post SH 0 0 (σ1) 7 [some (.ref 84), some (.ref 21), some (.int (jI (i : Int)))] [] := by
  intro n
  induction n with
  | zero =>
    intro i σ1 S hm hi f1 hS hS6 hrg
    have hR : σ1.2.2 = RF tw cs := by rw [f1.2]; exact hR
    have hD1 : dayC σ1 21 0 m := dayC_R wD (fun a j q => f1.1 a j (by omega) (by omega) (by omega)) hD
    have v16 := (wfDay_0 wD).2.1
    have e2 : σ1.1 21 1 = m 0 4 := hD1.2.1
    refine a_ild2 eX7_greatest_7 ?_
    refine a_ald1 eX7_greatest_8 ?_
    refine a_getI 1 eX7_greatest_9 fl_X7_22 rfl rfl (sh_day (Or.inl rfl)) ?_
    refine a_eqtop (y0 := m 0 4) (by exact e2) ?_
    refine a_icmp_ge 35 eX7_greatest_12 (by decide) (by omega) (fun hT12 => ?_) (fun hF12 => ?_)
    · skip
      refine a_ald0 eX7_greatest_35 ?_
      refine a_getI 2 eX7_greatest_36 fl_X7_18 rfl rfl sh_84 ?_
      refine a_eqtop (y0 := ((S : Nat) : Int)) (by exact hS) ?_
      refine a_iret eX7_greatest_39 rfl rfl ⟨Nat.zero_le _, Nat.zero_le _⟩ ?_
      have e9 : (m 0 4).toNat = i := by omega
      exact hk σ1 S f1 hS6 (by rw [e9]; exact hrg)
    · skip
      exfalso; omega
  | succ n ih =>
    intro i σ1 S hm hi f1 hS hS6 hrg
    have hR : σ1.2.2 = RF tw cs := by rw [f1.2]; exact hR
    have hD1 : dayC σ1 21 0 m := dayC_R wD (fun a j q => f1.1 a j (by omega) (by omega) (by omega)) hD
    have v16 := (wfDay_0 wD).2.1
    have e2 : σ1.1 21 1 = m 0 4 := hD1.2.1
    refine a_ild2 eX7_greatest_7 ?_
    refine a_ald1 eX7_greatest_8 ?_
    refine a_getI 1 eX7_greatest_9 fl_X7_22 rfl rfl (sh_day (Or.inl rfl)) ?_
    refine a_eqtop (y0 := m 0 4) (by exact e2) ?_
    refine a_icmp_ge 35 eX7_greatest_12 (by decide) (by omega) (fun hT12 => ?_) (fun hF12 => ?_)
    · skip
      refine a_ald0 eX7_greatest_35 ?_
      refine a_getI 2 eX7_greatest_36 fl_X7_18 rfl rfl sh_84 ?_
      refine a_eqtop (y0 := ((S : Nat) : Int)) (by exact hS) ?_
      refine a_iret eX7_greatest_39 rfl rfl ⟨Nat.zero_le _, Nat.zero_le _⟩ ?_
      have e9 : (m 0 4).toNat = i := by omega
      exact hk σ1 S f1 hS6 (by rw [e9]; exact hrg)
    · skip
      refine a_ald1 eX7_greatest_15 ?_
      refine a_ild2 eX7_greatest_16 ?_
      refine a_cS2 eX7_greatest_17 lk_X7_27 mS_X7_wishes mt_X7_wishes rfl rfl rfl rfl rfl rfl (c_X7_wishes hR hD1 wC wD (c := i) (by omega) (fun hT17 => ?_) (fun hF17 => ?_))
      · skip
        dsimp only [Option.toList, List.cons_append, List.nil_append]
        refine a_if_eq 29 eX7_greatest_20 (by decide) (by omega) (fun h => absurd h (by decide)) (fun _ => ?_)
        refine a_ald0 eX7_greatest_23 ?_
        refine a_ald1 eX7_greatest_24 ?_
        refine a_ild2 eX7_greatest_25 ?_
        refine a_cV2 eX7_greatest_26 lk_X7_31 mV_X7_offer sh_84 ⟨_, rfl, rfl⟩ mt_X7_offer rfl rfl rfl rfl rfl rfl (c_X7_offer hR hD1 wC wD hS hS6 (c := i) (by omega) hT17 hrg (fun σ2 S2 f2 hS62 hS2 hrg2 => ?_))
        dsimp only [Option.toList, List.cons_append, List.nil_append]
        refine a_iinc2 eX7_greatest_29 (by decide) aw_n2r ?_
        refine a_goto 7 eX7_greatest_32 (by decide) ?_
        rw [show (i : Int) + 1 = (((i + 1 : Nat) : Nat) : Int) by omega]
        first
          | exact ih (i + 1) σ2 S2 (by omega) (by omega) (frS_tr f1 f2) hS2 hS62 hrg2
          | exact ih (i + 1) σ1 S (by omega) (by omega) f1 hS hS6 (by
              obtain ⟨g1, g2, g3⟩ := hrg
              obtain ⟨f, g3⟩ := aw_ub g3
              exact rg_skip g1 g2 g3 (fun z => absurd z hF17))
      · skip
        dsimp only [Option.toList, List.cons_append, List.nil_append]
        refine a_if_eq 29 eX7_greatest_20 (by decide) (by omega) (fun _ => ?_) (fun h => absurd h (by decide))
        refine a_iinc2 eX7_greatest_29 (by decide) aw_n2r ?_
        refine a_goto 7 eX7_greatest_32 (by decide) ?_
        rw [show (i : Int) + 1 = (((i + 1 : Nat) : Nat) : Int) by omega]
        first
          | exact ih (i + 1) σ2 S2 (by omega) (by omega) (frS_tr f1 f2) hS2 hS62 hrg2
          | exact ih (i + 1) σ1 S (by omega) (by omega) f1 hS hS6 (by
              obtain ⟨g1, g2, g3⟩ := hrg
              obtain ⟨f, g3⟩ := aw_ub g3
              exact rg_skip g1 g2 g3 (fun z => absurd z hF17))

set_option maxHeartbeats 4000000 in
set_option maxRecDepth 100000 in
theorem c_X7_greatest {l : Launch} {σ : aw_S} {Post : Option Value → aw_S → Prop} {tw cs : Bool} (hR : σ.2.2 = RF tw cs) {m : mS} {N : Int} (hD : dayC σ 21 0 m) (wC : wfCity m) (wD : wfDay m 0 N) (hk : ∀ (σ' : aw_S) (S : Nat), frS σ σ' → S < 65536 → rgOK m S (m 0 4).toNat → Post (some (.int (jI (S : Int)))) σ')  : AE l yX7_greatest cX7_greatest 3 (some .int) 5 121 0 0 SH SH σ [.ref 84, .ref 21] Post := by
  show AW l yX7_greatest cX7_greatest 3 (some .int) 5 121 0 0 SH Post SH 0 0 σ 0 [some (.ref 84), some (.ref 21), none] []
  have v16 := (wfDay_0 wD).2.1
  refine a_ald0 eX7_greatest_0 ?_
  refine a_iconst eX7_greatest_1 ?_
  refine a_putI 2 eX7_greatest_2 fl_X7_18 rfl rfl sh_84 (fun q h => Or.inl (by cases h; rfl)) ?_
  refine a_iconst eX7_greatest_5 ?_
  refine a_ist2 eX7_greatest_6 (by decide) aw_n2r ?_
  refine lp_grt hR hD wC wD hk _ 0 (aw_si σ 84 2 0) 0 (Nat.le_refl _) (by omega) ⟨fun a j p q r => by rw [rd_si, if_neg r], rfl⟩ rd_si_eq (by omega) ⟨fun c hc => absurd hc (by rw [Nat.zero_testBit]; decide), fun r r1 r2 => rfl, aw_mb ⟨fun _ => 0, fun c hc => by omega⟩⟩

set_option maxHeartbeats 4000000 in
set_option maxRecDepth 100000 in
theorem c_X9_rings {l : Launch} {σ : aw_S} {Post : Option Value → aw_S → Prop} {tw cs : Bool} (hR : σ.2.2 = RF tw cs) {m : mS} {N : Int} (hD : dayC σ 21 0 m) (wC : wfCity m) (wD : wfDay m 0 N) (hk : ∀ (σ' : aw_S) (S : Nat), frS σ σ' → S < 65536 → rgOK m S (m 0 4).toNat → Post (some (.int (jI (S : Int)))) σ')  : AE l yX9_rings cX9_rings 1 (some .int) 6 143 0 0 SH SH σ [.ref 0] Post := by
  show AW l yX9_rings cX9_rings 1 (some .int) 6 143 0 0 SH Post SH 0 0 σ 0 [some (.ref 0)] []
  refine a_ald0 eX9_rings_0 ?_
  refine a_getR 9 84 eX9_rings_1 fl_X9_69 rfl rfl sh_0 ((congrFun (congrFun hR _) _).trans rf_0_9) ?_
  refine a_ald0 eX9_rings_4 ?_
  refine a_getR 2 21 eX9_rings_5 fl_X9_26 rfl rfl sh_0 ((congrFun (congrFun hR _) _).trans rf_0_2) ?_
  refine a_cV1 eX9_rings_8 lk_X9_309 mV_X7_greatest sh_84 ⟨_, rfl, rfl⟩ mt_X7_greatest rfl rfl rfl rfl rfl (c_X7_greatest hR hD wC wD (fun σ1 S f1 hS6 hrg => ?_))
  dsimp only [Option.toList, List.cons_append, List.nil_append]
  refine a_iret eX9_rings_11 rfl rfl ⟨Nat.zero_le _, Nat.zero_le _⟩ ?_
  exact hk σ1 S f1 hS6 hrg
