/-! ===== what a step on the day leaves alone ===== -/
def upr (m : mS) (a : Int) (g : Int → Int) : mS := fun b j => if b = a then g j else m b j
theorem upr_eq {m : mS} {a : Int} {g : Int → Int} {j : Int} : upr m a g a j = g j := if_pos rfl
theorem upr_ne {m : mS} {a b : Int} {g : Int → Int} {j : Int} (h : b ≠ a) : upr m a g b j = m b j := if_neg h
theorem upr_row {m : mS} {a : Int} {g : Int → Int} : upr m a g a = g := funext (fun _ => if_pos rfl)
theorem upr_rne {m : mS} {a b : Int} {g : Int → Int} (h : b ≠ a) : upr m a g b = m b := funext (fun _ => if_neg h)
/-- the class: today's cells alone have changed -/
def frC (σ σ' : aw_S) : Prop := (∀ (a : Nat) (j : Int), ¬ (21 ≤ a ∧ a < 49) → σ'.1 a j = σ.1 a j) ∧ σ'.2 = σ.2
/-- the reference: the day's cells alone have changed -/
def frM (σ σ' : aw_S) : Prop := (∀ (a : Nat) (j : Int), ¬ (182 ≤ a ∧ a ≤ 186) → ¬ (a = 171 ∧ (j = 21 ∨ j = 22 ∨ j = 26)) → σ'.1 a j = σ.1 a j) ∧ σ'.2 = σ.2
/-- the model: the day's rows alone have changed -/
def frm (m m' : mS) : Prop := ∀ a j : Int, ¬ (a = 0 ∧ 3 ≤ j ∧ j ≤ 5) → ¬ (a = 10 ∨ a = 11) → ¬ (100 ≤ a ∧ a < 340) → m' a j = m a j
theorem frC_rf (σ : aw_S) : frC σ σ := ⟨fun _ _ _ => rfl, rfl⟩
theorem frM_rf (σ : aw_S) : frM σ σ := ⟨fun _ _ _ _ => rfl, rfl⟩
theorem frm_rf (m : mS) : frm m m := fun _ _ _ _ _ => rfl
theorem frC_tr {σ σ1 σ2 : aw_S} (h1 : frC σ σ1) (h2 : frC σ1 σ2) : frC σ σ2 := ⟨fun a j h => (h2.1 a j h).trans (h1.1 a j h), h2.2.trans h1.2⟩
theorem frM_tr {σ σ1 σ2 : aw_S} (h1 : frM σ σ1) (h2 : frM σ1 σ2) : frM σ σ2 := ⟨fun a j h q => (h2.1 a j h q).trans (h1.1 a j h q), h2.2.trans h1.2⟩
theorem frm_tr {m m1 m2 : mS} (h1 : frm m m1) (h2 : frm m1 m2) : frm m m2 := fun a j x y z => (h2 a j x y z).trans (h1 a j x y z)
theorem frC_R {σ σ' : aw_S} {tw cs : Bool} (h : frC σ σ') (hR : σ.2.2 = RF tw cs) : σ'.2.2 = RF tw cs := by rw [h.2]; exact hR
theorem frM_R {σ σ' : aw_S} {tw cs : Bool} (h : frM σ σ') (hR : σ.2.2 = RF tw cs) : σ'.2.2 = RF tw cs := by rw [h.2]; exact hR
theorem wfCity_fr {m m' : mS} (h : frm m m') (w : wfCity m) : wfCity m' := by
  have e : ∀ a j : Int, (0 ≤ a ∧ a ≤ 9) → ¬ (a = 0 ∧ 3 ≤ j) → m' a j = m a j := fun a j h1 h2 => h a j (by omega) (by omega) (by omega)
  unfold wfCity at w ⊢
  simp only [e 0 0 (by omega) (by omega), e 0 1 (by omega) (by omega), e 0 2 (by omega) (by omega), fun r => e 1 r (by omega) (by omega), fun r => e 2 r (by omega) (by omega), fun r => e 3 r (by omega) (by omega), fun r => e 4 r (by omega) (by omega), fun r => e 5 r (by omega) (by omega), fun r => e 6 r (by omega) (by omega), fun r => e 7 r (by omega) (by omega), fun r => e 8 r (by omega) (by omega), fun r => e 9 r (by omega) (by omega)]
  exact w
theorem cityC_m {σ : aw_S} {t : Nat} {m m' : mS} (h : frm m m') (c : cityC σ t m) : cityC σ t m' := by
  have e : ∀ a j : Int, (0 ≤ a ∧ a ≤ 9) → ¬ (a = 0 ∧ 3 ≤ j) → m' a j = m a j := fun a j h1 h2 => h a j (by omega) (by omega) (by omega)
  unfold cityC at c ⊢
  simp only [e 0 0 (by omega) (by omega), e 0 1 (by omega) (by omega), e 0 2 (by omega) (by omega), fun r => e 1 r (by omega) (by omega), fun r => e 2 r (by omega) (by omega), fun r => e 3 r (by omega) (by omega), fun r => e 4 r (by omega) (by omega), fun r => e 5 r (by omega) (by omega), fun r => e 6 r (by omega) (by omega), fun r => e 7 r (by omega) (by omega), fun r => e 8 r (by omega) (by omega), fun r => e 9 r (by omega) (by omega)]
  exact c
theorem cityM_m {σ : aw_S} {m m' : mS} (h : frm m m') (c : cityM σ m) : cityM σ m' := by
  have e : ∀ a j : Int, (0 ≤ a ∧ a ≤ 9) → ¬ (a = 0 ∧ 3 ≤ j) → m' a j = m a j := fun a j h1 h2 => h a j (by omega) (by omega) (by omega)
  unfold cityM at c ⊢
  simp only [e 0 0 (by omega) (by omega), e 0 1 (by omega) (by omega), e 0 2 (by omega) (by omega), fun r => e 1 r (by omega) (by omega), fun r => e 2 r (by omega) (by omega), fun r => e 3 r (by omega) (by omega), fun r => e 4 r (by omega) (by omega), fun r => e 5 r (by omega) (by omega), fun r => e 6 r (by omega) (by omega), fun r => e 7 r (by omega) (by omega), fun r => e 8 r (by omega) (by omega), fun r => e 9 r (by omega) (by omega)]
  exact c
theorem cityC_s {σ σ' : aw_S} {t : Nat} {m : mS} (ht : isCity t) (h : frC σ σ') (c : cityC σ t m) : cityC σ' t m := by
  have e : ∀ (a : Nat) (j : Int), a < 21 → σ'.1 a j = σ.1 a j := fun a j h1 => h.1 a j (by omega)
  have ht2 : t ≤ 13 := by rcases ht with rfl | rfl <;> omega
  unfold cityC at c ⊢
  simp only [fun j => e t j (by omega), fun j => e (t + 1) j (by omega), fun j => e (t + 2) j (by omega), fun j => e (t + 3) j (by omega), fun j => e (t + 4) j (by omega), fun j => e (t + 5) j (by omega), fun j => e (t + 6) j (by omega), fun j => e (t + 7) j (by omega)]
  exact c
theorem cityM_s {σ σ' : aw_S} {m : mS} (h : frM σ σ') (c : cityM σ m) : cityM σ' m := by
  have e : ∀ (a : Nat) (j : Int), ¬ (182 ≤ a ∧ a ≤ 186) → ¬ (a = 171 ∧ (j = 21 ∨ j = 22 ∨ j = 26)) → σ'.1 a j = σ.1 a j := h.1
  unfold cityM at c ⊢
  simp only [e 171 14 (by omega) (by omega), e 171 16 (by omega) (by omega), e 171 20 (by omega) (by omega), fun j => e 178 j (by omega) (by omega), fun j => e 179 j (by omega) (by omega), fun j => e 180 j (by omega) (by omega), fun j => e 181 j (by omega) (by omega)]
  exact c
/-! ===== a cab's fields, a row, the passes: changed as a whole ===== -/
theorem dayC_cab {σ σ' : aw_S} {m : mS} {c : Int} {x : Int → Int} (hc : 0 ≤ c ∧ c < m 0 4) (h16 : m 0 4 ≤ 16) (h : dayC σ 21 0 m) (ho : ∀ (a : Nat) (j : Int), a ≠ 21 + 12 + c.toNat → σ'.1 a j = σ.1 a j) (hx : ∀ f : Int, 0 ≤ f → f < 11 → σ'.1 (21 + 12 + c.toNat) f = x f) : dayC σ' 21 0 (upr m (100 + c) x) := by
  obtain ⟨d1, d2, d3, d4, d5, d6, d7⟩ := h
  have u : ∀ b : Int, b < 100 ∨ 116 ≤ b → upr m (100 + c) x b = m b := fun b hb => upr_rne (by omega)
  refine ⟨?_, ?_, ?_, fun r r1 r2 => ?_, fun e f e1 e2 f1 f2 => ?_, fun r k r1 r2 k1 k2 => ?_, fun i w i1 i2 w1 w2 => ?_⟩
  · rw [u 0 (by omega), ho _ _ (by omega)]; exact d1
  · rw [u 0 (by omega), ho _ _ (by omega)]; exact d2
  · rw [u 0 (by omega), ho _ _ (by omega)]; exact d3
  · rw [u _ (by omega), u _ (by omega), ho _ _ (by omega), ho _ _ (by omega)]; exact d4 r r1 r2
  · rw [u 0 (by omega)] at e2
    by_cases q : e = c
    · subst q
      rw [Int.zero_add, upr_eq]; exact hx f f1 f2
    · rw [upr_ne (by omega), ho _ _ (by omega)]; exact d5 e f e1 e2 f1 f2
  · rw [u _ (by omega)] at k2
    rw [u _ (by omega), ho _ _ (by omega)]; exact d6 r k r1 r2 k1 k2
  · rw [u 0 (by omega)] at i2
    rw [u _ (by omega), ho _ _ (by omega)]; exact d7 i w i1 i2 w1 w2
theorem dayM_cab {σ σ' : aw_S} {m : mS} {c : Int} {x : Int → Int} (hc : 0 ≤ c ∧ c < m 0 4) (h16 : m 0 4 ≤ 16) (h : dayM σ m) (ho : ∀ (a : Nat) (j : Int), ¬ (a = 182 ∧ 11 * c ≤ j ∧ j < 11 * c + 11) → σ'.1 a j = σ.1 a j) (hx : cabM (σ'.1 182) (11 * c) x) : dayM σ' (upr m (100 + c) x) := by
  obtain ⟨d1, d2, d3, d4, d5, d6, d7⟩ := h
  have u : ∀ b : Int, b < 100 ∨ 116 ≤ b → upr m (100 + c) x b = m b := fun b hb => upr_rne (by omega)
  refine ⟨?_, ?_, ?_, fun r r1 r2 => ?_, fun e e1 e2 => ?_, fun r k r1 r2 k1 k2 => ?_, fun i w i1 i2 w1 w2 => ?_⟩
  · rw [u 0 (by omega), ho _ _ (by omega)]; exact d1
  · rw [u 0 (by omega), ho _ _ (by omega)]; exact d2
  · rw [u 0 (by omega), ho _ _ (by omega)]; exact d3
  · rw [u _ (by omega), u _ (by omega), ho _ _ (by omega), ho _ _ (by omega)]; exact d4 r r1 r2
  · rw [u 0 (by omega)] at e2
    by_cases q : e = c
    · subst q
      rw [Int.zero_add, upr_row]; exact hx
    · rw [upr_rne (by omega)]
      have := d5 e e1 e2
      unfold cabM at this ⊢
      simp only [ho 182 (11 * e) (by omega), ho 182 (11 * e + 9) (by omega), ho 182 (11 * e + 1) (by omega), ho 182 (11 * e + 2) (by omega), ho 182 (11 * e + 3) (by omega), ho 182 (11 * e + 4) (by omega), ho 182 (11 * e + 5) (by omega), ho 182 (11 * e + 6) (by omega), ho 182 (11 * e + 7) (by omega), ho 182 (11 * e + 8) (by omega), ho 182 (11 * e + 10) (by omega)]
      exact this
  · rw [u _ (by omega)] at k2
    rw [u _ (by omega), ho _ _ (by omega)]; exact d6 r k r1 r2 k1 k2
  · rw [u 0 (by omega)] at i2
    rw [u _ (by omega), ho _ _ (by omega)]; exact d7 i w i1 i2 w1 w2
/-- the passes are np, what g says -/
def mps (m : mS) (np : Int) (g : Int → Int → Int) : mS := fun a j => if a = 0 ∧ j = 5 then np else if 300 ≤ a ∧ a < 340 then g (a - 300) j else m a j
theorem mps_np {m : mS} {np : Int} {g : Int → Int → Int} : mps m np g 0 5 = np := if_pos ⟨rfl, rfl⟩
theorem mps_ne {m : mS} {np : Int} {g : Int → Int → Int} {a j : Int} (h : ¬ (a = 0 ∧ j = 5)) (h2 : ¬ (300 ≤ a ∧ a < 340)) : mps m np g a j = m a j := by unfold mps; rw [if_neg h, if_neg h2]
theorem mps_g {m : mS} {np : Int} {g : Int → Int → Int} {i j : Int} (h : 0 ≤ i ∧ i < 40) : mps m np g (300 + i) j = g i j := by
  unfold mps; rw [if_neg (by omega), if_pos (by omega)]; congr 1; omega
theorem frm_mps {m : mS} {np : Int} {g : Int → Int → Int} : frm m (mps m np g) := fun a j h1 h2 h3 => mps_ne (by omega) (by omega)
theorem dayC_pass {σ σ' : aw_S} {m : mS} {np : Int} {g : Int → Int → Int} (hn : 0 ≤ np ∧ np ≤ 40) (h : dayC σ 21 0 m) (ho : ∀ (a : Nat) (j : Int), ¬ (a = 21 + 11) → ¬ (a = 21 ∧ j = 6) → σ'.1 a j = σ.1 a j) (h1 : σ'.1 21 6 = np) (h2 : ∀ i w : Int, 0 ≤ i → i < np → 0 ≤ w → w < 5 → σ'.1 (21 + 11) (5 * i + w) = g i w) (h16 : m 0 4 ≤ 16) : dayC σ' 21 0 (mps m np g) := by
  obtain ⟨d1, d2, d3, d4, d5, d6, d7⟩ := h
  refine ⟨?_, ?_, ?_, fun r r1 r2 => ?_, fun e f e1 e2 f1 f2 => ?_, fun r k r1 r2 k1 k2 => ?_, fun i w i1 i2 w1 w2 => ?_⟩
  · rw [mps_ne (by omega) (by omega), ho _ _ (by omega) (by omega)]; exact d1
  · rw [mps_ne (by omega) (by omega), ho _ _ (by omega) (by omega)]; exact d2
  · rw [mps_np]; exact h1
  · rw [mps_ne (by omega) (by omega), mps_ne (by omega) (by omega), ho _ _ (by omega) (by omega), ho _ _ (by omega) (by omega)]; exact d4 r r1 r2
  · rw [mps_ne (by omega) (by omega)] at e2
    rw [mps_ne (by omega) (by omega), ho _ _ (by omega) (by omega)]; exact d5 e f e1 e2 f1 f2
  · rw [mps_ne (by omega) (by omega)] at k2
    rw [mps_ne (by omega) (by omega), ho _ _ (by omega) (by omega)]; exact d6 r k r1 r2 k1 k2
  · rw [mps_np] at i2
    rw [Int.zero_add, mps_g (by omega)]; exact h2 i w i1 i2 w1 w2
theorem dayM_pass {σ σ' : aw_S} {m : mS} {np : Int} {g : Int → Int → Int} (hn : 0 ≤ np ∧ np ≤ 40) (h : dayM σ m) (ho : ∀ (a : Nat) (j : Int), ¬ (a = 185) → ¬ (a = 171 ∧ j = 26) → σ'.1 a j = σ.1 a j) (h1 : σ'.1 171 26 = np) (h2 : ∀ i w : Int, 0 ≤ i → i < np → 0 ≤ w → w < 5 → σ'.1 185 (5 * i + w) = g i w) (h16 : m 0 4 ≤ 16) : dayM σ' (mps m np g) := by
  obtain ⟨d1, d2, d3, d4, d5, d6, d7⟩ := h
  have e182 : σ'.1 182 = σ.1 182 := funext (fun j => ho _ _ (by omega) (by omega))
  refine ⟨?_, ?_, ?_, fun r r1 r2 => ?_, fun e e1 e2 => ?_, fun r k r1 r2 k1 k2 => ?_, fun i w i1 i2 w1 w2 => ?_⟩
  · rw [mps_ne (by omega) (by omega), ho _ _ (by omega) (by omega)]; exact d1
  · rw [mps_ne (by omega) (by omega), ho _ _ (by omega) (by omega)]; exact d2
  · rw [mps_np]; exact h1
  · rw [mps_ne (by omega) (by omega), mps_ne (by omega) (by omega), ho _ _ (by omega) (by omega), ho _ _ (by omega) (by omega)]; exact d4 r r1 r2
  · rw [mps_ne (by omega) (by omega)] at e2
    rw [e182, show mps m np g (0 + 100 + e) = m (0 + 100 + e) from funext (fun j => mps_ne (by omega) (by omega))]
    exact d5 e e1 e2
  · rw [mps_ne (by omega) (by omega)] at k2
    rw [mps_ne (by omega) (by omega), ho _ _ (by omega) (by omega)]; exact d6 r k r1 r2 k1 k2
  · rw [mps_np] at i2
    rw [Int.zero_add, mps_g (by omega)]; exact h2 i w i1 i2 w1 w2
