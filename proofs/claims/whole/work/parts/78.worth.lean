/-! ===== what it is worth to stand where, for how long ===== -/
theorem a_eqtopL {l : Launch} {y : MethodName} {cc : ByteArray} {nL : Nat} {ret : Option FieldType} {F Lo mc ms : Nat} {she : aw_Sh} {Post : Option Value → aw_S → Prop} {sh : aw_Sh} {k n : Nat} {σ : aw_S} {pc : Nat} {ls : List (Option Value)} {st : List Value} {x y0 : Int} (h : x = y0) (kk : AW l y cc nL ret F Lo mc ms she Post sh k n σ pc ls (.long (jL y0) :: st)) : AW l y cc nL ret F Lo mc ms she Post sh k n σ pc ls (.long (jL x) :: st) := h ▸ kk
theorem jL_lt {a b : Int} (ha : -9223372036854775808 ≤ a ∧ a ≤ 9223372036854775807) (hb : -9223372036854775808 ≤ b ∧ b ≤ 9223372036854775807) : jL a < jL b ↔ a < b := by
  rw [Int64.lt_iff_toInt_lt, jL_toInt ha.1 ha.2, jL_toInt hb.1 hb.2]
theorem jL_div {a b : Int} (ha : 0 ≤ a ∧ a ≤ 9223372036854775807) (hb : 0 < b ∧ b ≤ 9223372036854775807) : jL a / jL b = jL (a / b) := by
  apply Int64.toInt_inj.mp
  have h1 : a / b ≤ a := Int.ediv_le_self _ ha.1
  have h0 : 0 ≤ a / b := Int.ediv_nonneg ha.1 (by omega)
  have e1 : (jL a).toInt = a := jL_toInt (by omega) (by omega)
  have e2 : (jL b).toInt = b := jL_toInt (by omega) (by omega)
  rw [Int64.toInt_div_of_ne_right, e1, e2, jL_toInt (by omega) (by omega), Int.tdiv_eq_ediv_of_nonneg ha.1]
  intro e
  have := congrArg Int64.toInt e
  rw [e2] at this
  have e3 : (-1 : Int64).toInt = -1 := by decide
  omega
/-- so many stand before one who comes -/
abbrev wT : Type := Nat → Int → Int → Int
def wfrom (m : mS) (ah : Int → Int) (t : wT) (p : Int) (l : Nat) (r : Int) : Int := if (l : Int) < aw_ap (m 1 r) p then -1 else t (l - (aw_ap (m 1 r) p).toNat) r (ah r)
def gbest (m : mS) (ah : Int → Int) (t : wT) (p : Int) (l : Nat) : Nat → Int
  | 0 => -1
  | k + 1 => if wfrom m ah t p l (k : Int) ≤ gbest m ah t p l k then gbest m ah t p l k else wfrom m ah t p l (k : Int)
def gwho (m : mS) (ah : Int → Int) (t : wT) (p : Int) (l : Nat) : Nat → Int
  | 0 => -1
  | k + 1 => if wfrom m ah t p l (k : Int) ≤ gbest m ah t p l k then gwho m ah t p l k else (k : Int)
def gval (m : mS) (ah : Int → Int) (t : wT) (p : Int) (l : Nat) : Int := if gbest m ah t p l (m 0 0).toNat < 0 then 0 else gbest m ah t p l (m 0 0).toNat
def fbrg (m : mS) (ah : Int → Int) (t : wT) (l : Nat) (r : Int) : Int := if m 14 r ≤ 0 ∨ (l : Int) < m 14 r then 0 else 1000 * mprice m (m 14 r) 0 + gval m ah t (m 1 (m 15 r)) (l - (m 14 r).toNat)
def layer (m : mS) (ah : Int → Int) (t : wT) (l : Nat) (r n : Int) : Int := if l = 0 then 0 else (m 13 r * (if 0 < n then t (l - 1) r (n - 1) else fbrg m ah t l r) + (16 - m 13 r) * t (l - 1) r n) / 16
def Wf (m : mS) (ah : Int → Int) : Nat → wT
  | 0 => fun _ _ _ => 0
  | f + 1 => fun l r n => layer m ah (Wf m ah f) l r n
def wW (m : mS) (ah : Int → Int) : wT := fun l r n => Wf m ah (l + 1) l r n
theorem wfrom_cg {m : mS} {ah : Int → Int} {t t' : wT} {p : Int} {l : Nat} (h : ∀ k : Nat, k ≤ l → ∀ r n, t k r n = t' k r n) (r : Int) : wfrom m ah t p l r = wfrom m ah t' p l r := by
  unfold wfrom
  split
  · rfl
  · exact h _ (by omega) _ _
theorem gbest_cg {m : mS} {ah : Int → Int} {t t' : wT} {p : Int} {l : Nat} (h : ∀ k : Nat, k ≤ l → ∀ r n, t k r n = t' k r n) : ∀ k : Nat, gbest m ah t p l k = gbest m ah t' p l k
  | 0 => rfl
  | k + 1 => by
    unfold gbest
    rw [gbest_cg h k, wfrom_cg h]
theorem gval_cg {m : mS} {ah : Int → Int} {t t' : wT} {p : Int} {l : Nat} (h : ∀ k : Nat, k ≤ l → ∀ r n, t k r n = t' k r n) : gval m ah t p l = gval m ah t' p l := by
  unfold gval
  rw [gbest_cg h]
theorem layer_cg {m : mS} {ah : Int → Int} {t t' : wT} {l : Nat} (h : ∀ k : Nat, k < l → ∀ r n, t k r n = t' k r n) (r n : Int) : layer m ah t l r n = layer m ah t' l r n := by
  unfold layer fbrg
  by_cases q : l = 0
  · rw [if_pos q, if_pos q]
  · rw [if_neg q, if_neg q, h (l - 1) (by omega), h (l - 1) (by omega)]
    congr 3
    split
    · rfl
    · by_cases z : m 14 r ≤ 0 ∨ (l : Int) < m 14 r
      · rw [if_pos z, if_pos z]
      · rw [if_neg z, if_neg z, gval_cg (fun k hk => h k (by omega))]
theorem Wf_W (m : mS) (ah : Int → Int) : ∀ (N l f : Nat), l < N → l < f → ∀ r n, Wf m ah f l r n = wW m ah l r n := by
  intro N
  induction N with
  | zero => intro l f h; omega
  | succ N ih =>
    intro l f h1 h2 r n
    obtain ⟨g, rfl⟩ : ∃ g, f = g + 1 := ⟨f - 1, by omega⟩
    show layer m ah (Wf m ah g) l r n = layer m ah (Wf m ah l) l r n
    exact layer_cg (fun k hk r n => by rw [ih k g (by omega) (by omega), ih k l (by omega) (by omega)]) r n
theorem W_eq (m : mS) (ah : Int → Int) (l : Nat) (r n : Int) : wW m ah l r n = layer m ah (wW m ah) l r n := by
  show layer m ah (Wf m ah l) l r n = _
  exact layer_cg (fun k hk r n => Wf_W m ah (k + 1) k l (by omega) (by omega) r n) r n
/-- what holds of the chances -/
def wfCh (m : mS) : Prop := ∀ r : Int, 0 ≤ r → r < 6 → (0 ≤ m 13 r ∧ m 13 r ≤ 16) ∧ (0 ≤ m 14 r ∧ m 14 r ≤ 60) ∧ (m 14 r = 0 → m 13 r = 0) ∧ (0 < m 14 r → 0 ≤ m 15 r ∧ m 15 r < m 0 0)
theorem price_mi {m : mS} {mi : Int} (wC : wfCity m) (h0 : 0 < m 0 0) (hm : 1 ≤ mi ∧ mi ≤ 60) : 0 ≤ mprice m mi 0 ∧ mprice m mi 0 ≤ 2047 * mi := by
  obtain ⟨y1, y2, y3, y4, y5, y6, y7, y8⟩ := wC
  have h := y6 h0
  have hb := aw_price_b (f0 := m 8 0) (f1 := m 8 1) (f2 := m 8 2) (f3 := m 8 3) (m := mi) (v := 0) h.1 h.2.1 h.2.2.1 h.2.2.2.1 (by omega) (by omega)
  have hu := aw_price_up (n := m 8 0 + m 8 1 * ((mi + m 8 2 - 1) / m 8 2) + m 8 3 * 0) (co := m 0 2) (by omega) (by omega)
  have hd : (mi + m 8 2 - 1) / m 8 2 ≤ mi := by
    have h3 : (mi + m 8 2 - 1) / m 8 2 < mi + 1 := (Int.ediv_lt_iff_lt_mul (by omega)).mpr (by
      have e : (mi + 1) * m 8 2 = mi * m 8 2 + m 8 2 := by rw [Int.add_mul, Int.one_mul]
      have h4 : mi * 1 ≤ mi * m 8 2 := Int.mul_le_mul_of_nonneg_left (by omega) (by omega)
      omega)
    omega
  have h5 : m 8 1 * ((mi + m 8 2 - 1) / m 8 2) ≤ 999 * mi := Int.le_trans (Int.mul_le_mul_of_nonneg_left hd (by omega)) (Int.mul_le_mul_of_nonneg_right (by omega) (by omega))
  unfold mprice aw_price
  omega
theorem W_b {m : mS} {ah : Int → Int} (wC : wfCity m) (h0 : 0 < m 0 0) (wH : wfCh m) : ∀ (N l : Nat), l < N → ∀ r n : Int, 0 ≤ r → r < 6 → 0 ≤ wW m ah l r n ∧ wW m ah l r n ≤ 2047000 * (l : Int) := by
  intro N
  induction N with
  | zero => intro l h; omega
  | succ N ih =>
    intro l hl r n r1 r2
    rw [W_eq]
    unfold layer
    by_cases q : l = 0
    · rw [if_pos q]; omega
    · rw [if_neg q]
      have h6 := wC.1
      have hc := wH r r1 r2
      have hs := ih (l - 1) (by omega) r n r1 r2
      have hB : 0 ≤ (if 0 < n then wW m ah (l - 1) r (n - 1) else fbrg m ah (wW m ah) l r) ∧ (if 0 < n then wW m ah (l - 1) r (n - 1) else fbrg m ah (wW m ah) l r) ≤ 2047000 * (l : Int) := by
        split
        · have := ih (l - 1) (by omega) r (n - 1) r1 r2
          omega
        · unfold fbrg
          split
          · omega
          · have hp := price_mi (mi := m 14 r) wC h0 (by omega)
            have hg : ∀ k : Nat, (k : Int) ≤ m 0 0 → gbest m ah (wW m ah) (m 1 (m 15 r)) (l - (m 14 r).toNat) k ≤ 2047000 * ((l - (m 14 r).toNat : Nat) : Int) := by
              intro k
              induction k with
              | zero => intro _; show (-1 : Int) ≤ _; omega
              | succ k ihk =>
                intro hk
                have h1 := ihk (by omega)
                unfold gbest
                split
                · exact h1
                · unfold wfrom
                  split
                  · omega
                  · have := (ih (l - (m 14 r).toNat - (aw_ap (m 1 (k : Int)) (m 1 (m 15 r))).toNat) (by omega) (k : Int) (ah (k : Int)) (by omega) (by omega)).2
                    omega
            have hg6 := hg (m 0 0).toNat (by omega)
            unfold gval
            split <;> omega
      obtain ⟨b, hb⟩ : ∃ b : Int, b = (if 0 < n then wW m ah (l - 1) r (n - 1) else fbrg m ah (wW m ah) l r) := ⟨_, rfl⟩
      rw [← hb] at hB ⊢
      have a1 : 0 ≤ m 13 r * b := Int.mul_nonneg (by omega) (by omega)
      have a2 : 0 ≤ (16 - m 13 r) * wW m ah (l - 1) r n := Int.mul_nonneg (by omega) (by omega)
      have a3 : m 13 r * b ≤ m 13 r * (2047000 * (l : Int)) := Int.mul_le_mul_of_nonneg_left (by omega) (by omega)
      have a4 : (16 - m 13 r) * wW m ah (l - 1) r n ≤ (16 - m 13 r) * (2047000 * (l : Int)) := Int.mul_le_mul_of_nonneg_left (by omega) (by omega)
      have a5 : m 13 r * (2047000 * (l : Int)) + (16 - m 13 r) * (2047000 * (l : Int)) = 16 * (2047000 * (l : Int)) := by rw [← Int.add_mul]; congr 1; omega
      omega
theorem wfrom_b {m : mS} {ah : Int → Int} {p : Int} {l : Nat} {r : Int} (wC : wfCity m) (h0 : 0 < m 0 0) (wH : wfCh m) (hr : 0 ≤ r ∧ r < 6) : -1 ≤ wfrom m ah (wW m ah) p l r ∧ wfrom m ah (wW m ah) p l r ≤ 2047000 * (l : Int) ∧ (wfrom m ah (wW m ah) p l r = -1 → (l : Int) < aw_ap (m 1 r) p) := by
  unfold wfrom
  split
  · rename_i q; exact ⟨by omega, by omega, fun _ => q⟩
  · have := W_b (ah := ah) wC h0 wH (l - (aw_ap (m 1 r) p).toNat + 1) (l - (aw_ap (m 1 r) p).toNat) (by omega) r (ah r) hr.1 hr.2
    exact ⟨by omega, by omega, fun z => by omega⟩
theorem gbest_b {m : mS} {ah : Int → Int} {p : Int} {l : Nat} (wC : wfCity m) (h0 : 0 < m 0 0) (wH : wfCh m) : ∀ k : Nat, (k : Int) ≤ m 0 0 → (-1 ≤ gbest m ah (wW m ah) p l k ∧ gbest m ah (wW m ah) p l k ≤ 2047000 * (l : Int)) ∧
    ((gwho m ah (wW m ah) p l k = -1 ∧ gbest m ah (wW m ah) p l k = -1) ∨ (0 ≤ gwho m ah (wW m ah) p l k ∧ gwho m ah (wW m ah) p l k < (k : Int) ∧ 0 ≤ gbest m ah (wW m ah) p l k ∧ gbest m ah (wW m ah) p l k = wfrom m ah (wW m ah) p l (gwho m ah (wW m ah) p l k)))
  | 0, _ => ⟨by show (-1 : Int) ≤ -1 ∧ (-1 : Int) ≤ _; omega, Or.inl ⟨rfl, rfl⟩⟩
  | k + 1, hk => by
    have ih := gbest_b wC h0 wH (ah := ah) (p := p) (l := l) k (by omega)
    have h6 := wC.1
    have hw := wfrom_b (ah := ah) (p := p) (l := l) (r := (k : Int)) wC h0 wH (by omega)
    unfold gbest gwho
    by_cases q : wfrom m ah (wW m ah) p l (k : Int) ≤ gbest m ah (wW m ah) p l k
    · rw [if_pos q, if_pos q]
      refine ⟨ih.1, ?_⟩
      rcases ih.2 with z | ⟨z1, z2, z3, z4⟩
      · exact Or.inl z
      · exact Or.inr ⟨z1, by omega, z3, z4⟩
    · rw [if_neg q, if_neg q]
      exact ⟨by omega, Or.inr ⟨by omega, by omega, by omega, rfl⟩⟩
def ahd (m : mS) (r : Int) : Int := if m 10 r < 10 then m 10 r else 9
theorem W_ah {m : mS} {ah ah' : Int → Int} (h6 : m 0 0 ≤ 6) (h : ∀ r : Int, 0 ≤ r → r < 6 → ah r = ah' r) : wW m ah = wW m ah' := by
  have hw : ∀ (t : wT) (p : Int) (l : Nat) (k : Nat), k < 6 → wfrom m ah t p l (k : Int) = wfrom m ah' t p l (k : Int) := fun t p l k hk => by unfold wfrom; rw [h _ (by omega) (by omega)]
  have hg : ∀ (t : wT) (p : Int) (l : Nat) (k : Nat), k ≤ 6 → gbest m ah t p l k = gbest m ah' t p l k := by
    intro t p l k
    induction k with
    | zero => intro _; rfl
    | succ k ih => intro hk; unfold gbest; rw [ih (by omega), hw t p l k (by omega)]
  have hv : ∀ (t : wT) (p : Int) (l : Nat), gval m ah t p l = gval m ah' t p l := fun t p l => by unfold gval; rw [hg t p l _ (by omega)]
  have hf : ∀ f : Nat, Wf m ah f = Wf m ah' f := by
    intro f
    induction f with
    | zero => rfl
    | succ f ih =>
      funext l r n
      show layer m ah (Wf m ah f) l r n = layer m ah' (Wf m ah' f) l r n
      rw [ih]
      unfold layer fbrg
      rw [hv]
  funext l r n
  exact congrFun (congrFun (congrFun (hf (l + 1)) l) r) n
def lcm (x y : Int) : Int := if y < x then 1 else if x = y then 0 else -1
theorem jL_cmp {a b : Int} (ha : -9223372036854775808 ≤ a ∧ a ≤ 9223372036854775807) (hb : -9223372036854775808 ≤ b ∧ b ≤ 9223372036854775807) : lg_cmp (jL a) (jL b) = jI (lcm a b) := by
  unfold lg_cmp lcm
  by_cases q : b < a
  · rw [if_pos q, if_pos (show jL b < jL a from (jL_lt hb ha).mpr q)]; rfl
  · rw [if_neg q, if_neg (show ¬ jL b < jL a from fun z => q ((jL_lt hb ha).mp z))]
    by_cases e : a = b
    · rw [if_pos e, if_pos (by rw [e])]; rfl
    · rw [if_neg e, if_neg (fun z => by have := congrArg Int64.toInt z; rw [jL_toInt ha.1 ha.2, jL_toInt hb.1 hb.2] at this; exact e this)]; rfl
theorem lcm_b (a b : Int) : -1 ≤ lcm a b ∧ lcm a b ≤ 1 ∧ (0 < lcm a b ↔ b < a) ∧ (0 ≤ lcm a b ↔ b ≤ a) := by
  unfold lcm
  split
  · omega
  · split <;> omega
