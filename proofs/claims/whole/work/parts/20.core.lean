/-! ===== numbers ===== -/
def jI (z : Int) : Int32 := Int32.ofInt z
def jL (z : Int) : Int64 := Int64.ofInt z
theorem jI_add (a b : Int) : jI a + jI b = jI (a + b) := (Int32.ofInt_add a b).symm
theorem jI_sub (a b : Int) : jI a - jI b = jI (a - b) := (Int32.ofInt_sub a b).symm
theorem jI_mul (a b : Int) : jI a * jI b = jI (a * b) := (Int32.ofInt_mul a b).symm
theorem jI_neg (a : Int) : - jI a = jI (-a) := (Int32.ofInt_neg a).symm
theorem jL_add (a b : Int) : jL a + jL b = jL (a + b) := (Int64.ofInt_add a b).symm
theorem jL_sub (a b : Int) : jL a - jL b = jL (a - b) := (Int64.ofInt_sub a b).symm
theorem jL_mul (a b : Int) : jL a * jL b = jL (a * b) := (Int64.ofInt_mul a b).symm
theorem jI_self (x : Int32) : jI x.toInt = x := Int32.ofInt_toInt x
theorem jL_self (x : Int64) : jL x.toInt = x := Int64.ofInt_toInt x
theorem jI_toInt {z : Int} (h1 : -2147483648 ≤ z) (h2 : z ≤ 2147483647) : (jI z).toInt = z := Int32.toInt_ofInt_of_le (by omega) (by omega)
theorem jL_toInt {z : Int} (h1 : -9223372036854775808 ≤ z) (h2 : z ≤ 9223372036854775807) : (jL z).toInt = z := Int64.toInt_ofInt_of_le (by omega) (by omega)
theorem jI_rg (x : Int32) : -2147483648 ≤ x.toInt ∧ x.toInt ≤ 2147483647 := by
  have h1 := Int32.le_toInt x
  have h2 := Int32.toInt_lt x
  omega
theorem jI_lt {a b : Int} (h : (-2147483648 ≤ a ∧ a ≤ 2147483647) ∧ (-2147483648 ≤ b ∧ b ≤ 2147483647)) : jI a < jI b ↔ a < b := by
  rw [Int32.lt_iff_toInt_lt, jI_toInt h.1.1 h.1.2, jI_toInt h.2.1 h.2.2]
theorem jI_le {a b : Int} (h : (-2147483648 ≤ a ∧ a ≤ 2147483647) ∧ (-2147483648 ≤ b ∧ b ≤ 2147483647)) : jI a ≤ jI b ↔ a ≤ b := by
  rw [Int32.le_iff_toInt_le, jI_toInt h.1.1 h.1.2, jI_toInt h.2.1 h.2.2]
theorem jI_eq {a b : Int} (h : (-2147483648 ≤ a ∧ a ≤ 2147483647) ∧ (-2147483648 ≤ b ∧ b ≤ 2147483647)) : jI a = jI b ↔ a = b := by
  rw [← Int32.toInt_inj, jI_toInt h.1.1 h.1.2, jI_toInt h.2.1 h.2.2]
theorem jI_clamp {i : Int} {N : Nat} (h : 0 ≤ i ∧ i < N) (hN : N ≤ 2147483647) : (jI i).toNatClampNeg = i.toNat := by
  show (jI i).toInt.toNat = _
  rw [jI_toInt (by omega) (by omega)]
theorem jI_in {i : Int} {N : Nat} (h : 0 ≤ i ∧ i < N) (hN : N ≤ 2147483647) : vp_in (jI i) N := by
  rw [vp_in_iff, jI_toInt (by omega) (by omega)]
  exact h
theorem jI_div {a b : Int} (ha : 0 ≤ a ∧ a ≤ 2147483647) (hb : 0 < b ∧ b ≤ 2147483647) : jI a / jI b = jI (a / b) := by
  apply Int32.toInt_inj.mp
  have h1 : a / b ≤ a := Int.ediv_le_self b ha.1
  have h0 : 0 ≤ a / b := Int.ediv_nonneg ha.1 (by omega)
  rw [Int32.toInt_div_of_ne_right _ _ (fun e => by
    have := congrArg Int32.toInt e
    rw [jI_toInt (by omega) (by omega)] at this
    have e2 : (-1 : Int32).toInt = -1 := by decide
    omega), jI_toInt (by omega) (by omega), jI_toInt (by omega) (by omega), jI_toInt (by omega) (by omega)]
  exact Int.tdiv_eq_ediv_of_nonneg ha.1
theorem jI_rem {a b : Int} (ha : 0 ≤ a ∧ a ≤ 2147483647) (hb : 0 < b ∧ b ≤ 2147483647) : jI a - jI a / jI b * jI b = jI (a % b) := by
  rw [jI_div ha hb, jI_mul, jI_sub, Int.emod_def, Int.mul_comm]
/-! ===== the abstract machine: its state is numbers by (name, place); names are places in the list of shapes ===== -/
abbrev aw_S : Type := (Nat → Int → Int) × (Nat → Int → Int) × (Nat → Int → Option Nat)
abbrev aw_Sh : Type := List (Nat ⊕ (Nat × Nat))
def aw_si (σ : aw_S) (a : Nat) (k : Int) (v : Int) : aw_S := (fun b j => if b = a ∧ j = k then v else σ.1 b j, σ.2.1, σ.2.2)
def aw_sl (σ : aw_S) (a : Nat) (k : Int) (v : Int) : aw_S := (σ.1, fun b j => if b = a ∧ j = k then v else σ.2.1 b j, σ.2.2)
def aw_sr (σ : aw_S) (a : Nat) (k : Int) (v : Option Nat) : aw_S := (σ.1, σ.2.1, fun b j => if b = a ∧ j = k then v else σ.2.2 b j)
/-- the kinds of arrays -/
def aw_ty : Nat → FieldType
  | 0 => .int
  | 1 => .byte
  | 2 => .boolean
  | 3 => .long
  | 4 => .object "CabRanks$Cab"
  | 5 => .object "CabRanks$Day"
  | _ => .array .int
def aw_fty (ci k : Nat) : FieldType := match ci with
  | 0 => tyX0 k
  | 1 => tyX1 k
  | 2 => tyX2 k
  | 3 => tyX3 k
  | 4 => tyX4 k
  | 5 => tyX5 k
  | 6 => tyX6 k
  | 7 => tyX7 k
  | 8 => tyX8 k
  | 9 => tyX9 k
  | _ => tyX10 k
/-- 0: a number of 32 bits; 1: of 64; 2: a reference -/
def aw_kd : FieldType → Nat
  | .long => 1
  | .object _ => 2
  | .array _ => 2
  | _ => 0
def aw_cvk (φ : Nat → Nat) (σ : aw_S) (a : Nat) (k : Int) : Nat → Value
  | 0 => .int (jI (σ.1 a k))
  | 1 => .long (jL (σ.2.1 a k))
  | _ => va_rf ((σ.2.2 a k).map φ)
def aw_cv (φ : Nat → Nat) (t : FieldType) (σ : aw_S) (a : Nat) (k : Int) : Value := aw_cvk φ σ a k (aw_kd t)
def aw_f (B : Nat) (sa : Nat → Nat) (a : Nat) : Nat := if a < 1000000 then B + a else sa (a - 1000000)
def aw_m (φ : Nat → Nat) : Value → Value
  | .ref a => .ref (φ a)
  | v => v
theorem aw_m_cat (φ : Nat → Nat) (v : Value) : (aw_m φ v).category = v.category := by cases v <;> rfl
theorem aw_m_rf (φ : Nat → Nat) (o : Option Nat) : aw_m φ (va_rf o) = va_rf (o.map φ) := by cases o <;> rfl
def aw_Pic (B : Nat) (φ : Nat → Nat) (D : va_G) (aC : Nat → ClassId) (sh : aw_Sh) (σ : aw_S) (H : Heap) : Prop :=
  H.size = B + sh.length ∧ sh.length ≤ 1000000 ∧
  (∀ k ci : Nat, sh[k]? = some (.inl ci) → ∃ r : vw_C, vwCl[ci]? = some r ∧ t_OB (B + k) (D.1 ci) r.2.2 (D.2 ci) H (fun j => aw_cv φ (aw_fty ci j) σ k (j : Int))) ∧
  (∀ k t n : Nat, sh[k]? = some (.inr (t, n)) → t < 7 ∧ H[B + k]? = some (arrV (aC t) n (fun j => aw_cv φ (aw_ty t) σ k (j : Int))))
/-- the String constants: class, entry, text, number -/
def aw_strs : List (String × Nat × String × Nat) := [("CabRanks$CityText", 69, "rank", 0), ("CabRanks$CityText", 78, "let", 1), ("CabRanks$CityText", 83, "fare", 2), ("CabRanks$CityText", 88, "short", 3), ("CabRanks$CityText", 93, "coin", 4), ("CabRanksModel", 172, "rank", 0), ("CabRanksModel", 178, "let", 1), ("CabRanksModel", 180, "fare", 2), ("CabRanksModel", 181, "short", 3), ("CabRanksModel", 183, "coin", 4)]
def aw_Str (B : Nat) (sa sv : Nat → Nat) (s : State) : Prop :=
  vk_S 5 [4, 3, 4, 5, 4] [[114, 97, 110, 107], [108, 101, 116], [102, 97, 114, 101], [115, 104, 111, 114, 116], [99, 111, 105, 110]] sa sv (fun q => B ≤ q) s s.heap ∧ (∀ q ∈ aw_strs, vk_R q.1 q.2.1 q.2.2.1 (sa q.2.2.2) s) ∧ va_Z "java/lang/String" "COMPACT_STRINGS" "Z" (.int 1) (fun q => B ≤ q) s s.heap ∧ (va_Z "jdk/internal/util/Preconditions" "SIOOBE_FORMATTER" "Ljava/util/function/BiFunction;" .null (fun q => B ≤ q) s s.heap ∨ va_Z "jdk/internal/util/Preconditions" "SIOOBE_FORMATTER" "Ljava/util/function/BiFunction;" (.ref (sa 20)) (fun q => B ≤ q) s s.heap) ∧ ∀ i : Nat, i < 5 → sa (10 + i) = sv i
def aw_isA (comp : ClassId) (x : Class) : Bool := match x.kind with
  | .array component _ => component == comp
  | _ => false
theorem aw_idx_bare (vm : Vm) (comp : ClassId) : vm.bare.classes.findIdx? (aw_isA comp) = vm.classes.findIdx? (aw_isA comp) := by
  simp only [Vm.bare, Array.findIdx?_map]
  rfl
/-- the class of the rows of int arrays -/
def aw_AA (s : State) : Prop := ∃ (comp c : ClassId) (k : Class), s.vm.findClass "[I" = some comp ∧ s.vm.classes.findIdx? (aw_isA comp) = some c ∧ s.vm.classes[c]? = some k ∧ k.kind = .array comp (.array .int) ∧ s.vm.findClass "[[I" = some c
theorem aw_AA_moved {u U : State} (hvm : u.vm.Alike U.vm) (h : aw_AA u) : aw_AA U := by
  obtain ⟨comp, c, k, h1, h2, h3, h4, h5⟩ := h
  obtain ⟨k', hk', he⟩ := hvm.2.2 _ _ h3
  have hi : U.vm.classes.findIdx? (aw_isA comp) = some c := by
    rw [← aw_idx_bare]
    first | rw [hvm.bare_eq] | rw [← hvm.bare_eq]
    rw [aw_idx_bare]
    exact h2
  exact ⟨comp, c, k', by rw [hvm.findClass]; exact h1, hi, hk', by rw [he]; exact h4, by rw [hvm.findClass]; exact h5⟩
def aw_Kn (B : Nat) (D : va_G) (aC : Nat → ClassId) (sa sv : Nat → Nat) (s : State) : Prop :=
  (∀ (c : Nat) (q : vw_C), vwCl[c]? = some q → u_Kn s q.1 q.2.1 q.2.2 (D.1 c) (D.2 c)) ∧ (∀ t : Nat, t < 7 → ArrOfT s (aC t) (aw_ty t) ∧ va_RA s (aC t) (aw_ty t)) ∧ aw_Str B sa sv s ∧ (∀ q ∈ aw_nest, va_Nw (.methodLinkNest q.1 q.2.1 q.2.2.1 q.2.2.2) s) ∧ va_AO "CabRanks$Cab" s ∧ va_AO "CabRanks$Day" s ∧ aw_AA s
def aw_Ctx (y : MethodName) (cc : ByteArray) (nL : Nat) (ret : Option FieldType) (F Lo mc ms : Nat) (B : Nat) (D : va_G) (aC : Nat → ClassId) (sa sv : Nat → Nat) (p : Program) (R : Room) (s : State) (m : MethodId) (args : Array Value) (meth : Method) (c : Code) : Prop :=
  p.tables.exec = Jvm.exec ∧ c.code = cc ∧ c.maxLocals = nL ∧ meth.sig.returnType = ret ∧ meth.locks = false ∧ meth.name = y.name ∧ s.vm.findClass y.cls = some m.cls ∧ (∀ w ∈ aw_tbl, w.before args s = true) ∧ F ≤ R.frames ∧ Lo ≤ R.locals ∧ mc ≤ R.cells ∧ ms ≤ R.slots ∧ aw_Kn B D aC sa sv s ∧ B ≤ s.heap.size
def aw_lv (φ : Nat → Nat) : Nat → List (Option Value) → List (Nat × Value)
  | _, [] => []
  | i, none :: t => aw_lv φ (i + 1) t
  | i, some v :: t => (i, aw_m φ v) :: aw_lv φ (i + 1) t
/-- behind a method: an answer and a state of which Post holds, and the picture of it -/
def aw_Q (B : Nat) (D : va_G) (aC : Nat → ClassId) (sa : Nat → Nat) (she : aw_Sh) (Post : Option Value → aw_S → Prop) : Array Value → State → Outcome → State → Prop := fun _ st oc t =>
  ∃ (r : Option Value) (σ : aw_S), oc = .returned (r.map (aw_m (aw_f B sa))) ∧ Post r σ ∧ aw_Pic B (aw_f B sa) D aC she σ t.heap ∧ va_F (fun q => B ≤ q) st t
/-- the method y, at pc with locals ls and stack st, in the state σ: it comes to its end, with an answer and a state of which Post holds -/
def AW (l : Launch) (y : MethodName) (cc : ByteArray) (nL : Nat) (ret : Option FieldType) (F Lo mc ms : Nat) (she : aw_Sh) (Post : Option Value → aw_S → Prop) (sh : aw_Sh) (k n : Nat) (σ : aw_S) (pc : Nat) (ls : List (Option Value)) (st : List Value) : Prop :=
  ∀ (B : Nat) (D : va_G) (aC : Nat → ClassId) (sa sv : Nat → Nat) (p : Program) (e : Env) (R : Room) (s : State) (m : MethodId) (args : Array Value) (below : List Frame) (meth : Method) (c : Code) (H : Heap) (locs : List Loc) (lsA : Array Slot),
    aw_Ctx y cc nL ret F Lo mc ms B D aC sa sv p R s m args meth c → aw_Pic B (aw_f B sa) D aC sh σ H → va_S (fun q => B ≤ q) s.heap H locs → lv_has lsA nL (aw_lv (aw_f B sa) 0 ls) →
    W p l e R s m args below meth c H locs k n (MQ below (aw_Q B D aC sa she Post) args s mc ms (fun q => B ≤ q)) (F0 m pc lsA (st.map (aw_m (aw_f B sa))))
def aw_ent (nL : Nat) (vals : List Value) : List (Option Value) := vals.map some ++ List.replicate (nL - vals.length) none
/-- the method from its entry -/
abbrev AE (l : Launch) (y : MethodName) (cc : ByteArray) (nL : Nat) (ret : Option FieldType) (F Lo mc ms : Nat) (she : aw_Sh) (sh : aw_Sh) (σ : aw_S) (vals : List Value) (Post : Option Value → aw_S → Prop) : Prop :=
  AW l y cc nL ret F Lo mc ms she Post sh 0 0 σ 0 (aw_ent nL vals) []
/-! locals -/
theorem aw_lv_mem (φ : Nat → Nat) : ∀ (ls : List (Option Value)) (i : Nat) (q : Nat × Value), q ∈ aw_lv φ i ls ↔ ∃ (j : Nat) (v : Value), ls[j]? = some (some v) ∧ q = (i + j, aw_m φ v)
  | [], i, q => by simp [aw_lv]
  | none :: t, i, q => by
    rw [aw_lv, aw_lv_mem φ t (i + 1) q]
    constructor
    · rintro ⟨j, v, h1, h2⟩
      exact ⟨j + 1, v, by simpa using h1, by rw [h2]; congr 1; omega⟩
    · rintro ⟨j, v, h1, h2⟩
      cases j with
      | zero => simp at h1
      | succ j => exact ⟨j, v, by simpa using h1, by rw [h2]; congr 1; omega⟩
  | some u :: t, i, q => by
    rw [aw_lv, List.mem_cons, aw_lv_mem φ t (i + 1) q]
    constructor
    · rintro (h | ⟨j, v, h1, h2⟩)
      · exact ⟨0, u, rfl, h⟩
      · exact ⟨j + 1, v, by simpa using h1, by rw [h2]; congr 1; omega⟩
    · rintro ⟨j, v, h1, h2⟩
      cases j with
      | zero => simp at h1; subst h1; exact Or.inl h2
      | succ j => exact Or.inr ⟨j, v, by simpa using h1, by rw [h2]; congr 1; omega⟩
theorem aw_at {φ : Nat → Nat} {lsA : Array Slot} {nL i : Nat} {ls : List (Option Value)} {v : Value} (h : lv_has lsA nL (aw_lv φ 0 ls)) (hi : ls[i]? = some (some v)) : lsA[i]? = some (.val (aw_m φ v)) :=
  h.2.2 (i, aw_m φ v) ((aw_lv_mem φ ls 0 _).mpr ⟨i, v, hi, by simp⟩)
theorem aw_set1 {φ : Nat → Nat} {lsA : Array Slot} {nL i : Nat} {ls : List (Option Value)} {v : Value} (hp : ∀ j u, j + 1 = i → ls[j]? = some (some u) → u.category ≠ 2)
    (h : lv_has lsA nL ((i, aw_m φ v) :: (aw_lv φ 0 ls).filter (fun q => !(q.1 == i) && !(q.1 + 1 == i && q.2.category == 2)))) : lv_has lsA nL (aw_lv φ 0 (ls.set i (some v))) := by
  refine ⟨h.1, h.2.1, fun q hq => h.2.2 q ?_⟩
  obtain ⟨j, u, h1, rfl⟩ := (aw_lv_mem φ _ 0 q).mp hq
  rw [List.getElem?_set] at h1
  by_cases e : i = j
  · subst e
    rw [if_pos rfl] at h1
    split at h1
    · cases h1
      simp
    · cases h1
  · rw [if_neg e] at h1
    refine List.mem_cons_of_mem _ (List.mem_filter.mpr ⟨(aw_lv_mem φ ls 0 _).mpr ⟨j, u, h1, rfl⟩, ?_⟩)
    have h2 : (0 + j == i) = false := beq_false_of_ne (by omega)
    simp only [aw_m_cat, h2]
    by_cases e2 : 0 + j + 1 = i
    · have := hp j u (by omega) h1
      rw [beq_false_of_ne this]
      simp
    · rw [beq_false_of_ne e2]
      simp
theorem aw_set2 {φ : Nat → Nat} {lsA : Array Slot} {nL i : Nat} {ls : List (Option Value)} {v : Value} (hp : ∀ j u, j + 1 = i → ls[j]? = some (some u) → u.category ≠ 2)
    (h : lv_has lsA nL ((i, aw_m φ v) :: (aw_lv φ 0 ls).filter (fun q => !(q.1 == i) && (!(q.1 == i + 1) && !(q.1 + 1 == i && q.2.category == 2))))) : lv_has lsA nL (aw_lv φ 0 ((ls.set i (some v)).set (i + 1) none)) := by
  refine ⟨h.1, h.2.1, fun q hq => h.2.2 q ?_⟩
  obtain ⟨j, u, h1, rfl⟩ := (aw_lv_mem φ _ 0 q).mp hq
  rw [List.getElem?_set] at h1
  by_cases e3 : i + 1 = j
  · rw [if_pos e3] at h1
    split at h1 <;> cases h1
  rw [if_neg e3, List.getElem?_set] at h1
  by_cases e : i = j
  · subst e
    rw [if_pos rfl] at h1
    split at h1
    · cases h1
      simp
    · cases h1
  · rw [if_neg e] at h1
    refine List.mem_cons_of_mem _ (List.mem_filter.mpr ⟨(aw_lv_mem φ ls 0 _).mpr ⟨j, u, h1, rfl⟩, ?_⟩)
    have h2 : (0 + j == i) = false := beq_false_of_ne (by omega)
    have h3 : (0 + j == i + 1) = false := beq_false_of_ne (by omega)
    simp only [aw_m_cat, h2, h3]
    by_cases e2 : 0 + j + 1 = i
    · have := hp j u (by omega) h1
      rw [beq_false_of_ne this]
      simp
    · rw [beq_false_of_ne e2]
      simp
theorem aw_args_mem : ∀ (vs : List Value) (i j : Nat) (v : Value), (∀ u ∈ vs, u.category = 1) → vs[j]? = some v → (i + j, v) ∈ lv_args i vs
  | [], _, _, _, _, h => by simp at h
  | u :: t, i, j, v, hc, h => by
    rw [lv_args]
    cases j with
    | zero => simp at h; subst h; exact List.mem_cons_self
    | succ j =>
      have h1 := hc u List.mem_cons_self
      have h2 := aw_args_mem t (i + 1) j v (fun x hx => hc x (List.mem_cons_of_mem _ hx)) (by simpa using h)
      rw [if_neg (by rw [h1]; decide)]
      exact List.mem_cons_of_mem _ (by rw [show i + (j + 1) = i + 1 + j by omega]; exact h2)
theorem aw_sl_len : ∀ (vs : List Value), (∀ u ∈ vs, u.category = 1) → (lg_sl vs).length = vs.length
  | [], _ => rfl
  | u :: t, hc => by
    have h1 := hc u List.mem_cons_self
    have h2 := aw_sl_len t (fun x hx => hc x (List.mem_cons_of_mem _ hx))
    unfold lg_sl at h2 ⊢
    rw [List.flatMap_cons, if_neg (by rw [h1]; decide), List.length_append, h2]
    simp; omega
theorem aw_entry {φ : Nat → Nat} {nL : Nat} {vals : List Value} (hc : vals.all (fun v => v.category == 1) = true) (hn : vals.length ≤ nL) :
    lv_has ((lg_sl (vals.map (aw_m φ)) ++ List.replicate (nL - (lg_sl (vals.map (aw_m φ))).length) Slot.unset).toArray) nL (aw_lv φ 0 (aw_ent nL vals)) := by
  have hc1 : ∀ u ∈ vals.map (aw_m φ), u.category = 1 := by
    intro u hu
    obtain ⟨v, hv, rfl⟩ := List.mem_map.mp hu
    rw [aw_m_cat]
    simpa using List.all_eq_true.mp hc v hv
  have hl := aw_sl_len _ hc1
  have h := lv_entry (vals.map (aw_m φ)) (n := nL) (by rw [hl, List.length_map]; exact hn)
  refine ⟨h.1, h.2.1, fun q hq => h.2.2 q ?_⟩
  obtain ⟨j, v, h1, rfl⟩ := (aw_lv_mem φ _ 0 q).mp hq
  have h3 : vals[j]? = some v := by
    unfold aw_ent at h1
    by_cases hj : j < vals.length
    · rw [List.getElem?_append_left (by simpa using hj), List.getElem?_map] at h1
      cases hv : vals[j]? with
      | none => rw [hv] at h1; cases h1
      | some u => rw [hv] at h1; cases h1; rfl
    · rw [List.getElem?_append_right (by simpa using hj)] at h1
      have := List.eq_of_mem_replicate (List.mem_of_getElem? h1)
      cases this
  exact aw_args_mem _ 0 j _ hc1 (by rw [List.getElem?_map, h3]; rfl)
/-! what is known of the tables stays known -/
theorem aw_Kn_moved {B : Nat} {D : va_G} {aC : Nat → ClassId} {sa sv : Nat → Nat} {s U : State} (hW : s.WarmedH U.vm) (hq : ∀ a : Nat, a < s.heap.size → ¬ B ≤ a → U.heap[a]? = s.heap[a]?) (h : aw_Kn B D aC sa sv s) : aw_Kn B D aC sa sv U := by
  have hal := hW.alike
  refine ⟨fun c q hc => u_Kn_moved hal (h.1 c q hc), fun t ht => ⟨arrOfT_moved hal (h.2.1 t ht).1, va_RA.moved hal (h.2.1 t ht).2⟩, ⟨?_, ?_, ?_, ?_, ?_⟩, fun q hq => va_Nw.warmM hW (h.2.2.2.1 q hq), va_AO.moved hal h.2.2.2.2.1, va_AO.moved hal h.2.2.2.2.2.1, aw_AA_moved hal h.2.2.2.2.2.2⟩
  · exact (vk_S.moved hal h.2.2.1.1).kept hq
  · exact fun q hq => vk_R.warm hW (h.2.2.1.2.1 q hq)
  · exact (va_Z.moved hal h.2.2.1.2.2.1).kept hq
  · exact h.2.2.1.2.2.2.1.imp (fun z => (va_Z.moved hal z).kept hq) (fun z => (va_Z.moved hal z).kept hq)
  · exact h.2.2.1.2.2.2.2
theorem aw_Kn_calling {B : Nat} {D : va_G} {aC : Nat → ClassId} {sa sv : Nat → Nat} {U : State} {g : JFrame} {mk : MethodId} {a : Array Value} (h : aw_Kn B D aC sa sv U) : aw_Kn B D aC sa sv (U.calling g mk a) := by
  have hal : U.vm.Alike (U.calling g mk a).vm := Vm.Alike.refl U.vm
  refine ⟨fun c q hc => u_Kn_moved hal (h.1 c q hc), fun t ht => ⟨arrOfT_moved hal (h.2.1 t ht).1, va_RA.moved hal (h.2.1 t ht).2⟩, ⟨?_, ?_, ?_, ?_, ?_⟩, fun q hq => va_Nw.same rfl rfl (h.2.2.2.1 q hq), va_AO.moved hal h.2.2.2.2.1, va_AO.moved hal h.2.2.2.2.2.1, aw_AA_moved hal h.2.2.2.2.2.2⟩
  · exact vk_S.moved hal h.2.2.1.1
  · exact fun q hq => vk_R.same rfl (h.2.2.1.2.1 q hq)
  · exact va_Z.moved hal h.2.2.1.2.2.1
  · exact h.2.2.1.2.2.2.1.imp (fun z => va_Z.moved hal z) (fun z => va_Z.moved hal z)
  · exact h.2.2.1.2.2.2.2
/-! a method's contract from its walk -/
def aw_P (B : Nat) (D : va_G) (aC : Nat → ClassId) (sa sv : Nat → Nat) (sh : aw_Sh) (σ : aw_S) (vals : List Value) : Array Value → State → Prop := fun a U =>
  a = (vals.map (aw_m (aw_f B sa))).toArray ∧ aw_Pic B (aw_f B sa) D aC sh σ U.heap ∧ aw_Kn B D aC sa sv U
theorem aw_met {l : Launch} {y : MethodName} {cc : ByteArray} {nL : Nat} {ret : Option FieldType} {F Lo mc ms n : Nat} {she sh : aw_Sh} {σ : aw_S} {vals : List Value} {Post : Option Value → aw_S → Prop}
    (hy : plainName y.cls = true) (hc : vals.all (fun v => v.category == 1) = true) (hn : vals.length ≤ nL) (h : AE l y cc nL ret F Lo mc ms she sh σ vals Post) (B : Nat) (D : va_G) (aC : Nat → ClassId) (sa sv : Nat → Nat) :
    Met l y (Cond.code y cc nL ret :: aw_tbl) ({ frames := F, cells := mc, slots := ms, locals := Lo }) (aw_P B D aC sa sv sh σ vals) (aw_Q B D aC sa she Post) mc ms (fun q => B ≤ q) := by
  refine Met.ofW (cc := cc) (maxL := nL) (ret := ret) hy rfl ?_
  intro p e s m args below meth c s₁ BL hml hv
  obtain ⟨rfl, hP, hK⟩ := hv
  have hts := atoms_spec (ws := Cond.code y cc nL ret :: aw_tbl) BL.pre
  have hown : s.vm.findClass y.cls = some m.cls := findClass_of_methodNamed BL.named
  rw [lg_entry_eq]
  exact h B D aC sa sv p e _ s m _ below meth c s.heap [] _ ⟨BL.exec, BL.bytes, hml, BL.returns, BL.notSynchronized, (name_of_methodNamed BL.named BL.method).1, hown, fun w hw => hts w (List.mem_cons_of_mem _ hw), Nat.le_refl _, Nat.le_refl _, Nat.le_refl _, Nat.le_refl _, hK, by rw [hP.1]; omega⟩ hP va_S.rf (aw_entry hc hn)
theorem aw_goodIn {w : Cond} (hw : w ∈ aw_tbl) : GoodIn aw_tbl (w :: aw_tbl) := fun v hv => by
  have hm : v ∈ aw_tbl := by
    rcases List.mem_cons.mp hv with rfl | h
    · exact hw
    · exact h
  exact ⟨hm, good_of_word (List.mem_filter.mp hm).2⟩
