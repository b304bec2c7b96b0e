/-! THE CLAIM OUT OF ONE WALK OF THE LAW'S BODY. Your part is whole_start (and what it stands on); all else here is the same for every law, but numbers. -/
def R_law : String := "CabRanksLaw"
def lw_P (b : Addr) (xs : List Int32) (args : Array Value) (s : State) : Prop := args = #[.ref b] ∧ s.IntsAt b xs ∧ xs.length ≤ 3072 ∧ (Jvm.Cond.and given_1 narrow_1).before args s = true
def lw_Q (_ : Array Value) (s : State) (o : Outcome) (t : State) : Prop := o = .returned (some (.int 1)) ∧ Framed s o t [] 600000 7302250
def lw_Z (below : List Frame) (a : Array Value) (s : State) : State → Prop := fun t => ∃ o, t.status = .running ∧ Ended t below o ∧ lw_Q a s o t
/-- the law's own end, with 1 on the stack, nothing written that was there before, its room as the claim has it -/
theorem lw_ret {p : Program} {l : Launch} {e : Env} {s : State} {m : MethodId} {below : List Frame} {meth : Method} {c : Code} {b : Nat} (hx : p.tables.exec = Jvm.exec) (hb : c.code = code) (hr : meth.sig.returnType = ret) (hlocks : meth.locks = false) {pc : Nat} {H : Heap} {ls : Array Slot} (hdg : decode code pc = .ok (.ireturn, 1)) : W p l e room_1 s m #[Value.ref b] below meth c H [] 600000 7302250 (lw_Z below #[Value.ref b] s) (F0 m pc ls [.int 1]) := by
  intro T hT X
  obtain ⟨fs, hret, hrun, hended, hW, hframe⟩ := X.leave (v := some (.int 1)) (hlocks := hlocks) (fun h => by rw [hr] at h; cases h)
  have hmeth' : T.vm.method? m = some meth := X.method'
  refine ⟨T.setFrames fs, ?_, .returned (some (.int 1)), hrun, hended, rfl, ⟨_, rfl⟩, hW, hframe⟩
  jvm_step X.here [X.here.top, hx, hb, hdg, hmeth', hr, ret, narrow_b1]
  (try refine ⟨rfl, ?_⟩); (try refine ⟨rfl, ?_⟩)
  first | (intro acts; rw [hret _ acts rfl rfl rfl]) | rw [hret _ _ rfl rfl rfl]
  exact Steps.refl _
/-- what holds at the law's entry: the machine, the code, the tables' words (any of lw_tbl by 'hts w (by decide +kernel)'), the script of L ints xs at the cell b, what the Statement gives of the start (any of its parts by flat_of_before) -/
def lw_At (p : Program) (s : State) (m : MethodId) (meth : Method) (c : Code) (b L : Nat) (xs : Nat → Int32) : Prop :=
  p.tables.exec = Jvm.exec ∧ c.code = code ∧ meth.sig.returnType = ret ∧ c.maxLocals = 4 ∧ s.vm.findClass R_law = some m.cls ∧ (∀ w ∈ lw_tbl, w.before #[Value.ref b] s = true) ∧ va_X b L xs s s.heap ∧ b < s.heap.size ∧ meth.locks = false ∧ (Jvm.Cond.and given_1 narrow_1).before #[Value.ref b] s = true
/-- the law's own walk: Ξ holds of the script -/
def LW (Ξ : Nat → (Nat → Nat) → Room → State → Array Value → Prop) (l : Launch) (y : MethodName) (cc : ByteArray) (nL : Nat) (ret : Option FieldType) (F Lo mc ms : Nat) (sh : aw_Sh) (k n : Nat) (σ : aw_S) (pc : Nat) (ls : List (Option Value)) (st : List Value) : Prop :=
  ∀ (B : Nat) (D : va_G) (aC : Nat → ClassId) (sa sv : Nat → Nat) (p : Program) (e : Env) (R : Room) (s : State) (m : MethodId) (args : Array Value) (below : List Frame) (meth : Method) (c : Code) (H : Heap) (locs : List Loc) (lsA : Array Slot),
    aw_Ctx y cc nL ret F Lo mc ms B D aC sa sv p R s m args meth c → aw_Pic B (aw_f B sa) D aC sh σ H → va_S (fun q => B ≤ q) s.heap H locs → lv_has lsA nL (aw_lv (aw_f B sa) 0 ls) → Ξ B sa R s args →
    W p l e R s m args below meth c H locs k n (lw_Z below args s) (F0 m pc lsA (st.map (aw_m (aw_f B sa))))
/-- more is asked of the answer -/
theorem AW.mono {l : Launch} {y : MethodName} {cc : ByteArray} {nL : Nat} {ret : Option FieldType} {F Lo mc ms : Nat} {she : aw_Sh} {Post Post' : Option Value → aw_S → Prop} {sh : aw_Sh} {k n : Nat} {σ : aw_S} {pc : Nat} {ls : List (Option Value)} {st : List Value}
    (kk : AW l y cc nL ret F Lo mc ms she Post sh k n σ pc ls st) (h : ∀ r σ', Post r σ' → Post' r σ') : AW l y cc nL ret F Lo mc ms she Post' sh k n σ pc ls st := by
  intro B D aC sa sv p e R s m args below meth c H locs lsA C hP hS hL T hT X
  obtain ⟨t, a1, b1⟩ := kk B D aC sa sv p e R s m args below meth c H locs lsA C hP hS hL T hT X
  refine ⟨t, a1, ?_⟩
  unfold MQ at b1 ⊢
  unfold aw_Q at b1 ⊢
  grind
section LWR
variable {Ξ : Nat → (Nat → Nat) → Room → State → Array Value → Prop} {l : Launch} {y : MethodName} {cc : ByteArray} {nL : Nat} {ret : Option FieldType} {F Lo mc ms : Nat} {sh : aw_Sh} {k n : Nat} {σ : aw_S} {pc nx : Nat} {ls : List (Option Value)} {st : List Value}
variable {y' : MethodName} {cc' : ByteArray} {nL' : Nat} {ret' : Option FieldType} {F' Lo' mc' ms' n' : Nat} {she' : aw_Sh}
theorem LW.pure {st' : List Value} {pc' : Nat} (h : ∀ (p : Program) (e : Env) (R : Room) (s : State) (m : MethodId) (args : Array Value) (below : List Frame) (meth : Method) (c : Code) (H : Heap) (locs : List Loc) (lsA : Array Slot) (φ : Nat → Nat) (Q : State → Prop), p.tables.exec = Jvm.exec → c.code = cc → W p l e R s m args below meth c H locs k n Q (F0 m pc' lsA (st'.map (aw_m φ))) → W p l e R s m args below meth c H locs k n Q (F0 m pc lsA (st.map (aw_m φ))))
    (kk : LW Ξ l y cc nL ret F Lo mc ms sh k n (σ) pc' (ls) (st')) : LW Ξ l y cc nL ret F Lo mc ms sh k n (σ) pc (ls) (st) := by
  intro B D aC sa sv p e R s m args below meth c H locs lsA C hP hS hL hΞ
  exact h p e R s m args below meth c H locs lsA _ _ C.1 C.2.1 (kk B D aC sa sv p e R s m args below meth c H locs lsA C hP hS hL hΞ)
theorem l_iadd {x y0 : Int} (hd : aw_d 1 cc pc (.iadd) nx) (kk : LW Ξ l y cc nL ret F Lo mc ms sh k n (σ) nx (ls) (.int (jI (x + y0)) :: st)) : LW Ξ l y cc nL ret F Lo mc ms sh k n (σ) pc (ls) (.int (jI y0) :: .int (jI x) :: st) := by
  obtain ⟨hd1, rfl⟩ := hd
  exact LW.pure (fun p e R s m args below meth c H locs lsA φ Q hx hb kk => lv_iadd hx hb hd1 (by rw [jI_add]; exact kk)) kk
theorem l_isub {x y0 : Int} (hd : aw_d 1 cc pc (.isub) nx) (kk : LW Ξ l y cc nL ret F Lo mc ms sh k n (σ) nx (ls) (.int (jI (x - y0)) :: st)) : LW Ξ l y cc nL ret F Lo mc ms sh k n (σ) pc (ls) (.int (jI y0) :: .int (jI x) :: st) := by
  obtain ⟨hd1, rfl⟩ := hd
  exact LW.pure (fun p e R s m args below meth c H locs lsA φ Q hx hb kk => lv_isub hx hb hd1 (by rw [jI_sub]; exact kk)) kk
theorem l_iand {x y0 : Int} (v : Int) (hd : aw_d 1 cc pc (.iand) nx) (hv : jI x &&& jI y0 = jI v) (kk : LW Ξ l y cc nL ret F Lo mc ms sh k n (σ) nx (ls) (.int (jI v) :: st)) : LW Ξ l y cc nL ret F Lo mc ms sh k n (σ) pc (ls) (.int (jI y0) :: .int (jI x) :: st) := by
  obtain ⟨hd1, rfl⟩ := hd
  exact LW.pure (fun p e R s m args below meth c H locs lsA φ Q hx hb kk => lv_iand hx hb hd1 (by rw [hv]; exact kk)) kk
theorem l_iconst {z : Int} (hd : aw_d 1 cc pc (.iconst z) nx) (kk : LW Ξ l y cc nL ret F Lo mc ms sh k n (σ) nx (ls) (.int (jI z) :: st)) : LW Ξ l y cc nL ret F Lo mc ms sh k n (σ) pc (ls) (st) := by
  obtain ⟨hd1, rfl⟩ := hd
  exact LW.pure (fun p e R s m args below meth c H locs lsA φ Q hx hb kk => lv_iconst hx hb hd1 rfl kk) kk
theorem l_bipush {z : Int} (hd : aw_d 2 cc pc (.bipush z) nx) (hv : (Int8.ofInt z).toInt32 = jI z) (kk : LW Ξ l y cc nL ret F Lo mc ms sh k n (σ) nx (ls) (.int (jI z) :: st)) : LW Ξ l y cc nL ret F Lo mc ms sh k n (σ) pc (ls) (st) := by
  obtain ⟨hd1, rfl⟩ := hd
  exact LW.pure (fun p e R s m args below meth c H locs lsA φ Q hx hb kk => lv_bipush hx hb hd1 hv kk) kk
theorem l_dup {v : Value} (hd : aw_d 1 cc pc (.dup) nx) (hv : v.category = 1) (kk : LW Ξ l y cc nL ret F Lo mc ms sh k n (σ) nx (ls) (v :: v :: st)) : LW Ξ l y cc nL ret F Lo mc ms sh k n (σ) pc (ls) (v :: st) := by
  obtain ⟨hd1, rfl⟩ := hd
  exact LW.pure (fun p e R s m args below meth c H locs lsA φ Q hx hb kk => lv_dup hx hb hd1 (by rw [aw_m_cat]; exact hv) kk) kk
theorem l_goto {off : Int} (tgt : Nat) (hd : aw_d 3 cc pc (.goto off) nx) (ht : (pc : Int) + off = (tgt : Int)) (kk : LW Ξ l y cc nL ret F Lo mc ms sh k n (σ) tgt (ls) (st)) : LW Ξ l y cc nL ret F Lo mc ms sh k n (σ) pc (ls) (st) := by
  obtain ⟨hd1, rfl⟩ := hd
  exact LW.pure (fun p e R s m args below meth c H locs lsA φ Q hx hb kk => lv_goto hx hb hd1 ht kk) kk
theorem l_icmp_gt {x y0 : Int} {off : Int} (tgt : Nat) (hd : aw_d 3 cc pc (.if_icmp .gt off) nx) (ht : (pc : Int) + off = (tgt : Int)) (hr : ((-2147483648 ≤ x ∧ x ≤ 2147483647) ∧ (-2147483648 ≤ y0 ∧ y0 ≤ 2147483647))) (kt : y0 < x → LW Ξ l y cc nL ret F Lo mc ms sh k n (σ) tgt (ls) (st)) (kf : ¬ (y0 < x) → LW Ξ l y cc nL ret F Lo mc ms sh k n (σ) nx (ls) (st)) : LW Ξ l y cc nL ret F Lo mc ms sh k n (σ) pc (ls) (.int (jI y0) :: .int (jI x) :: st) := by
  obtain ⟨hd1, rfl⟩ := hd
  intro B D aC sa sv p e R s m args below meth c H locs lsA C hP hS hL hΞ
  exact lv_icmp_gt C.1 C.2.1 hd1 ht (fun q => kt ((jI_lt (a := y0) (b := x) ⟨⟨by omega, by omega⟩, ⟨by omega, by omega⟩⟩).mp q) B D aC sa sv p e R s m args below meth c H locs lsA C hP hS hL hΞ) (fun q => kf (fun h => q ((jI_lt (a := y0) (b := x) ⟨⟨by omega, by omega⟩, ⟨by omega, by omega⟩⟩).mpr h)) B D aC sa sv p e R s m args below meth c H locs lsA C hP hS hL hΞ)
theorem l_table {dflt lo hi : Int} {offs : Array Int} {len : Nat} {x : Int} (off : Int) (tgt : Nat) (hd : aw_d len cc pc (.tableswitch dflt lo hi offs) nx) (hr : -2147483648 ≤ x ∧ x ≤ 2147483647) (h1 : ¬ x < lo) (h2 : ¬ hi < x) (ho : offs[(x - lo).toNat]? = some off) (ht : (pc : Int) + off = (tgt : Int)) (kk : LW Ξ l y cc nL ret F Lo mc ms sh k n (σ) tgt (ls) (st)) : LW Ξ l y cc nL ret F Lo mc ms sh k n (σ) pc (ls) (.int (jI x) :: st) := by
  obtain ⟨hd1, rfl⟩ := hd
  exact LW.pure (fun p e R s m args below meth c H locs lsA φ Q hx hb kk => lv_tableIn hx hb hd1 (by rw [jI_toInt hr.1 hr.2]; exact h1) (by rw [jI_toInt hr.1 hr.2]; exact h2) (by rw [jI_toInt hr.1 hr.2]; exact ho) ht kk) kk
theorem l_tableOut {dflt lo hi : Int} {offs : Array Int} {len : Nat} {x : Int} (tgt : Nat) (hd : aw_d len cc pc (.tableswitch dflt lo hi offs) nx) (hr : -2147483648 ≤ x ∧ x ≤ 2147483647) (h : x < lo ∨ hi < x) (ht : (pc : Int) + dflt = (tgt : Int)) (kk : LW Ξ l y cc nL ret F Lo mc ms sh k n (σ) tgt (ls) (st)) : LW Ξ l y cc nL ret F Lo mc ms sh k n (σ) pc (ls) (.int (jI x) :: st) := by
  obtain ⟨hd1, rfl⟩ := hd
  exact LW.pure (fun p e R s m args below meth c H locs lsA φ Q hx hb kk => lv_tableOut hx hb hd1 (by rw [jI_toInt hr.1 hr.2]; exact h) ht kk) kk
theorem l_top {v : Int32} (kk : LW Ξ l y cc nL ret F Lo mc ms sh k n (σ) pc (ls) (.int (jI v.toInt) :: st)) : LW Ξ l y cc nL ret F Lo mc ms sh k n (σ) pc (ls) (.int v :: st) := by
  rw [← jI_self v]
  exact kk
theorem l_eqtop {x y0 : Int} (h : x = y0) (kk : LW Ξ l y cc nL ret F Lo mc ms sh k n (σ) pc (ls) (.int (jI y0) :: st)) : LW Ξ l y cc nL ret F Lo mc ms sh k n (σ) pc (ls) (.int (jI x) :: st) := h ▸ kk
theorem l_ald0 {v : Nat} {t : List (Option Value)} (hd : aw_d 1 cc pc (.aload_n 0) nx) (kk : LW Ξ l y cc nL ret F Lo mc ms sh k n (σ) nx (some (.ref v) :: t) (.ref v :: st)) : LW Ξ l y cc nL ret F Lo mc ms sh k n (σ) pc (some (.ref v) :: t) (st) := by
  obtain ⟨hd1, rfl⟩ := hd
  intro B D aC sa sv p e R s m args below meth c H locs lsA C hP hS hL hΞ
  exact lv_aload_n C.1 C.2.1 hd1 rfl (aw_at (i := 0) hL rfl) (kk B D aC sa sv p e R s m args below meth c H locs lsA C hP hS hL hΞ)
theorem l_ald1 {x0 : Option Value} {v : Nat} {t : List (Option Value)} (hd : aw_d 1 cc pc (.aload_n 1) nx) (kk : LW Ξ l y cc nL ret F Lo mc ms sh k n (σ) nx (x0 :: some (.ref v) :: t) (.ref v :: st)) : LW Ξ l y cc nL ret F Lo mc ms sh k n (σ) pc (x0 :: some (.ref v) :: t) (st) := by
  obtain ⟨hd1, rfl⟩ := hd
  intro B D aC sa sv p e R s m args below meth c H locs lsA C hP hS hL hΞ
  exact lv_aload_n C.1 C.2.1 hd1 rfl (aw_at (i := 1) hL rfl) (kk B D aC sa sv p e R s m args below meth c H locs lsA C hP hS hL hΞ)
theorem l_ald2 {x0 x1 : Option Value} {v : Nat} {t : List (Option Value)} (hd : aw_d 1 cc pc (.aload_n 2) nx) (kk : LW Ξ l y cc nL ret F Lo mc ms sh k n (σ) nx (x0 :: x1 :: some (.ref v) :: t) (.ref v :: st)) : LW Ξ l y cc nL ret F Lo mc ms sh k n (σ) pc (x0 :: x1 :: some (.ref v) :: t) (st) := by
  obtain ⟨hd1, rfl⟩ := hd
  intro B D aC sa sv p e R s m args below meth c H locs lsA C hP hS hL hΞ
  exact lv_aload_n C.1 C.2.1 hd1 rfl (aw_at (i := 2) hL rfl) (kk B D aC sa sv p e R s m args below meth c H locs lsA C hP hS hL hΞ)
theorem l_ild3 {x0 x1 x2 : Option Value} {v : Int32} {t : List (Option Value)} (hd : aw_d 1 cc pc (.iload_n 3) nx) (kk : LW Ξ l y cc nL ret F Lo mc ms sh k n (σ) nx (x0 :: x1 :: x2 :: some (.int v) :: t) (.int v :: st)) : LW Ξ l y cc nL ret F Lo mc ms sh k n (σ) pc (x0 :: x1 :: x2 :: some (.int v) :: t) (st) := by
  obtain ⟨hd1, rfl⟩ := hd
  intro B D aC sa sv p e R s m args below meth c H locs lsA C hP hS hL hΞ
  exact lv_iload_n C.1 C.2.1 hd1 rfl (aw_at (i := 3) hL rfl) (kk B D aC sa sv p e R s m args below meth c H locs lsA C hP hS hL hΞ)
theorem l_ist3 {x0 x1 x2 x3 : Option Value} {v : Int32} {t : List (Option Value)} (hd : aw_d 1 cc pc (.istore_n 3) nx) (hi : 3 < nL) (hp : aw_n2 x2) (kk : LW Ξ l y cc nL ret F Lo mc ms sh k n (σ) nx (x0 :: x1 :: x2 :: some (.int v) :: t) (st)) : LW Ξ l y cc nL ret F Lo mc ms sh k n (σ) pc (x0 :: x1 :: x2 :: x3 :: t) (.int v :: st) := by
  obtain ⟨hd1, rfl⟩ := hd
  intro B D aC sa sv p e R s m args below meth c H locs lsA C hP hS hL hΞ
  refine lv_istore_n C.1 C.2.1 hd1 rfl hL hi rfl (fun ls2 hL2 => ?_)
  exact kk B D aC sa sv p e R s m args below meth c H locs ls2 C hP hS (aw_set1 (i := 3) (v := .int v) (ls := x0 :: x1 :: x2 :: x3 :: t) (fun j u hj hu => by cases Nat.succ.inj hj; exact hp u (Option.some.inj hu)) hL2) hΞ
theorem l_ast1 {x0 x1 : Option Value} {v : Nat} {t : List (Option Value)} (hd : aw_d 1 cc pc (.astore_n 1) nx) (hi : 1 < nL) (hp : aw_n2 x0) (kk : LW Ξ l y cc nL ret F Lo mc ms sh k n (σ) nx (x0 :: some (.ref v) :: t) (st)) : LW Ξ l y cc nL ret F Lo mc ms sh k n (σ) pc (x0 :: x1 :: t) (.ref v :: st) := by
  obtain ⟨hd1, rfl⟩ := hd
  intro B D aC sa sv p e R s m args below meth c H locs lsA C hP hS hL hΞ
  refine lv_astore_n C.1 C.2.1 hd1 rfl hL hi rfl (fun ls2 hL2 => ?_)
  exact kk B D aC sa sv p e R s m args below meth c H locs ls2 C hP hS (aw_set1 (i := 1) (v := .ref v) (ls := x0 :: x1 :: t) (fun j u hj hu => by cases Nat.succ.inj hj; exact hp u (Option.some.inj hu)) hL2) hΞ
theorem l_ast2 {x0 x1 x2 : Option Value} {v : Nat} {t : List (Option Value)} (hd : aw_d 1 cc pc (.astore_n 2) nx) (hi : 2 < nL) (hp : aw_n2 x1) (kk : LW Ξ l y cc nL ret F Lo mc ms sh k n (σ) nx (x0 :: x1 :: some (.ref v) :: t) (st)) : LW Ξ l y cc nL ret F Lo mc ms sh k n (σ) pc (x0 :: x1 :: x2 :: t) (.ref v :: st) := by
  obtain ⟨hd1, rfl⟩ := hd
  intro B D aC sa sv p e R s m args below meth c H locs lsA C hP hS hL hΞ
  refine lv_astore_n C.1 C.2.1 hd1 rfl hL hi rfl (fun ls2 hL2 => ?_)
  exact kk B D aC sa sv p e R s m args below meth c H locs ls2 C hP hS (aw_set1 (i := 2) (v := .ref v) (ls := x0 :: x1 :: x2 :: t) (fun j u hj hu => by cases Nat.succ.inj hj; exact hp u (Option.some.inj hu)) hL2) hΞ
theorem l_iinc3 {x0 x1 x2 : Option Value} {v z : Int} {t : List (Option Value)} (hd : aw_d 3 cc pc (.iinc 3 z) nx) (hi : 3 < nL) (hp : aw_n2 x2) (kk : LW Ξ l y cc nL ret F Lo mc ms sh k n (σ) nx (x0 :: x1 :: x2 :: some (.int (jI (v + z))) :: t) (st)) : LW Ξ l y cc nL ret F Lo mc ms sh k n (σ) pc (x0 :: x1 :: x2 :: some (.int (jI v)) :: t) (st) := by
  obtain ⟨hd1, rfl⟩ := hd
  intro B D aC sa sv p e R s m args below meth c H locs lsA C hP hS hL hΞ
  obtain ⟨j, hj⟩ := List.mem_iff_getElem?.mp ((aw_lv_mem (aw_f B sa) (x0 :: x1 :: x2 :: some (.int (jI v)) :: t) 0 (3, .int (jI v))).mpr ⟨3, .int (jI v), rfl, rfl⟩)
  refine lv_iinc C.1 C.2.1 hd1 hL hj (jI_add v z) hi rfl (fun ls2 hL2 => ?_)
  exact kk B D aC sa sv p e R s m args below meth c H locs ls2 C hP hS (aw_set1 (i := 3) (v := .int (jI (v + z))) (ls := x0 :: x1 :: x2 :: some (.int (jI v)) :: t) (fun j u hj hu => by cases Nat.succ.inj hj; exact hp u (Option.some.inj hu)) hL2) hΞ
theorem l_new {ci : Nat} {C : String} {T : u_T} {N idx : Nat} (hd : aw_d 3 cc pc (.new idx) nx) (hc : vwCl[ci]? = some (C, T, N)) (hcl : Cond.classLink y.cls idx C ∈ aw_tbl) (hin : Cond.instantiable C N ∈ aw_tbl) (hini : Cond.initialized C ∈ aw_tbl) (hty : ∀ j, j < N → parseFieldDescriptor (T j).2.2.1 = some (aw_fty ci j) ∧ aw_fty ci j ≠ .float ∧ aw_fty ci j ≠ .double) {L : Nat} (hL : sh.length = L) (hL2 : Nat.ble L 1000 = true) (hz : aw_Z σ L) (hA' : (Nat.ble (k + 1) mc && Nat.ble (n + N) ms) = true)
    (kk : LW Ξ l y cc nL ret F Lo mc ms (sh ++ [.inl ci]) (k + 1) (n + N) σ nx ls (.ref L :: st)) : LW Ξ l y cc nL ret F Lo mc ms sh k n σ pc ls st := by
  subst hL
  have hL3 := Nat.le_of_ble_eq_true hL2
  have hAA := (Bool.and_eq_true _ _).mp hA'
  have g3 := Nat.le_of_ble_eq_true hAA.1
  have g4 := Nat.le_of_ble_eq_true hAA.2
  obtain ⟨hd1, rfl⟩ := hd
  intro B D aC sa sv p e R s m args below meth c H locs lsA C0 hP hS hL hΞ
  obtain ⟨hx, hb, hml, hr, hlk, hnm, hown, hts, hF, hLo, hmc, hms, hK, hBs⟩ := id C0
  have hKn := hK.1 ci _ hc
  refine W.newcK hx hb hown (hts _ hcl) (hts _ hin) (hts _ hini) rfl hd1 (by omega) (by omega) hKn.2.1 rfl fun H1 kC hkC e1 z1 o1 => ?_
  have hP1 := hP.1
  have e9 : aw_f B sa sh.length = H.size := by unfold aw_f; rw [if_pos (by omega)]; omega
  have h9 := kk B D aC sa sv p e R s m args below meth c H1 locs lsA C0 (hP.push (by omega) z1 o1 ⟨_, hc, ?_⟩) ⟨by rw [z1]; exact Nat.le_trans hS.1 (by omega), fun q h1 h2 => (o1 q (Nat.lt_of_lt_of_le h1 hS.1)).trans (hS.2.1 q h1 h2), hS.2.2⟩ hL hΞ
  · have e8 : ((Value.ref sh.length :: st).map (aw_m (aw_f B sa))) = .ref H.size :: st.map (aw_m (aw_f B sa)) := by
      show Value.ref (aw_f B sa sh.length) :: _ = _
      rw [e9]
    rw [e8] at h9
    exact h9
  · rw [← hP1]
    exact (u_born (fun j => aw_fty ci j) hts (aw_wsC hc) hKn hkC e1 (fun j hj => (hty j hj).1)).to (fun j hj => (aw_cv_Z hz (hty j hj).2.1 (hty j hj).2.2 _).symm)
theorem lw_back {B : Nat} {D : va_G} {aC : Nat → ClassId} {sa sv : Nat → Nat} {p : Program} {e : Env} {R : Room} {s : State} {m : MethodId} {args : Array Value} {below : List Frame} {meth : Method} {c : Code} {H : Heap} {locs : List Loc} {lsA : Array Slot} {st0 : List Value} {a : Array Value}
    (C : aw_Ctx y cc nL ret F Lo mc ms B D aC sa sv p R s m args meth c) (hS : va_S (fun q => B ≤ q) s.heap H locs) (hL : lv_has lsA nL (aw_lv (aw_f B sa) 0 ls)) (hΞ : Ξ B sa R s args) (hB : B ≤ H.size) (hnx : pc + 3 = nx)
    (hrun : va_Run p l e R s m args below meth c H locs k n mc' ms' (F0 m pc lsA st0) (st.map (aw_m (aw_f B sa))) (aw_Q B D aC sa she' (fun r σ' => LW Ξ l y cc nL ret F Lo mc ms she' (k + mc') (n + ms') (σ') nx (ls) (r.toList ++ st)) a) (fun q => B ≤ q)) :
    W p l e R s m args below meth c H locs k n (lw_Z below args s) (F0 m pc lsA st0) := by
  intro T hT X
  obtain ⟨v, st₀, t, T', L, h0, X', hLo, e1, e2, ⟨r, σ', hv, hk, hP', hz, hq⟩, go⟩ := hrun T hT X
  rw [h0] at hz hq
  have hS' : va_S (fun q => B ≤ q) s.heap T'.heap (locs ++ L) := by
    refine ⟨Nat.le_trans hS.1 (by rw [e1]; exact hz), fun q h1 h2 => ?_, fun q hq' => ?_⟩
    · rw [e1, hq q (Nat.lt_of_lt_of_le h1 hS.1) h2]; exact hS.2.1 q h1 h2
    · rcases List.mem_append.mp hq' with h | h
      · exact hS.2.2 q h
      · exact hLo q h
  obtain ⟨t2, a1, b1⟩ := hk B D aC sa sv p e R s m args below meth c T'.heap (locs ++ L) lsA C (by rw [e1]; exact hP') hS' hL hΞ T' rfl X'
  refine ⟨t2, go t2 ?_, b1⟩
  have hv2 : v = r.map (aw_m (aw_f B sa)) := by
    injection hv
  subst hv2
  subst hnx
  have e3 : ((r.toList ++ st).map (aw_m (aw_f B sa))) = (r.map (aw_m (aw_f B sa))).toList ++ st.map (aw_m (aw_f B sa)) := by
    cases r <;> rfl
  rw [e3] at a1
  exact a1
theorem l_callV {vals : List Value} {b ci idx : Nat} (hd : aw_d 3 cc pc (.invokevirtual idx) nx) (hl : Cond.methodLink y.cls idx y' ∈ aw_tbl) (hmV : aw_mV y') (hs : sh[b]? = some (.inl ci)) (hci : ∃ q : vw_C, vwCl[ci]? = some q ∧ q.1 = y'.cls) (hm : aw_mt y' cc' nL' ret' n') (hn : vals.length = n') (hnL : Nat.ble (vals.length + 1) nL' = true) (hcat : vals.all (fun v => v.category == 1) = true) (hrest : Nat.ble ((st.map Value.category).sum) 8 = true) (hF' : (Nat.ble (F' + 1) F && Nat.ble (8 + (nL' + 11) + Lo') Lo) = true) (hA' : (Nat.ble (k + mc') mc && Nat.ble (n + ms') ms) = true) (hE : AE l y' cc' nL' ret' F' Lo' mc' ms' she' sh σ (.ref b :: vals) (fun r σ' => LW Ξ l y cc nL ret F Lo mc ms she' (k + mc') (n + ms') (σ') nx (ls) (r.toList ++ st))) : LW Ξ l y cc nL ret F Lo mc ms sh k n (σ) pc (ls) (vals.reverse ++ (.ref b :: st)) := by
  obtain ⟨hd1, hnx⟩ := hd
  intro B D aC sa sv p e R s m args below meth c H locs lsA C hP hS hL hΞ
  obtain ⟨hx, hb, hml, hr, hlk, hnm, hown, hts, hF, hLo, hmc, hms, hK, hBs⟩ := id C
  have hFF := (Bool.and_eq_true _ _).mp hF'
  have hAA := (Bool.and_eq_true _ _).mp hA'
  have g1 := Nat.le_of_ble_eq_true hFF.1
  have g2 := Nat.le_of_ble_eq_true hFF.2
  have g3 := Nat.le_of_ble_eq_true hAA.1
  have g4 := Nat.le_of_ble_eq_true hAA.2
  have e1 : aw_f B sa b = B + b := aw_f_lt hP.2.1 hs
  have hM := aw_met (n := 0) hm.2.2.2 (vals := .ref b :: vals) (by rw [List.all_cons, hcat]; rfl) (Nat.le_of_ble_eq_true hnL) hE B D aC sa sv
  obtain ⟨q, hq, hqc⟩ := hci
  obtain ⟨r, hr1, cell, q1, q2, q3, q4⟩ := hP.2.2.1 b ci hs
  have e0 : r = q := Option.some.inj (hr1.symm.trans hq)
  subst e0
  obtain ⟨hSl, hfc, kC, hkC, hkind⟩ := hK.1 ci _ hq
  refine lw_back (she' := she') (mc' := mc') (ms' := ms') (st := st) C hS hL hΞ (by have := hP.1; omega) hnx (a := (Value.ref (aw_f B sa b) :: vals.map (aw_m (aw_f B sa))).toArray) ?_
  refine va_runV (As := vals.map (aw_m (aw_f B sa))) (b := aw_f B sa b) (C := y'.cls) ⟨hx, hb, hml, hown, hts⟩ hM ⟨aw_callB hts hm hl (by omega) (by omega), hts _ hmV.1, hts _ hmV.2⟩ ⟨(fun a U g mk q => ⟨q.1, q.2.1, aw_Kn_calling q.2.2⟩), ⟨cell, by rw [e1]; exact q1, by rw [q3]; rfl, by rw [q2, ← hqc]; exact hfc⟩, (fun U hU hW => ⟨rfl, by rw [hU]; exact hP, aw_Kn_moved hW (fun q h1 h2 => by rw [hU]; exact hS.2.1 q h1 h2) hK⟩)⟩ rfl (by rw [List.length_map]; exact hn) hL.1 ?_ (aw_restcat hrest) hd1 ⟨by omega, by omega⟩
  show List.map _ _ = _
  rw [List.map_append, List.map_reverse]
  rfl
theorem l_callI {b idx : Nat} (hd : aw_d 3 cc pc (.invokespecial idx) nx) (hl : Cond.methodLink y.cls idx y' ∈ aw_tbl) (hmI : aw_mI y') (hs : ∃ x, sh[b]? = some x) (hm : aw_mt y' cc' nL' none 0) (hnL : Nat.ble 1 nL' = true) (hrest : Nat.ble ((st.map Value.category).sum) 8 = true) (hF' : (Nat.ble (F' + 1) F && Nat.ble (8 + (nL' + 11) + Lo') Lo) = true) (hA' : (Nat.ble (k + mc') mc && Nat.ble (n + ms') ms) = true) (hE : AE l y' cc' nL' none F' Lo' mc' ms' she' sh σ ([.ref b]) (fun r σ' => LW Ξ l y cc nL ret F Lo mc ms she' (k + mc') (n + ms') (σ') nx (ls) (r.toList ++ st))) : LW Ξ l y cc nL ret F Lo mc ms sh k n (σ) pc (ls) (.ref b :: st) := by
  obtain ⟨hd1, hnx⟩ := hd
  intro B D aC sa sv p e R s m args below meth c H locs lsA C hP hS hL hΞ
  obtain ⟨hx, hb, hml, hr, hlk, hnm, hown, hts, hF, hLo, hmc, hms, hK, hBs⟩ := id C
  have hFF := (Bool.and_eq_true _ _).mp hF'
  have hAA := (Bool.and_eq_true _ _).mp hA'
  have g1 := Nat.le_of_ble_eq_true hFF.1
  have g2 := Nat.le_of_ble_eq_true hFF.2
  have g3 := Nat.le_of_ble_eq_true hAA.1
  have g4 := Nat.le_of_ble_eq_true hAA.2
  have hM := aw_met (n := 0) hm.2.2.2 (vals := [.ref b]) rfl (Nat.le_of_ble_eq_true hnL) hE B D aC sa sv
  refine lw_back (she' := she') (mc' := mc') (ms' := ms') (st := st) C hS hL hΞ (by have := hP.1; omega) hnx (a := (Value.ref (aw_f B sa b) :: []).toArray) ?_
  exact va_runI (As := []) (b := aw_f B sa b) ⟨hx, hb, hml, hown, hts⟩ hM ⟨aw_callB hts hm hl (by omega) (by omega), hmI.1, hts _ hmI.2⟩ ⟨(fun a U g mk q => ⟨q.1, q.2.1, aw_Kn_calling q.2.2⟩), (fun U hU hW => ⟨rfl, by rw [hU]; exact hP, aw_Kn_moved hW (fun q h1 h2 => by rw [hU]; exact hS.2.1 q h1 h2) hK⟩)⟩ rfl rfl hL.1 rfl (aw_restcat hrest) hd1 ⟨by omega, by omega⟩
theorem l_cV0 {b ci idx : Nat} (hd : aw_d 3 cc pc (.invokevirtual idx) nx) (hl : Cond.methodLink y.cls idx y' ∈ aw_tbl) (hmV : aw_mV y') (hs : sh[b]? = some (.inl ci)) (hci : ∃ q : vw_C, vwCl[ci]? = some q ∧ q.1 = y'.cls) (hm : aw_mt y' cc' nL' ret' 0) (hnL : Nat.ble 1 nL' = true) (hrest : Nat.ble ((st.map Value.category).sum) 8 = true) (hF' : (Nat.ble (F' + 1) F && Nat.ble (8 + (nL' + 11) + Lo') Lo) = true) (hA' : (Nat.ble (k + mc') mc && Nat.ble (n + ms') ms) = true) (hE : AE l y' cc' nL' ret' F' Lo' mc' ms' she' sh σ ([.ref b]) (fun r σ' => LW Ξ l y cc nL ret F Lo mc ms she' (k + mc') (n + ms') (σ') nx (ls) (r.toList ++ st))) : LW Ξ l y cc nL ret F Lo mc ms sh k n (σ) pc (ls) (.ref b :: st) :=
  l_callV (vals := []) hd hl hmV hs hci hm rfl hnL rfl hrest hF' hA' hE
theorem l_cV1 {v1 : Value} {b ci idx : Nat} (hd : aw_d 3 cc pc (.invokevirtual idx) nx) (hl : Cond.methodLink y.cls idx y' ∈ aw_tbl) (hmV : aw_mV y') (hs : sh[b]? = some (.inl ci)) (hci : ∃ q : vw_C, vwCl[ci]? = some q ∧ q.1 = y'.cls) (hm : aw_mt y' cc' nL' ret' 1) (hnL : Nat.ble 2 nL' = true) (c1 : v1.category = 1) (hrest : Nat.ble ((st.map Value.category).sum) 8 = true) (hF' : (Nat.ble (F' + 1) F && Nat.ble (8 + (nL' + 11) + Lo') Lo) = true) (hA' : (Nat.ble (k + mc') mc && Nat.ble (n + ms') ms) = true) (hE : AE l y' cc' nL' ret' F' Lo' mc' ms' she' sh σ ([.ref b, v1]) (fun r σ' => LW Ξ l y cc nL ret F Lo mc ms she' (k + mc') (n + ms') (σ') nx (ls) (r.toList ++ st))) : LW Ξ l y cc nL ret F Lo mc ms sh k n (σ) pc (ls) (v1 :: .ref b :: st) :=
  l_callV (vals := [v1]) hd hl hmV hs hci hm rfl hnL (by simp [c1]) hrest hF' hA' hE
theorem l_cV2 {v1 v2 : Value} {b ci idx : Nat} (hd : aw_d 3 cc pc (.invokevirtual idx) nx) (hl : Cond.methodLink y.cls idx y' ∈ aw_tbl) (hmV : aw_mV y') (hs : sh[b]? = some (.inl ci)) (hci : ∃ q : vw_C, vwCl[ci]? = some q ∧ q.1 = y'.cls) (hm : aw_mt y' cc' nL' ret' 2) (hnL : Nat.ble 3 nL' = true) (c1 : v1.category = 1) (c2 : v2.category = 1) (hrest : Nat.ble ((st.map Value.category).sum) 8 = true) (hF' : (Nat.ble (F' + 1) F && Nat.ble (8 + (nL' + 11) + Lo') Lo) = true) (hA' : (Nat.ble (k + mc') mc && Nat.ble (n + ms') ms) = true) (hE : AE l y' cc' nL' ret' F' Lo' mc' ms' she' sh σ ([.ref b, v1, v2]) (fun r σ' => LW Ξ l y cc nL ret F Lo mc ms she' (k + mc') (n + ms') (σ') nx (ls) (r.toList ++ st))) : LW Ξ l y cc nL ret F Lo mc ms sh k n (σ) pc (ls) (v2 :: v1 :: .ref b :: st) :=
  l_callV (vals := [v1, v2]) hd hl hmV hs hci hm rfl hnL (by simp [c1, c2]) hrest hF' hA' hE
theorem l_cV3 {v1 v2 v3 : Value} {b ci idx : Nat} (hd : aw_d 3 cc pc (.invokevirtual idx) nx) (hl : Cond.methodLink y.cls idx y' ∈ aw_tbl) (hmV : aw_mV y') (hs : sh[b]? = some (.inl ci)) (hci : ∃ q : vw_C, vwCl[ci]? = some q ∧ q.1 = y'.cls) (hm : aw_mt y' cc' nL' ret' 3) (hnL : Nat.ble 4 nL' = true) (c1 : v1.category = 1) (c2 : v2.category = 1) (c3 : v3.category = 1) (hrest : Nat.ble ((st.map Value.category).sum) 8 = true) (hF' : (Nat.ble (F' + 1) F && Nat.ble (8 + (nL' + 11) + Lo') Lo) = true) (hA' : (Nat.ble (k + mc') mc && Nat.ble (n + ms') ms) = true) (hE : AE l y' cc' nL' ret' F' Lo' mc' ms' she' sh σ ([.ref b, v1, v2, v3]) (fun r σ' => LW Ξ l y cc nL ret F Lo mc ms she' (k + mc') (n + ms') (σ') nx (ls) (r.toList ++ st))) : LW Ξ l y cc nL ret F Lo mc ms sh k n (σ) pc (ls) (v3 :: v2 :: v1 :: .ref b :: st) :=
  l_callV (vals := [v1, v2, v3]) hd hl hmV hs hci hm rfl hnL (by simp [c1, c2, c3]) hrest hF' hA' hE
theorem l_cV4 {v1 v2 v3 v4 : Value} {b ci idx : Nat} (hd : aw_d 3 cc pc (.invokevirtual idx) nx) (hl : Cond.methodLink y.cls idx y' ∈ aw_tbl) (hmV : aw_mV y') (hs : sh[b]? = some (.inl ci)) (hci : ∃ q : vw_C, vwCl[ci]? = some q ∧ q.1 = y'.cls) (hm : aw_mt y' cc' nL' ret' 4) (hnL : Nat.ble 5 nL' = true) (c1 : v1.category = 1) (c2 : v2.category = 1) (c3 : v3.category = 1) (c4 : v4.category = 1) (hrest : Nat.ble ((st.map Value.category).sum) 8 = true) (hF' : (Nat.ble (F' + 1) F && Nat.ble (8 + (nL' + 11) + Lo') Lo) = true) (hA' : (Nat.ble (k + mc') mc && Nat.ble (n + ms') ms) = true) (hE : AE l y' cc' nL' ret' F' Lo' mc' ms' she' sh σ ([.ref b, v1, v2, v3, v4]) (fun r σ' => LW Ξ l y cc nL ret F Lo mc ms she' (k + mc') (n + ms') (σ') nx (ls) (r.toList ++ st))) : LW Ξ l y cc nL ret F Lo mc ms sh k n (σ) pc (ls) (v4 :: v3 :: v2 :: v1 :: .ref b :: st) :=
  l_callV (vals := [v1, v2, v3, v4]) hd hl hmV hs hci hm rfl hnL (by simp [c1, c2, c3, c4]) hrest hF' hA' hE
theorem l_cV5 {v1 v2 v3 v4 v5 : Value} {b ci idx : Nat} (hd : aw_d 3 cc pc (.invokevirtual idx) nx) (hl : Cond.methodLink y.cls idx y' ∈ aw_tbl) (hmV : aw_mV y') (hs : sh[b]? = some (.inl ci)) (hci : ∃ q : vw_C, vwCl[ci]? = some q ∧ q.1 = y'.cls) (hm : aw_mt y' cc' nL' ret' 5) (hnL : Nat.ble 6 nL' = true) (c1 : v1.category = 1) (c2 : v2.category = 1) (c3 : v3.category = 1) (c4 : v4.category = 1) (c5 : v5.category = 1) (hrest : Nat.ble ((st.map Value.category).sum) 8 = true) (hF' : (Nat.ble (F' + 1) F && Nat.ble (8 + (nL' + 11) + Lo') Lo) = true) (hA' : (Nat.ble (k + mc') mc && Nat.ble (n + ms') ms) = true) (hE : AE l y' cc' nL' ret' F' Lo' mc' ms' she' sh σ ([.ref b, v1, v2, v3, v4, v5]) (fun r σ' => LW Ξ l y cc nL ret F Lo mc ms she' (k + mc') (n + ms') (σ') nx (ls) (r.toList ++ st))) : LW Ξ l y cc nL ret F Lo mc ms sh k n (σ) pc (ls) (v5 :: v4 :: v3 :: v2 :: v1 :: .ref b :: st) :=
  l_callV (vals := [v1, v2, v3, v4, v5]) hd hl hmV hs hci hm rfl hnL (by simp [c1, c2, c3, c4, c5]) hrest hF' hA' hE
section LNR
variable {K n0 i0 : Nat}
theorem l_nnew {ci : Nat} {C : String} {T : u_T} {N idx : Nat} (hd : aw_d 3 cc pc (.new idx) nx) (hc : vwCl[ci]? = some (C, T, N)) (hcl : Cond.classLink y.cls idx C ∈ aw_tbl) (hin : Cond.instantiable C N ∈ aw_tbl) (hini : Cond.initialized C ∈ aw_tbl) (hty : ∀ j, j < N → parseFieldDescriptor (T j).2.2.1 = some (aw_fty ci j) ∧ aw_fty ci j ≠ .float ∧ aw_fty ci j ≠ .double) (hs : SH[K]? = some (.inl ci)) (hz : (zOK n0 i0 K && Nat.ble K 1000) = true) (hA' : (Nat.ble (k + 1) mc && Nat.ble (n + N) ms) = true)
    (kk : LW Ξ l y cc nL ret F Lo mc ms (SH.take (K + 1)) (k + 1) (n + N) (sN n0 i0) nx ls (.ref K :: st)) : LW Ξ l y cc nL ret F Lo mc ms (SH.take K) k n (sN n0 i0) pc ls st :=
  l_new hd hc hcl hin hini hty (shL hs).1 ((Bool.and_eq_true _ _).mp hz).2 (zOK_Z ((Bool.and_eq_true _ _).mp hz).1) hA' (by rw [(shL hs).2]; exact kk)
end LNR
theorem l_icmp_same {v : Int32} {off : Int} (tgt : Nat) (hd : aw_d 3 cc pc (.if_icmp .eq off) nx) (ht : (pc : Int) + off = (tgt : Int)) (kk : LW Ξ l y cc nL ret F Lo mc ms sh k n (σ) tgt (ls) (st)) : LW Ξ l y cc nL ret F Lo mc ms sh k n (σ) pc (ls) (.int v :: .int v :: st) := by
  obtain ⟨hd1, rfl⟩ := hd
  intro B D aC sa sv p e R s m args below meth c H locs lsA C hP hS hL hΞ
  exact lv_icmp_eq C.1 C.2.1 hd1 ht (fun _ => kk B D aC sa sv p e R s m args below meth c H locs lsA C hP hS hL hΞ) (fun q => absurd rfl q)
end LWR
/-- the script: L ints xs at the cell b -/
def XS (b L : Nat) (xs : Nat → Int32) : Nat → (Nat → Nat) → Room → State → Array Value → Prop := fun B sa R s args => (sa 30 = b ∧ va_X b L xs s s.heap ∧ b < B ∧ L ≤ 3072) ∧ (B = s.heap.size ∧ R = room_1 ∧ args = #[Value.ref b])
def xI (xs : Nat → Int32) (i : Int) : Int := (xs i.toNat).toInt
theorem xI_r (xs : Nat → Int32) (i : Int) : -2147483648 ≤ xI xs i ∧ xI xs i ≤ 2147483647 := by
  unfold xI
  have h1 := Int32.le_toInt (xs i.toNat)
  have h2 := Int32.toInt_lt (xs i.toNat)
  omega
section LWS
variable {b L : Nat} {xs : Nat → Int32} {l : Launch} {y : MethodName} {cc : ByteArray} {nL : Nat} {ret : Option FieldType} {F Lo mc ms : Nat} {sh : aw_Sh} {k n : Nat} {σ : aw_S} {pc nx : Nat} {ls : List (Option Value)} {st : List Value}
theorem l_sld {i : Int} (hd : aw_d 1 cc pc (.iaload) nx) (hi : 0 ≤ i ∧ i < (L : Int)) (hL3 : L ≤ 3072) (kk : LW (XS b L xs) l y cc nL ret F Lo mc ms sh k n σ nx ls (.int (jI (xI xs i)) :: st)) : LW (XS b L xs) l y cc nL ret F Lo mc ms sh k n σ pc ls (.int (jI i) :: .ref 1000030 :: st) := by
  obtain ⟨hd1, rfl⟩ := hd
  intro B D aC sa sv p e R s m args below meth c H locs lsA C hP hS hL hΞ
  have hin : vp_in (jI i) L := jI_in hi (by omega)
  have hcl : (jI i).toNatClampNeg = i.toNat := jI_clamp hi (by omega)
  obtain ⟨⟨x1, x2, x3, -⟩, x4, -⟩ := id hΞ
  have e1 : aw_f B sa 1000030 = b := by unfold aw_f; rw [if_neg (by omega)]; exact x1
  have h9 := kk B D aC sa sv p e R s m args below meth c H locs lsA C hP hS hL hΞ
  show W p l e R s m args below meth c H locs k n (lw_Z below args s) (F0 m pc lsA (.int (jI i) :: .ref (aw_f B sa 1000030) :: st.map (aw_m (aw_f B sa))))
  rw [e1]
  refine va_sld C.1 C.2.1 x2 (by omega) (by show ¬ B ≤ b; omega) hS hin hd1 ?_
  rw [hcl]
  have e2 : jI (xI xs i) = xs i.toNat := jI_self _
  have e3 : ((Value.int (jI (xI xs i)) :: st).map (aw_m (aw_f B sa))) = .int (xs i.toNat) :: st.map (aw_m (aw_f B sa)) := by rw [e2]; rfl
  rw [e3] at h9
  exact h9
theorem l_slen (hd : aw_d 1 cc pc (.arraylength) nx) (kk : LW (XS b L xs) l y cc nL ret F Lo mc ms sh k n σ nx ls (.int (jI (L : Int)) :: st)) : LW (XS b L xs) l y cc nL ret F Lo mc ms sh k n σ pc ls (.ref 1000030 :: st) := by
  obtain ⟨hd1, rfl⟩ := hd
  intro B D aC sa sv p e R s m args below meth c H locs lsA C hP hS hL hΞ
  obtain ⟨⟨x1, x2, x3, -⟩, x4, -⟩ := id hΞ
  have e1 : aw_f B sa 1000030 = b := by unfold aw_f; rw [if_neg (by omega)]; exact x1
  have h9 := kk B D aC sa sv p e R s m args below meth c H locs lsA C hP hS hL hΞ
  show W p l e R s m args below meth c H locs k n (lw_Z below args s) (F0 m pc lsA (.ref (aw_f B sa 1000030) :: st.map (aw_m (aw_f B sa))))
  rw [e1]
  refine va_slen C.1 C.2.1 x2 (by omega) (by show ¬ B ≤ b; omega) hS hd1 ?_
  have e2 : jI (L : Int) = Int32.ofNat L := Int32.ofInt_eq_ofNat
  have e3 : ((Value.int (jI (L : Int)) :: st).map (aw_m (aw_f B sa))) = .int (Int32.ofNat L) :: st.map (aw_m (aw_f B sa)) := by rw [e2]; rfl
  rw [e3] at h9
  exact h9
/-- the end, with true -/
theorem l_end (hd : aw_d 1 cL_law pc (.ireturn) nx) (hk : k ≤ 600000 ∧ n ≤ 7302250) : LW (XS b L xs) l y cL_law 4 (some .boolean) F Lo mc ms sh k n σ pc ls [.int (jI 1)] := by
  obtain ⟨hd1, rfl⟩ := hd
  intro B D aC sa sv p e R s m args below meth c H locs lsA C hP hS hL hΞ
  obtain ⟨-, x4, rfl, rfl⟩ := id hΞ
  refine va_forget (fun q hq => by rw [← x4]; exact hS.2.2 q hq) ?_
  refine W.widen hk.1 hk.2 ?_
  exact lw_ret C.1 C.2.1 C.2.2.2.1 C.2.2.2.2.1 hd1
end LWS
set_option maxRecDepth 100000 in
theorem lw_ini_X9 : Cond.initialized RX9 ∈ aw_tbl := aw_in1 1 (by decide +kernel) rfl
set_option maxRecDepth 100000 in
theorem lw_ini_X10 : Cond.initialized RX10 ∈ aw_tbl := aw_in1 11 (by decide +kernel) rfl
set_option maxRecDepth 100000 in
theorem lw_ins_X9 : Cond.instantiable RX9 10 ∈ aw_tbl := aw_in1 21 (by decide +kernel) rfl
set_option maxRecDepth 100000 in
theorem lw_ins_X10 : Cond.instantiable RX10 54 ∈ aw_tbl := aw_in5 78 (by decide +kernel) rfl
