theorem jI_ne0 {b : Int} (hb : 0 < b ∧ b ≤ 2147483647) : ¬ jI b = 0 := fun e => by
  have h := (jI_eq (a := b) (b := 0) ⟨⟨by omega, by omega⟩, ⟨by omega, by omega⟩⟩).mp e
  omega
theorem jI_64 {x : Int} (h1 : -2147483648 ≤ x ∧ x ≤ 2147483647) : (jI x).toInt64 = jL x := by
  have e1 : Int32.minValue.toInt = -2147483648 := by decide
  have e2 : Int32.maxValue.toInt = 2147483647 := by decide
  exact Int32.toInt64_ofInt (by omega) (by omega)
/-- no number of 64 bits -/
def aw_n2 (x : Option Value) : Prop := ∀ u : Value, x = some u → u.category ≠ 2
theorem aw_n2i {v : Int32} : aw_n2 (some (.int v)) := fun u h => by cases h; show 1 ≠ 2; decide
theorem aw_n2r {v : Nat} : aw_n2 (some (.ref v)) := fun u h => by cases h; show 1 ≠ 2; decide
theorem aw_n2n : aw_n2 none := fun u h => by cases h
section AWR
variable {l : Launch} {y : MethodName} {cc : ByteArray} {nL : Nat} {ret : Option FieldType} {F Lo mc ms : Nat} {she : aw_Sh} {Post : Option Value → aw_S → Prop} {sh : aw_Sh} {k n : Nat} {σ : aw_S} {pc nx : Nat} {ls : List (Option Value)} {st : List Value}
theorem AW.pure {st' : List Value} {pc' : Nat} (h : ∀ (p : Program) (e : Env) (R : Room) (s : State) (m : MethodId) (args : Array Value) (below : List Frame) (meth : Method) (c : Code) (H : Heap) (locs : List Loc) (lsA : Array Slot) (φ : Nat → Nat) (Q : State → Prop), p.tables.exec = Jvm.exec → c.code = cc → W p l e R s m args below meth c H locs k n Q (F0 m pc' lsA (st'.map (aw_m φ))) → W p l e R s m args below meth c H locs k n Q (F0 m pc lsA (st.map (aw_m φ))))
    (kk : AW l y cc nL ret F Lo mc ms she Post sh k n (σ) pc' (ls) (st')) : AW l y cc nL ret F Lo mc ms she Post sh k n (σ) pc (ls) (st) := by
  intro B D aC sa sv p e R s m args below meth c H locs lsA C hP hS hL
  exact h p e R s m args below meth c H locs lsA _ _ C.1 C.2.1 (kk B D aC sa sv p e R s m args below meth c H locs lsA C hP hS hL)
theorem a_iadd {x y0 : Int} (hd : aw_d 1 cc pc (.iadd) nx) (kk : AW l y cc nL ret F Lo mc ms she Post sh k n (σ) nx (ls) (.int (jI (x + y0)) :: st)) : AW l y cc nL ret F Lo mc ms she Post sh k n (σ) pc (ls) (.int (jI y0) :: .int (jI x) :: st) := by
  obtain ⟨hd1, rfl⟩ := hd
  exact AW.pure (fun p e R s m args below meth c H locs lsA φ Q hx hb kk => lv_iadd hx hb hd1 (by rw [jI_add]; exact kk)) kk
theorem a_isub {x y0 : Int} (hd : aw_d 1 cc pc (.isub) nx) (kk : AW l y cc nL ret F Lo mc ms she Post sh k n (σ) nx (ls) (.int (jI (x - y0)) :: st)) : AW l y cc nL ret F Lo mc ms she Post sh k n (σ) pc (ls) (.int (jI y0) :: .int (jI x) :: st) := by
  obtain ⟨hd1, rfl⟩ := hd
  exact AW.pure (fun p e R s m args below meth c H locs lsA φ Q hx hb kk => lv_isub hx hb hd1 (by rw [jI_sub]; exact kk)) kk
theorem a_imul {x y0 : Int} (hd : aw_d 1 cc pc (.imul) nx) (kk : AW l y cc nL ret F Lo mc ms she Post sh k n (σ) nx (ls) (.int (jI (x * y0)) :: st)) : AW l y cc nL ret F Lo mc ms she Post sh k n (σ) pc (ls) (.int (jI y0) :: .int (jI x) :: st) := by
  obtain ⟨hd1, rfl⟩ := hd
  exact AW.pure (fun p e R s m args below meth c H locs lsA φ Q hx hb kk => lv_imul hx hb hd1 (by rw [jI_mul]; exact kk)) kk
theorem a_iand {x y0 : Int} (v : Int) (hd : aw_d 1 cc pc (.iand) nx) (hv : jI x &&& jI y0 = jI v) (kk : AW l y cc nL ret F Lo mc ms she Post sh k n (σ) nx (ls) (.int (jI v) :: st)) : AW l y cc nL ret F Lo mc ms she Post sh k n (σ) pc (ls) (.int (jI y0) :: .int (jI x) :: st) := by
  obtain ⟨hd1, rfl⟩ := hd
  exact AW.pure (fun p e R s m args below meth c H locs lsA φ Q hx hb kk => lv_iand hx hb hd1 (by rw [hv]; exact kk)) kk
theorem a_ior {x y0 : Int} (v : Int) (hd : aw_d 1 cc pc (.ior) nx) (hv : jI x ||| jI y0 = jI v) (kk : AW l y cc nL ret F Lo mc ms she Post sh k n (σ) nx (ls) (.int (jI v) :: st)) : AW l y cc nL ret F Lo mc ms she Post sh k n (σ) pc (ls) (.int (jI y0) :: .int (jI x) :: st) := by
  obtain ⟨hd1, rfl⟩ := hd
  exact AW.pure (fun p e R s m args below meth c H locs lsA φ Q hx hb kk => lv_ior hx hb hd1 (by rw [hv]; exact kk)) kk
theorem a_ixor {x y0 : Int} (v : Int) (hd : aw_d 1 cc pc (.ixor) nx) (hv : jI x ^^^ jI y0 = jI v) (kk : AW l y cc nL ret F Lo mc ms she Post sh k n (σ) nx (ls) (.int (jI v) :: st)) : AW l y cc nL ret F Lo mc ms she Post sh k n (σ) pc (ls) (.int (jI y0) :: .int (jI x) :: st) := by
  obtain ⟨hd1, rfl⟩ := hd
  exact AW.pure (fun p e R s m args below meth c H locs lsA φ Q hx hb kk => lv_ixor hx hb hd1 (by rw [hv]; exact kk)) kk
theorem a_ishl {x y0 : Int} (v : Int) (hd : aw_d 1 cc pc (.ishl) nx) (hv : jI x <<< (jI y0 &&& 31) = jI v) (kk : AW l y cc nL ret F Lo mc ms she Post sh k n (σ) nx (ls) (.int (jI v) :: st)) : AW l y cc nL ret F Lo mc ms she Post sh k n (σ) pc (ls) (.int (jI y0) :: .int (jI x) :: st) := by
  obtain ⟨hd1, rfl⟩ := hd
  exact AW.pure (fun p e R s m args below meth c H locs lsA φ Q hx hb kk => lv_ishl hx hb hd1 (by rw [hv]; exact kk)) kk
theorem a_ishr {x y0 : Int} (v : Int) (hd : aw_d 1 cc pc (.ishr) nx) (hv : jI x >>> (jI y0 &&& 31) = jI v) (kk : AW l y cc nL ret F Lo mc ms she Post sh k n (σ) nx (ls) (.int (jI v) :: st)) : AW l y cc nL ret F Lo mc ms she Post sh k n (σ) pc (ls) (.int (jI y0) :: .int (jI x) :: st) := by
  obtain ⟨hd1, rfl⟩ := hd
  exact AW.pure (fun p e R s m args below meth c H locs lsA φ Q hx hb kk => lv_ishr hx hb hd1 (by rw [hv]; exact kk)) kk
theorem a_idiv {x y0 : Int} (hd : aw_d 1 cc pc (.idiv) nx) (h1 : 0 ≤ x ∧ x ≤ 2147483647) (h2 : 0 < y0 ∧ y0 ≤ 2147483647) (kk : AW l y cc nL ret F Lo mc ms she Post sh k n (σ) nx (ls) (.int (jI (x / y0)) :: st)) : AW l y cc nL ret F Lo mc ms she Post sh k n (σ) pc (ls) (.int (jI y0) :: .int (jI x) :: st) := by
  obtain ⟨hd1, rfl⟩ := hd
  exact AW.pure (fun p e R s m args below meth c H locs lsA φ Q hx hb kk => lv_idiv hx hb hd1 (jI_ne0 h2) (by rw [jI_div h1 h2]; exact kk)) kk
theorem a_irem {x y0 : Int} (hd : aw_d 1 cc pc (.irem) nx) (h1 : 0 ≤ x ∧ x ≤ 2147483647) (h2 : 0 < y0 ∧ y0 ≤ 2147483647) (kk : AW l y cc nL ret F Lo mc ms she Post sh k n (σ) nx (ls) (.int (jI (x % y0)) :: st)) : AW l y cc nL ret F Lo mc ms she Post sh k n (σ) pc (ls) (.int (jI y0) :: .int (jI x) :: st) := by
  obtain ⟨hd1, rfl⟩ := hd
  exact AW.pure (fun p e R s m args below meth c H locs lsA φ Q hx hb kk => lv_irem hx hb hd1 (jI_ne0 h2) (by rw [jI_rem h1 h2]; exact kk)) kk
theorem a_ineg {x : Int} (hd : aw_d 1 cc pc (.ineg) nx) (kk : AW l y cc nL ret F Lo mc ms she Post sh k n (σ) nx (ls) (.int (jI (-x)) :: st)) : AW l y cc nL ret F Lo mc ms she Post sh k n (σ) pc (ls) (.int (jI x) :: st) := by
  obtain ⟨hd1, rfl⟩ := hd
  exact AW.pure (fun p e R s m args below meth c H locs lsA φ Q hx hb kk => lv_ineg hx hb hd1 (by rw [jI_neg]; exact kk)) kk
theorem a_i2b {x : Int} (v : Int) (hd : aw_d 1 cc pc (.i2b) nx) (hv : (jI x).toInt8.toInt32 = jI v) (kk : AW l y cc nL ret F Lo mc ms she Post sh k n (σ) nx (ls) (.int (jI v) :: st)) : AW l y cc nL ret F Lo mc ms she Post sh k n (σ) pc (ls) (.int (jI x) :: st) := by
  obtain ⟨hd1, rfl⟩ := hd
  exact AW.pure (fun p e R s m args below meth c H locs lsA φ Q hx hb kk => lv_i2b hx hb hd1 hv kk) kk
theorem a_i2l {x : Int} (hd : aw_d 1 cc pc (.i2l) nx) (h1 : -2147483648 ≤ x ∧ x ≤ 2147483647) (kk : AW l y cc nL ret F Lo mc ms she Post sh k n (σ) nx (ls) (.long (jL x) :: st)) : AW l y cc nL ret F Lo mc ms she Post sh k n (σ) pc (ls) (.int (jI x) :: st) := by
  obtain ⟨hd1, rfl⟩ := hd
  exact AW.pure (fun p e R s m args below meth c H locs lsA φ Q hx hb kk => lv_i2l hx hb hd1 (jI_64 h1) kk) kk
theorem a_l2i {x : Int} (hd : aw_d 1 cc pc (.l2i) nx) (kk : AW l y cc nL ret F Lo mc ms she Post sh k n (σ) nx (ls) (.int (jI x) :: st)) : AW l y cc nL ret F Lo mc ms she Post sh k n (σ) pc (ls) (.long (jL x) :: st) := by
  obtain ⟨hd1, rfl⟩ := hd
  exact AW.pure (fun p e R s m args below meth c H locs lsA φ Q hx hb kk => lv_l2i hx hb hd1 Int64.toInt32_ofInt kk) kk
theorem a_ladd {x y0 : Int} (hd : aw_d 1 cc pc (.ladd) nx) (kk : AW l y cc nL ret F Lo mc ms she Post sh k n (σ) nx (ls) (.long (jL (x + y0)) :: st)) : AW l y cc nL ret F Lo mc ms she Post sh k n (σ) pc (ls) (.long (jL y0) :: .long (jL x) :: st) := by
  obtain ⟨hd1, rfl⟩ := hd
  exact AW.pure (fun p e R s m args below meth c H locs lsA φ Q hx hb kk => lv_ladd hx hb hd1 (by rw [jL_add]; exact kk)) kk
theorem a_lsub {x y0 : Int} (hd : aw_d 1 cc pc (.lsub) nx) (kk : AW l y cc nL ret F Lo mc ms she Post sh k n (σ) nx (ls) (.long (jL (x - y0)) :: st)) : AW l y cc nL ret F Lo mc ms she Post sh k n (σ) pc (ls) (.long (jL y0) :: .long (jL x) :: st) := by
  obtain ⟨hd1, rfl⟩ := hd
  exact AW.pure (fun p e R s m args below meth c H locs lsA φ Q hx hb kk => lv_lsub hx hb hd1 (by rw [jL_sub]; exact kk)) kk
theorem a_lmul {x y0 : Int} (hd : aw_d 1 cc pc (.lmul) nx) (kk : AW l y cc nL ret F Lo mc ms she Post sh k n (σ) nx (ls) (.long (jL (x * y0)) :: st)) : AW l y cc nL ret F Lo mc ms she Post sh k n (σ) pc (ls) (.long (jL y0) :: .long (jL x) :: st) := by
  obtain ⟨hd1, rfl⟩ := hd
  exact AW.pure (fun p e R s m args below meth c H locs lsA φ Q hx hb kk => lv_lmul hx hb hd1 (by rw [jL_mul]; exact kk)) kk
theorem a_lor {x y0 : Int} (v : Int) (hd : aw_d 1 cc pc (.lor) nx) (hv : jL x ||| jL y0 = jL v) (kk : AW l y cc nL ret F Lo mc ms she Post sh k n (σ) nx (ls) (.long (jL v) :: st)) : AW l y cc nL ret F Lo mc ms she Post sh k n (σ) pc (ls) (.long (jL y0) :: .long (jL x) :: st) := by
  obtain ⟨hd1, rfl⟩ := hd
  exact AW.pure (fun p e R s m args below meth c H locs lsA φ Q hx hb kk => lv_lor hx hb hd1 (by rw [hv]; exact kk)) kk
theorem a_ldiv {x y0 : Int} (v : Int) (hd : aw_d 1 cc pc (.ldiv) nx) (hne : ¬ jL y0 = 0) (hv : jL x / jL y0 = jL v) (kk : AW l y cc nL ret F Lo mc ms she Post sh k n (σ) nx (ls) (.long (jL v) :: st)) : AW l y cc nL ret F Lo mc ms she Post sh k n (σ) pc (ls) (.long (jL y0) :: .long (jL x) :: st) := by
  obtain ⟨hd1, rfl⟩ := hd
  exact AW.pure (fun p e R s m args below meth c H locs lsA φ Q hx hb kk => lv_ldiv hx hb hd1 hne (by rw [hv]; exact kk)) kk
theorem a_lshl {x y0 : Int} (v : Int) (hd : aw_d 1 cc pc (.lshl) nx) (hv : jL x <<< ((jI y0).toInt64 &&& 63) = jL v) (kk : AW l y cc nL ret F Lo mc ms she Post sh k n (σ) nx (ls) (.long (jL v) :: st)) : AW l y cc nL ret F Lo mc ms she Post sh k n (σ) pc (ls) (.int (jI y0) :: .long (jL x) :: st) := by
  obtain ⟨hd1, rfl⟩ := hd
  exact AW.pure (fun p e R s m args below meth c H locs lsA φ Q hx hb kk => lv_lshl hx hb hd1 hv kk) kk
theorem a_lcmp {x y0 : Int} (v : Int) (hd : aw_d 1 cc pc (.lcmp) nx) (hv : lg_cmp (jL x) (jL y0) = jI v) (kk : AW l y cc nL ret F Lo mc ms she Post sh k n (σ) nx (ls) (.int (jI v) :: st)) : AW l y cc nL ret F Lo mc ms she Post sh k n (σ) pc (ls) (.long (jL y0) :: .long (jL x) :: st) := by
  obtain ⟨hd1, rfl⟩ := hd
  exact AW.pure (fun p e R s m args below meth c H locs lsA φ Q hx hb kk => W.lcmp hx hb hd1 (by rw [hv]; exact kk)) kk
theorem a_iconst {z : Int} (hd : aw_d 1 cc pc (.iconst z) nx) (kk : AW l y cc nL ret F Lo mc ms she Post sh k n (σ) nx (ls) (.int (jI z) :: st)) : AW l y cc nL ret F Lo mc ms she Post sh k n (σ) pc (ls) (st) := by
  obtain ⟨hd1, rfl⟩ := hd
  exact AW.pure (fun p e R s m args below meth c H locs lsA φ Q hx hb kk => lv_iconst hx hb hd1 rfl kk) kk
theorem a_bipush {z : Int} (hd : aw_d 2 cc pc (.bipush z) nx) (hv : (Int8.ofInt z).toInt32 = jI z) (kk : AW l y cc nL ret F Lo mc ms she Post sh k n (σ) nx (ls) (.int (jI z) :: st)) : AW l y cc nL ret F Lo mc ms she Post sh k n (σ) pc (ls) (st) := by
  obtain ⟨hd1, rfl⟩ := hd
  exact AW.pure (fun p e R s m args below meth c H locs lsA φ Q hx hb kk => lv_bipush hx hb hd1 hv kk) kk
theorem a_sipush {z : Int} (hd : aw_d 3 cc pc (.sipush z) nx) (hv : (Int16.ofInt z).toInt32 = jI z) (kk : AW l y cc nL ret F Lo mc ms she Post sh k n (σ) nx (ls) (.int (jI z) :: st)) : AW l y cc nL ret F Lo mc ms she Post sh k n (σ) pc (ls) (st) := by
  obtain ⟨hd1, rfl⟩ := hd
  exact AW.pure (fun p e R s m args below meth c H locs lsA φ Q hx hb kk => lv_sipush hx hb hd1 hv kk) kk
theorem a_lconst {z : Fin 2} (v : Int) (hd : aw_d 1 cc pc (.lconst z) nx) (hv : Int64.ofNat (z : Nat) = jL v) (kk : AW l y cc nL ret F Lo mc ms she Post sh k n (σ) nx (ls) (.long (jL v) :: st)) : AW l y cc nL ret F Lo mc ms she Post sh k n (σ) pc (ls) (st) := by
  obtain ⟨hd1, rfl⟩ := hd
  exact AW.pure (fun p e R s m args below meth c H locs lsA φ Q hx hb kk => lv_lconst hx hb hd1 hv kk) kk
theorem a_dup {v : Value} (hd : aw_d 1 cc pc (.dup) nx) (hv : v.category = 1) (kk : AW l y cc nL ret F Lo mc ms she Post sh k n (σ) nx (ls) (v :: v :: st)) : AW l y cc nL ret F Lo mc ms she Post sh k n (σ) pc (ls) (v :: st) := by
  obtain ⟨hd1, rfl⟩ := hd
  exact AW.pure (fun p e R s m args below meth c H locs lsA φ Q hx hb kk => lv_dup hx hb hd1 (by rw [aw_m_cat]; exact hv) kk) kk
theorem a_dup2 {v u : Value} (hd : aw_d 1 cc pc (.dup2) nx) (hv : v.category = 1) (hu : u.category = 1) (kk : AW l y cc nL ret F Lo mc ms she Post sh k n (σ) nx (ls) (v :: u :: v :: u :: st)) : AW l y cc nL ret F Lo mc ms she Post sh k n (σ) pc (ls) (v :: u :: st) := by
  obtain ⟨hd1, rfl⟩ := hd
  exact AW.pure (fun p e R s m args below meth c H locs lsA φ Q hx hb kk => lv_dup2_11 hx hb hd1 (by rw [aw_m_cat]; exact hv) (by rw [aw_m_cat]; exact hu) kk) kk
theorem a_pop {v : Value} (hd : aw_d 1 cc pc (.pop) nx) (hv : v.category = 1) (kk : AW l y cc nL ret F Lo mc ms she Post sh k n (σ) nx (ls) (st)) : AW l y cc nL ret F Lo mc ms she Post sh k n (σ) pc (ls) (v :: st) := by
  obtain ⟨hd1, rfl⟩ := hd
  exact AW.pure (fun p e R s m args below meth c H locs lsA φ Q hx hb kk => lv_pop hx hb hd1 (by rw [aw_m_cat]; exact hv) kk) kk
theorem a_top {v : Int32} (kk : AW l y cc nL ret F Lo mc ms she Post sh k n (σ) pc (ls) (.int (jI v.toInt) :: st)) : AW l y cc nL ret F Lo mc ms she Post sh k n (σ) pc (ls) (.int v :: st) := by
  rw [← jI_self v]
  exact kk
theorem a_eqtop {x y0 : Int} (h : x = y0) (kk : AW l y cc nL ret F Lo mc ms she Post sh k n (σ) pc (ls) (.int (jI y0) :: st)) : AW l y cc nL ret F Lo mc ms she Post sh k n (σ) pc (ls) (.int (jI x) :: st) := h ▸ kk
theorem a_goto {off : Int} (tgt : Nat) (hd : aw_d 3 cc pc (.goto off) nx) (ht : (pc : Int) + off = (tgt : Int)) (kk : AW l y cc nL ret F Lo mc ms she Post sh k n (σ) tgt (ls) (st)) : AW l y cc nL ret F Lo mc ms she Post sh k n (σ) pc (ls) (st) := by
  obtain ⟨hd1, rfl⟩ := hd
  exact AW.pure (fun p e R s m args below meth c H locs lsA φ Q hx hb kk => lv_goto hx hb hd1 ht kk) kk
theorem a_icmp_eq {x y0 : Int} {off : Int} (tgt : Nat) (hd : aw_d 3 cc pc (.if_icmp .eq off) nx) (ht : (pc : Int) + off = (tgt : Int)) (hr : ((-2147483648 ≤ x ∧ x ≤ 2147483647) ∧ (-2147483648 ≤ y0 ∧ y0 ≤ 2147483647))) (kt : x = y0 → AW l y cc nL ret F Lo mc ms she Post sh k n (σ) tgt (ls) (st)) (kf : ¬ (x = y0) → AW l y cc nL ret F Lo mc ms she Post sh k n (σ) nx (ls) (st)) : AW l y cc nL ret F Lo mc ms she Post sh k n (σ) pc (ls) (.int (jI y0) :: .int (jI x) :: st) := by
  obtain ⟨hd1, rfl⟩ := hd
  intro B D aC sa sv p e R s m args below meth c H locs lsA C hP hS hL
  exact lv_icmp_eq C.1 C.2.1 hd1 ht (fun q => kt ((jI_eq (a := x) (b := y0) ⟨⟨by omega, by omega⟩, ⟨by omega, by omega⟩⟩).mp q) B D aC sa sv p e R s m args below meth c H locs lsA C hP hS hL) (fun q => kf (fun h => q ((jI_eq (a := x) (b := y0) ⟨⟨by omega, by omega⟩, ⟨by omega, by omega⟩⟩).mpr h)) B D aC sa sv p e R s m args below meth c H locs lsA C hP hS hL)
theorem a_icmp_ne {x y0 : Int} {off : Int} (tgt : Nat) (hd : aw_d 3 cc pc (.if_icmp .ne off) nx) (ht : (pc : Int) + off = (tgt : Int)) (hr : ((-2147483648 ≤ x ∧ x ≤ 2147483647) ∧ (-2147483648 ≤ y0 ∧ y0 ≤ 2147483647))) (kt : ¬ x = y0 → AW l y cc nL ret F Lo mc ms she Post sh k n (σ) tgt (ls) (st)) (kf : x = y0 → AW l y cc nL ret F Lo mc ms she Post sh k n (σ) nx (ls) (st)) : AW l y cc nL ret F Lo mc ms she Post sh k n (σ) pc (ls) (.int (jI y0) :: .int (jI x) :: st) := by
  obtain ⟨hd1, rfl⟩ := hd
  intro B D aC sa sv p e R s m args below meth c H locs lsA C hP hS hL
  exact lv_icmp_ne C.1 C.2.1 hd1 ht (fun q => kt (fun h => q ((jI_eq (a := x) (b := y0) ⟨⟨by omega, by omega⟩, ⟨by omega, by omega⟩⟩).mpr h)) B D aC sa sv p e R s m args below meth c H locs lsA C hP hS hL) (fun q => kf ((jI_eq (a := x) (b := y0) ⟨⟨by omega, by omega⟩, ⟨by omega, by omega⟩⟩).mp q) B D aC sa sv p e R s m args below meth c H locs lsA C hP hS hL)
theorem a_icmp_lt {x y0 : Int} {off : Int} (tgt : Nat) (hd : aw_d 3 cc pc (.if_icmp .lt off) nx) (ht : (pc : Int) + off = (tgt : Int)) (hr : ((-2147483648 ≤ x ∧ x ≤ 2147483647) ∧ (-2147483648 ≤ y0 ∧ y0 ≤ 2147483647))) (kt : x < y0 → AW l y cc nL ret F Lo mc ms she Post sh k n (σ) tgt (ls) (st)) (kf : ¬ (x < y0) → AW l y cc nL ret F Lo mc ms she Post sh k n (σ) nx (ls) (st)) : AW l y cc nL ret F Lo mc ms she Post sh k n (σ) pc (ls) (.int (jI y0) :: .int (jI x) :: st) := by
  obtain ⟨hd1, rfl⟩ := hd
  intro B D aC sa sv p e R s m args below meth c H locs lsA C hP hS hL
  exact lv_icmp_lt C.1 C.2.1 hd1 ht (fun q => kt ((jI_lt (a := x) (b := y0) ⟨⟨by omega, by omega⟩, ⟨by omega, by omega⟩⟩).mp q) B D aC sa sv p e R s m args below meth c H locs lsA C hP hS hL) (fun q => kf (fun h => q ((jI_lt (a := x) (b := y0) ⟨⟨by omega, by omega⟩, ⟨by omega, by omega⟩⟩).mpr h)) B D aC sa sv p e R s m args below meth c H locs lsA C hP hS hL)
theorem a_icmp_ge {x y0 : Int} {off : Int} (tgt : Nat) (hd : aw_d 3 cc pc (.if_icmp .ge off) nx) (ht : (pc : Int) + off = (tgt : Int)) (hr : ((-2147483648 ≤ x ∧ x ≤ 2147483647) ∧ (-2147483648 ≤ y0 ∧ y0 ≤ 2147483647))) (kt : y0 ≤ x → AW l y cc nL ret F Lo mc ms she Post sh k n (σ) tgt (ls) (st)) (kf : ¬ (y0 ≤ x) → AW l y cc nL ret F Lo mc ms she Post sh k n (σ) nx (ls) (st)) : AW l y cc nL ret F Lo mc ms she Post sh k n (σ) pc (ls) (.int (jI y0) :: .int (jI x) :: st) := by
  obtain ⟨hd1, rfl⟩ := hd
  intro B D aC sa sv p e R s m args below meth c H locs lsA C hP hS hL
  exact lv_icmp_ge C.1 C.2.1 hd1 ht (fun q => kt ((jI_le (a := y0) (b := x) ⟨⟨by omega, by omega⟩, ⟨by omega, by omega⟩⟩).mp q) B D aC sa sv p e R s m args below meth c H locs lsA C hP hS hL) (fun q => kf (fun h => q ((jI_le (a := y0) (b := x) ⟨⟨by omega, by omega⟩, ⟨by omega, by omega⟩⟩).mpr h)) B D aC sa sv p e R s m args below meth c H locs lsA C hP hS hL)
theorem a_icmp_gt {x y0 : Int} {off : Int} (tgt : Nat) (hd : aw_d 3 cc pc (.if_icmp .gt off) nx) (ht : (pc : Int) + off = (tgt : Int)) (hr : ((-2147483648 ≤ x ∧ x ≤ 2147483647) ∧ (-2147483648 ≤ y0 ∧ y0 ≤ 2147483647))) (kt : y0 < x → AW l y cc nL ret F Lo mc ms she Post sh k n (σ) tgt (ls) (st)) (kf : ¬ (y0 < x) → AW l y cc nL ret F Lo mc ms she Post sh k n (σ) nx (ls) (st)) : AW l y cc nL ret F Lo mc ms she Post sh k n (σ) pc (ls) (.int (jI y0) :: .int (jI x) :: st) := by
  obtain ⟨hd1, rfl⟩ := hd
  intro B D aC sa sv p e R s m args below meth c H locs lsA C hP hS hL
  exact lv_icmp_gt C.1 C.2.1 hd1 ht (fun q => kt ((jI_lt (a := y0) (b := x) ⟨⟨by omega, by omega⟩, ⟨by omega, by omega⟩⟩).mp q) B D aC sa sv p e R s m args below meth c H locs lsA C hP hS hL) (fun q => kf (fun h => q ((jI_lt (a := y0) (b := x) ⟨⟨by omega, by omega⟩, ⟨by omega, by omega⟩⟩).mpr h)) B D aC sa sv p e R s m args below meth c H locs lsA C hP hS hL)
theorem a_icmp_le {x y0 : Int} {off : Int} (tgt : Nat) (hd : aw_d 3 cc pc (.if_icmp .le off) nx) (ht : (pc : Int) + off = (tgt : Int)) (hr : ((-2147483648 ≤ x ∧ x ≤ 2147483647) ∧ (-2147483648 ≤ y0 ∧ y0 ≤ 2147483647))) (kt : x ≤ y0 → AW l y cc nL ret F Lo mc ms she Post sh k n (σ) tgt (ls) (st)) (kf : ¬ (x ≤ y0) → AW l y cc nL ret F Lo mc ms she Post sh k n (σ) nx (ls) (st)) : AW l y cc nL ret F Lo mc ms she Post sh k n (σ) pc (ls) (.int (jI y0) :: .int (jI x) :: st) := by
  obtain ⟨hd1, rfl⟩ := hd
  intro B D aC sa sv p e R s m args below meth c H locs lsA C hP hS hL
  exact lv_icmp_le C.1 C.2.1 hd1 ht (fun q => kt ((jI_le (a := x) (b := y0) ⟨⟨by omega, by omega⟩, ⟨by omega, by omega⟩⟩).mp q) B D aC sa sv p e R s m args below meth c H locs lsA C hP hS hL) (fun q => kf (fun h => q ((jI_le (a := x) (b := y0) ⟨⟨by omega, by omega⟩, ⟨by omega, by omega⟩⟩).mpr h)) B D aC sa sv p e R s m args below meth c H locs lsA C hP hS hL)
theorem a_if_eq {x : Int} {off : Int} (tgt : Nat) (hd : aw_d 3 cc pc (.ifCond .eq off) nx) (ht : (pc : Int) + off = (tgt : Int)) (hr : (-2147483648 ≤ x ∧ x ≤ 2147483647)) (kt : x = 0 → AW l y cc nL ret F Lo mc ms she Post sh k n (σ) tgt (ls) (st)) (kf : ¬ (x = 0) → AW l y cc nL ret F Lo mc ms she Post sh k n (σ) nx (ls) (st)) : AW l y cc nL ret F Lo mc ms she Post sh k n (σ) pc (ls) (.int (jI x) :: st) := by
  obtain ⟨hd1, rfl⟩ := hd
  intro B D aC sa sv p e R s m args below meth c H locs lsA C hP hS hL
  exact lv_if_eq C.1 C.2.1 hd1 ht (fun q => kt ((jI_eq (a := x) (b := 0) ⟨⟨by omega, by omega⟩, ⟨by omega, by omega⟩⟩).mp q) B D aC sa sv p e R s m args below meth c H locs lsA C hP hS hL) (fun q => kf (fun h => q ((jI_eq (a := x) (b := 0) ⟨⟨by omega, by omega⟩, ⟨by omega, by omega⟩⟩).mpr h)) B D aC sa sv p e R s m args below meth c H locs lsA C hP hS hL)
theorem a_if_ne {x : Int} {off : Int} (tgt : Nat) (hd : aw_d 3 cc pc (.ifCond .ne off) nx) (ht : (pc : Int) + off = (tgt : Int)) (hr : (-2147483648 ≤ x ∧ x ≤ 2147483647)) (kt : ¬ x = 0 → AW l y cc nL ret F Lo mc ms she Post sh k n (σ) tgt (ls) (st)) (kf : x = 0 → AW l y cc nL ret F Lo mc ms she Post sh k n (σ) nx (ls) (st)) : AW l y cc nL ret F Lo mc ms she Post sh k n (σ) pc (ls) (.int (jI x) :: st) := by
  obtain ⟨hd1, rfl⟩ := hd
  intro B D aC sa sv p e R s m args below meth c H locs lsA C hP hS hL
  exact lv_if_ne C.1 C.2.1 hd1 ht (fun q => kt (fun h => q ((jI_eq (a := x) (b := 0) ⟨⟨by omega, by omega⟩, ⟨by omega, by omega⟩⟩).mpr h)) B D aC sa sv p e R s m args below meth c H locs lsA C hP hS hL) (fun q => kf ((jI_eq (a := x) (b := 0) ⟨⟨by omega, by omega⟩, ⟨by omega, by omega⟩⟩).mp q) B D aC sa sv p e R s m args below meth c H locs lsA C hP hS hL)
theorem a_if_lt {x : Int} {off : Int} (tgt : Nat) (hd : aw_d 3 cc pc (.ifCond .lt off) nx) (ht : (pc : Int) + off = (tgt : Int)) (hr : (-2147483648 ≤ x ∧ x ≤ 2147483647)) (kt : x < 0 → AW l y cc nL ret F Lo mc ms she Post sh k n (σ) tgt (ls) (st)) (kf : ¬ (x < 0) → AW l y cc nL ret F Lo mc ms she Post sh k n (σ) nx (ls) (st)) : AW l y cc nL ret F Lo mc ms she Post sh k n (σ) pc (ls) (.int (jI x) :: st) := by
  obtain ⟨hd1, rfl⟩ := hd
  intro B D aC sa sv p e R s m args below meth c H locs lsA C hP hS hL
  exact lv_if_lt C.1 C.2.1 hd1 ht (fun q => kt ((jI_lt (a := x) (b := 0) ⟨⟨by omega, by omega⟩, ⟨by omega, by omega⟩⟩).mp q) B D aC sa sv p e R s m args below meth c H locs lsA C hP hS hL) (fun q => kf (fun h => q ((jI_lt (a := x) (b := 0) ⟨⟨by omega, by omega⟩, ⟨by omega, by omega⟩⟩).mpr h)) B D aC sa sv p e R s m args below meth c H locs lsA C hP hS hL)
theorem a_if_ge {x : Int} {off : Int} (tgt : Nat) (hd : aw_d 3 cc pc (.ifCond .ge off) nx) (ht : (pc : Int) + off = (tgt : Int)) (hr : (-2147483648 ≤ x ∧ x ≤ 2147483647)) (kt : 0 ≤ x → AW l y cc nL ret F Lo mc ms she Post sh k n (σ) tgt (ls) (st)) (kf : ¬ (0 ≤ x) → AW l y cc nL ret F Lo mc ms she Post sh k n (σ) nx (ls) (st)) : AW l y cc nL ret F Lo mc ms she Post sh k n (σ) pc (ls) (.int (jI x) :: st) := by
  obtain ⟨hd1, rfl⟩ := hd
  intro B D aC sa sv p e R s m args below meth c H locs lsA C hP hS hL
  exact lv_if_ge C.1 C.2.1 hd1 ht (fun q => kt ((jI_le (a := 0) (b := x) ⟨⟨by omega, by omega⟩, ⟨by omega, by omega⟩⟩).mp q) B D aC sa sv p e R s m args below meth c H locs lsA C hP hS hL) (fun q => kf (fun h => q ((jI_le (a := 0) (b := x) ⟨⟨by omega, by omega⟩, ⟨by omega, by omega⟩⟩).mpr h)) B D aC sa sv p e R s m args below meth c H locs lsA C hP hS hL)
theorem a_if_gt {x : Int} {off : Int} (tgt : Nat) (hd : aw_d 3 cc pc (.ifCond .gt off) nx) (ht : (pc : Int) + off = (tgt : Int)) (hr : (-2147483648 ≤ x ∧ x ≤ 2147483647)) (kt : 0 < x → AW l y cc nL ret F Lo mc ms she Post sh k n (σ) tgt (ls) (st)) (kf : ¬ (0 < x) → AW l y cc nL ret F Lo mc ms she Post sh k n (σ) nx (ls) (st)) : AW l y cc nL ret F Lo mc ms she Post sh k n (σ) pc (ls) (.int (jI x) :: st) := by
  obtain ⟨hd1, rfl⟩ := hd
  intro B D aC sa sv p e R s m args below meth c H locs lsA C hP hS hL
  exact lv_if_gt C.1 C.2.1 hd1 ht (fun q => kt ((jI_lt (a := 0) (b := x) ⟨⟨by omega, by omega⟩, ⟨by omega, by omega⟩⟩).mp q) B D aC sa sv p e R s m args below meth c H locs lsA C hP hS hL) (fun q => kf (fun h => q ((jI_lt (a := 0) (b := x) ⟨⟨by omega, by omega⟩, ⟨by omega, by omega⟩⟩).mpr h)) B D aC sa sv p e R s m args below meth c H locs lsA C hP hS hL)
theorem a_if_le {x : Int} {off : Int} (tgt : Nat) (hd : aw_d 3 cc pc (.ifCond .le off) nx) (ht : (pc : Int) + off = (tgt : Int)) (hr : (-2147483648 ≤ x ∧ x ≤ 2147483647)) (kt : x ≤ 0 → AW l y cc nL ret F Lo mc ms she Post sh k n (σ) tgt (ls) (st)) (kf : ¬ (x ≤ 0) → AW l y cc nL ret F Lo mc ms she Post sh k n (σ) nx (ls) (st)) : AW l y cc nL ret F Lo mc ms she Post sh k n (σ) pc (ls) (.int (jI x) :: st) := by
  obtain ⟨hd1, rfl⟩ := hd
  intro B D aC sa sv p e R s m args below meth c H locs lsA C hP hS hL
  exact lv_if_le C.1 C.2.1 hd1 ht (fun q => kt ((jI_le (a := x) (b := 0) ⟨⟨by omega, by omega⟩, ⟨by omega, by omega⟩⟩).mp q) B D aC sa sv p e R s m args below meth c H locs lsA C hP hS hL) (fun q => kf (fun h => q ((jI_le (a := x) (b := 0) ⟨⟨by omega, by omega⟩, ⟨by omega, by omega⟩⟩).mpr h)) B D aC sa sv p e R s m args below meth c H locs lsA C hP hS hL)
theorem a_table {dflt lo hi : Int} {offs : Array Int} {len : Nat} {x : Int} (off : Int) (tgt : Nat) (hd : aw_d len cc pc (.tableswitch dflt lo hi offs) nx) (hr : -2147483648 ≤ x ∧ x ≤ 2147483647) (h1 : ¬ x < lo) (h2 : ¬ hi < x) (ho : offs[(x - lo).toNat]? = some off) (ht : (pc : Int) + off = (tgt : Int)) (kk : AW l y cc nL ret F Lo mc ms she Post sh k n (σ) tgt (ls) (st)) : AW l y cc nL ret F Lo mc ms she Post sh k n (σ) pc (ls) (.int (jI x) :: st) := by
  obtain ⟨hd1, rfl⟩ := hd
  exact AW.pure (fun p e R s m args below meth c H locs lsA φ Q hx hb kk => lv_tableIn hx hb hd1 (by rw [jI_toInt hr.1 hr.2]; exact h1) (by rw [jI_toInt hr.1 hr.2]; exact h2) (by rw [jI_toInt hr.1 hr.2]; exact ho) ht kk) kk
theorem a_tableOut {dflt lo hi : Int} {offs : Array Int} {len : Nat} {x : Int} (tgt : Nat) (hd : aw_d len cc pc (.tableswitch dflt lo hi offs) nx) (hr : -2147483648 ≤ x ∧ x ≤ 2147483647) (h : x < lo ∨ hi < x) (ht : (pc : Int) + dflt = (tgt : Int)) (kk : AW l y cc nL ret F Lo mc ms she Post sh k n (σ) tgt (ls) (st)) : AW l y cc nL ret F Lo mc ms she Post sh k n (σ) pc (ls) (.int (jI x) :: st) := by
  obtain ⟨hd1, rfl⟩ := hd
  exact AW.pure (fun p e R s m args below meth c H locs lsA φ Q hx hb kk => lv_tableOut hx hb hd1 (by rw [jI_toInt hr.1 hr.2]; exact h) ht kk) kk
theorem a_lookup {dflt : Int} {ps : Array (Int × Int)} {len : Nat} {x : Int} (off : Int) (tgt : Nat) (hd : aw_d len cc pc (.lookupswitch dflt ps) nx) (hr : -2147483648 ≤ x ∧ x ≤ 2147483647) (hp : (ps.toList.zip (ps.toList.drop 1)).all (fun (a, next) => a.1 < next.1) = true) (ho : Op.lookupswitch.offset ps.toList dflt x = off) (ht : (pc : Int) + off = (tgt : Int)) (kk : AW l y cc nL ret F Lo mc ms she Post sh k n (σ) tgt (ls) (st)) : AW l y cc nL ret F Lo mc ms she Post sh k n (σ) pc (ls) (.int (jI x) :: st) := by
  obtain ⟨hd1, rfl⟩ := hd
  exact AW.pure (fun p e R s m args below meth c H locs lsA φ Q hx hb kk => lv_lookup hx hb hd1 hp (by rw [jI_toInt hr.1 hr.2]; exact ho) ht kk) kk
theorem a_ldc {idx : Nat} {v : Int32} (z : Int) (hz : v = jI z) (hd : aw_d 2 cc pc (.ldc idx) nx) (hc : Cond.constant y.cls idx v ∈ aw_tbl) (kk : AW l y cc nL ret F Lo mc ms she Post sh k n (σ) nx (ls) (.int (jI z) :: st)) : AW l y cc nL ret F Lo mc ms she Post sh k n (σ) pc (ls) (st) := by
  subst hz
  obtain ⟨hd1, rfl⟩ := hd
  intro B D aC sa sv p e R s m args below meth c H locs lsA C hP hS hL
  obtain ⟨hx, hb, hml, hr, hlk, hnm, hown, hts, C8⟩ := id C
  exact lv_ldc hx hb hown (hts _ hc) hd1 (kk B D aC sa sv p e R s m args below meth c H locs lsA C hP hS hL)
theorem a_ldcw {idx : Nat} {v : Int32} (z : Int) (hz : v = jI z) (hd : aw_d 3 cc pc (.ldc_w idx) nx) (hc : Cond.constant y.cls idx v ∈ aw_tbl) (kk : AW l y cc nL ret F Lo mc ms she Post sh k n (σ) nx (ls) (.int (jI z) :: st)) : AW l y cc nL ret F Lo mc ms she Post sh k n (σ) pc (ls) (st) := by
  subst hz
  obtain ⟨hd1, rfl⟩ := hd
  intro B D aC sa sv p e R s m args below meth c H locs lsA C hP hS hL
  obtain ⟨hx, hb, hml, hr, hlk, hnm, hown, hts, C8⟩ := id C
  exact lv_ldcw hx hb hown (hts _ hc) hd1 (kk B D aC sa sv p e R s m args below meth c H locs lsA C hP hS hL)
theorem a_ldc2 {idx : Nat} {v : Int64} (z : Int) (hz : v = jL z) (hd : aw_d 3 cc pc (.ldc2_w idx) nx) (hc : Cond.constantLong y.cls idx v ∈ aw_tbl) (kk : AW l y cc nL ret F Lo mc ms she Post sh k n (σ) nx (ls) (.long (jL z) :: st)) : AW l y cc nL ret F Lo mc ms she Post sh k n (σ) pc (ls) (st) := by
  subst hz
  obtain ⟨hd1, rfl⟩ := hd
  intro B D aC sa sv p e R s m args below meth c H locs lsA C hP hS hL
  obtain ⟨hx, hb, hml, hr, hlk, hnm, hown, hts, C8⟩ := id C
  exact lv_ldc2 hx hb hown (hts _ hc) hd1 (kk B D aC sa sv p e R s m args below meth c H locs lsA C hP hS hL)
theorem a_ild0 {v : Int32} {t : List (Option Value)} (hd : aw_d 1 cc pc (.iload_n 0) nx) (kk : AW l y cc nL ret F Lo mc ms she Post sh k n (σ) nx (some (.int v) :: t) (.int v :: st)) : AW l y cc nL ret F Lo mc ms she Post sh k n (σ) pc (some (.int v) :: t) (st) := by
  obtain ⟨hd1, rfl⟩ := hd
  intro B D aC sa sv p e R s m args below meth c H locs lsA C hP hS hL
  exact lv_iload_n C.1 C.2.1 hd1 rfl (aw_at (i := 0) hL rfl) (kk B D aC sa sv p e R s m args below meth c H locs lsA C hP hS hL)
theorem a_lld0 {v : Int64} {t : List (Option Value)} (hd : aw_d 1 cc pc (.lload_n 0) nx) (kk : AW l y cc nL ret F Lo mc ms she Post sh k n (σ) nx (some (.long v) :: t) (.long v :: st)) : AW l y cc nL ret F Lo mc ms she Post sh k n (σ) pc (some (.long v) :: t) (st) := by
  obtain ⟨hd1, rfl⟩ := hd
  intro B D aC sa sv p e R s m args below meth c H locs lsA C hP hS hL
  exact lv_lload_n C.1 C.2.1 hd1 rfl (aw_at (i := 0) hL rfl) (kk B D aC sa sv p e R s m args below meth c H locs lsA C hP hS hL)
theorem a_ald0 {v : Nat} {t : List (Option Value)} (hd : aw_d 1 cc pc (.aload_n 0) nx) (kk : AW l y cc nL ret F Lo mc ms she Post sh k n (σ) nx (some (.ref v) :: t) (.ref v :: st)) : AW l y cc nL ret F Lo mc ms she Post sh k n (σ) pc (some (.ref v) :: t) (st) := by
  obtain ⟨hd1, rfl⟩ := hd
  intro B D aC sa sv p e R s m args below meth c H locs lsA C hP hS hL
  exact lv_aload_n C.1 C.2.1 hd1 rfl (aw_at (i := 0) hL rfl) (kk B D aC sa sv p e R s m args below meth c H locs lsA C hP hS hL)
theorem a_ist0 {x0 : Option Value} {v : Int32} {t : List (Option Value)} (hd : aw_d 1 cc pc (.istore_n 0) nx) (hi : 0 < nL) (kk : AW l y cc nL ret F Lo mc ms she Post sh k n (σ) nx (some (.int v) :: t) (st)) : AW l y cc nL ret F Lo mc ms she Post sh k n (σ) pc (x0 :: t) (.int v :: st) := by
  obtain ⟨hd1, rfl⟩ := hd
  intro B D aC sa sv p e R s m args below meth c H locs lsA C hP hS hL
  refine lv_istore_n C.1 C.2.1 hd1 rfl hL hi rfl (fun ls2 hL2 => ?_)
  exact kk B D aC sa sv p e R s m args below meth c H locs ls2 C hP hS (aw_set1 (i := 0) (v := .int v) (ls := x0 :: t) (fun j u hj => by cases hj) hL2)
theorem a_ast0 {x0 : Option Value} {v : Nat} {t : List (Option Value)} (hd : aw_d 1 cc pc (.astore_n 0) nx) (hi : 0 < nL) (kk : AW l y cc nL ret F Lo mc ms she Post sh k n (σ) nx (some (.ref v) :: t) (st)) : AW l y cc nL ret F Lo mc ms she Post sh k n (σ) pc (x0 :: t) (.ref v :: st) := by
  obtain ⟨hd1, rfl⟩ := hd
  intro B D aC sa sv p e R s m args below meth c H locs lsA C hP hS hL
  refine lv_astore_n C.1 C.2.1 hd1 rfl hL hi rfl (fun ls2 hL2 => ?_)
  exact kk B D aC sa sv p e R s m args below meth c H locs ls2 C hP hS (aw_set1 (i := 0) (v := .ref v) (ls := x0 :: t) (fun j u hj => by cases hj) hL2)
theorem a_iinc0 {v z : Int} {t : List (Option Value)} (hd : aw_d 3 cc pc (.iinc 0 z) nx) (hi : 0 < nL) (kk : AW l y cc nL ret F Lo mc ms she Post sh k n (σ) nx (some (.int (jI (v + z))) :: t) (st)) : AW l y cc nL ret F Lo mc ms she Post sh k n (σ) pc (some (.int (jI v)) :: t) (st) := by
  obtain ⟨hd1, rfl⟩ := hd
  intro B D aC sa sv p e R s m args below meth c H locs lsA C hP hS hL
  obtain ⟨j, hj⟩ := List.mem_iff_getElem?.mp ((aw_lv_mem (aw_f B sa) (some (.int (jI v)) :: t) 0 (0, .int (jI v))).mpr ⟨0, .int (jI v), rfl, rfl⟩)
  refine lv_iinc C.1 C.2.1 hd1 hL hj (jI_add v z) hi rfl (fun ls2 hL2 => ?_)
  exact kk B D aC sa sv p e R s m args below meth c H locs ls2 C hP hS (aw_set1 (i := 0) (v := .int (jI (v + z))) (ls := some (.int (jI v)) :: t) (fun j u hj => by cases hj) hL2)
theorem a_lst0 {x0 x1 : Option Value} {v : Int64} {t : List (Option Value)} (hd : aw_d 1 cc pc (.lstore_n 0) nx) (hi : 0 + 1 < nL) (kk : AW l y cc nL ret F Lo mc ms she Post sh k n (σ) nx (some (.long v) :: none :: t) (st)) : AW l y cc nL ret F Lo mc ms she Post sh k n (σ) pc (x0 :: x1 :: t) (.long v :: st) := by
  obtain ⟨hd1, rfl⟩ := hd
  intro B D aC sa sv p e R s m args below meth c H locs lsA C hP hS hL
  refine lv_lstore_n C.1 C.2.1 hd1 rfl hL hi rfl (fun ls2 hL2 => ?_)
  exact kk B D aC sa sv p e R s m args below meth c H locs ls2 C hP hS (aw_set2 (i := 0) (v := .long v) (ls := x0 :: x1 :: t) (fun j u hj => by cases hj) hL2)
theorem a_ild1 {x0 : Option Value} {v : Int32} {t : List (Option Value)} (hd : aw_d 1 cc pc (.iload_n 1) nx) (kk : AW l y cc nL ret F Lo mc ms she Post sh k n (σ) nx (x0 :: some (.int v) :: t) (.int v :: st)) : AW l y cc nL ret F Lo mc ms she Post sh k n (σ) pc (x0 :: some (.int v) :: t) (st) := by
  obtain ⟨hd1, rfl⟩ := hd
  intro B D aC sa sv p e R s m args below meth c H locs lsA C hP hS hL
  exact lv_iload_n C.1 C.2.1 hd1 rfl (aw_at (i := 1) hL rfl) (kk B D aC sa sv p e R s m args below meth c H locs lsA C hP hS hL)
theorem a_lld1 {x0 : Option Value} {v : Int64} {t : List (Option Value)} (hd : aw_d 1 cc pc (.lload_n 1) nx) (kk : AW l y cc nL ret F Lo mc ms she Post sh k n (σ) nx (x0 :: some (.long v) :: t) (.long v :: st)) : AW l y cc nL ret F Lo mc ms she Post sh k n (σ) pc (x0 :: some (.long v) :: t) (st) := by
  obtain ⟨hd1, rfl⟩ := hd
  intro B D aC sa sv p e R s m args below meth c H locs lsA C hP hS hL
  exact lv_lload_n C.1 C.2.1 hd1 rfl (aw_at (i := 1) hL rfl) (kk B D aC sa sv p e R s m args below meth c H locs lsA C hP hS hL)
theorem a_ald1 {x0 : Option Value} {v : Nat} {t : List (Option Value)} (hd : aw_d 1 cc pc (.aload_n 1) nx) (kk : AW l y cc nL ret F Lo mc ms she Post sh k n (σ) nx (x0 :: some (.ref v) :: t) (.ref v :: st)) : AW l y cc nL ret F Lo mc ms she Post sh k n (σ) pc (x0 :: some (.ref v) :: t) (st) := by
  obtain ⟨hd1, rfl⟩ := hd
  intro B D aC sa sv p e R s m args below meth c H locs lsA C hP hS hL
  exact lv_aload_n C.1 C.2.1 hd1 rfl (aw_at (i := 1) hL rfl) (kk B D aC sa sv p e R s m args below meth c H locs lsA C hP hS hL)
theorem a_ist1 {x0 x1 : Option Value} {v : Int32} {t : List (Option Value)} (hd : aw_d 1 cc pc (.istore_n 1) nx) (hi : 1 < nL) (hp : aw_n2 x0) (kk : AW l y cc nL ret F Lo mc ms she Post sh k n (σ) nx (x0 :: some (.int v) :: t) (st)) : AW l y cc nL ret F Lo mc ms she Post sh k n (σ) pc (x0 :: x1 :: t) (.int v :: st) := by
  obtain ⟨hd1, rfl⟩ := hd
  intro B D aC sa sv p e R s m args below meth c H locs lsA C hP hS hL
  refine lv_istore_n C.1 C.2.1 hd1 rfl hL hi rfl (fun ls2 hL2 => ?_)
  exact kk B D aC sa sv p e R s m args below meth c H locs ls2 C hP hS (aw_set1 (i := 1) (v := .int v) (ls := x0 :: x1 :: t) (fun j u hj hu => by cases Nat.succ.inj hj; exact hp u (Option.some.inj hu)) hL2)
theorem a_ast1 {x0 x1 : Option Value} {v : Nat} {t : List (Option Value)} (hd : aw_d 1 cc pc (.astore_n 1) nx) (hi : 1 < nL) (hp : aw_n2 x0) (kk : AW l y cc nL ret F Lo mc ms she Post sh k n (σ) nx (x0 :: some (.ref v) :: t) (st)) : AW l y cc nL ret F Lo mc ms she Post sh k n (σ) pc (x0 :: x1 :: t) (.ref v :: st) := by
  obtain ⟨hd1, rfl⟩ := hd
  intro B D aC sa sv p e R s m args below meth c H locs lsA C hP hS hL
  refine lv_astore_n C.1 C.2.1 hd1 rfl hL hi rfl (fun ls2 hL2 => ?_)
  exact kk B D aC sa sv p e R s m args below meth c H locs ls2 C hP hS (aw_set1 (i := 1) (v := .ref v) (ls := x0 :: x1 :: t) (fun j u hj hu => by cases Nat.succ.inj hj; exact hp u (Option.some.inj hu)) hL2)
theorem a_iinc1 {x0 : Option Value} {v z : Int} {t : List (Option Value)} (hd : aw_d 3 cc pc (.iinc 1 z) nx) (hi : 1 < nL) (hp : aw_n2 x0) (kk : AW l y cc nL ret F Lo mc ms she Post sh k n (σ) nx (x0 :: some (.int (jI (v + z))) :: t) (st)) : AW l y cc nL ret F Lo mc ms she Post sh k n (σ) pc (x0 :: some (.int (jI v)) :: t) (st) := by
  obtain ⟨hd1, rfl⟩ := hd
  intro B D aC sa sv p e R s m args below meth c H locs lsA C hP hS hL
  obtain ⟨j, hj⟩ := List.mem_iff_getElem?.mp ((aw_lv_mem (aw_f B sa) (x0 :: some (.int (jI v)) :: t) 0 (1, .int (jI v))).mpr ⟨1, .int (jI v), rfl, rfl⟩)
  refine lv_iinc C.1 C.2.1 hd1 hL hj (jI_add v z) hi rfl (fun ls2 hL2 => ?_)
  exact kk B D aC sa sv p e R s m args below meth c H locs ls2 C hP hS (aw_set1 (i := 1) (v := .int (jI (v + z))) (ls := x0 :: some (.int (jI v)) :: t) (fun j u hj hu => by cases Nat.succ.inj hj; exact hp u (Option.some.inj hu)) hL2)
theorem a_lst1 {x0 x1 x2 : Option Value} {v : Int64} {t : List (Option Value)} (hd : aw_d 1 cc pc (.lstore_n 1) nx) (hi : 1 + 1 < nL) (hp : aw_n2 x0) (kk : AW l y cc nL ret F Lo mc ms she Post sh k n (σ) nx (x0 :: some (.long v) :: none :: t) (st)) : AW l y cc nL ret F Lo mc ms she Post sh k n (σ) pc (x0 :: x1 :: x2 :: t) (.long v :: st) := by
  obtain ⟨hd1, rfl⟩ := hd
  intro B D aC sa sv p e R s m args below meth c H locs lsA C hP hS hL
  refine lv_lstore_n C.1 C.2.1 hd1 rfl hL hi rfl (fun ls2 hL2 => ?_)
  exact kk B D aC sa sv p e R s m args below meth c H locs ls2 C hP hS (aw_set2 (i := 1) (v := .long v) (ls := x0 :: x1 :: x2 :: t) (fun j u hj hu => by cases Nat.succ.inj hj; exact hp u (Option.some.inj hu)) hL2)
theorem a_ild2 {x0 x1 : Option Value} {v : Int32} {t : List (Option Value)} (hd : aw_d 1 cc pc (.iload_n 2) nx) (kk : AW l y cc nL ret F Lo mc ms she Post sh k n (σ) nx (x0 :: x1 :: some (.int v) :: t) (.int v :: st)) : AW l y cc nL ret F Lo mc ms she Post sh k n (σ) pc (x0 :: x1 :: some (.int v) :: t) (st) := by
  obtain ⟨hd1, rfl⟩ := hd
  intro B D aC sa sv p e R s m args below meth c H locs lsA C hP hS hL
  exact lv_iload_n C.1 C.2.1 hd1 rfl (aw_at (i := 2) hL rfl) (kk B D aC sa sv p e R s m args below meth c H locs lsA C hP hS hL)
theorem a_lld2 {x0 x1 : Option Value} {v : Int64} {t : List (Option Value)} (hd : aw_d 1 cc pc (.lload_n 2) nx) (kk : AW l y cc nL ret F Lo mc ms she Post sh k n (σ) nx (x0 :: x1 :: some (.long v) :: t) (.long v :: st)) : AW l y cc nL ret F Lo mc ms she Post sh k n (σ) pc (x0 :: x1 :: some (.long v) :: t) (st) := by
  obtain ⟨hd1, rfl⟩ := hd
  intro B D aC sa sv p e R s m args below meth c H locs lsA C hP hS hL
  exact lv_lload_n C.1 C.2.1 hd1 rfl (aw_at (i := 2) hL rfl) (kk B D aC sa sv p e R s m args below meth c H locs lsA C hP hS hL)
theorem a_ald2 {x0 x1 : Option Value} {v : Nat} {t : List (Option Value)} (hd : aw_d 1 cc pc (.aload_n 2) nx) (kk : AW l y cc nL ret F Lo mc ms she Post sh k n (σ) nx (x0 :: x1 :: some (.ref v) :: t) (.ref v :: st)) : AW l y cc nL ret F Lo mc ms she Post sh k n (σ) pc (x0 :: x1 :: some (.ref v) :: t) (st) := by
  obtain ⟨hd1, rfl⟩ := hd
  intro B D aC sa sv p e R s m args below meth c H locs lsA C hP hS hL
  exact lv_aload_n C.1 C.2.1 hd1 rfl (aw_at (i := 2) hL rfl) (kk B D aC sa sv p e R s m args below meth c H locs lsA C hP hS hL)
theorem a_ist2 {x0 x1 x2 : Option Value} {v : Int32} {t : List (Option Value)} (hd : aw_d 1 cc pc (.istore_n 2) nx) (hi : 2 < nL) (hp : aw_n2 x1) (kk : AW l y cc nL ret F Lo mc ms she Post sh k n (σ) nx (x0 :: x1 :: some (.int v) :: t) (st)) : AW l y cc nL ret F Lo mc ms she Post sh k n (σ) pc (x0 :: x1 :: x2 :: t) (.int v :: st) := by
  obtain ⟨hd1, rfl⟩ := hd
  intro B D aC sa sv p e R s m args below meth c H locs lsA C hP hS hL
  refine lv_istore_n C.1 C.2.1 hd1 rfl hL hi rfl (fun ls2 hL2 => ?_)
  exact kk B D aC sa sv p e R s m args below meth c H locs ls2 C hP hS (aw_set1 (i := 2) (v := .int v) (ls := x0 :: x1 :: x2 :: t) (fun j u hj hu => by cases Nat.succ.inj hj; exact hp u (Option.some.inj hu)) hL2)
theorem a_ast2 {x0 x1 x2 : Option Value} {v : Nat} {t : List (Option Value)} (hd : aw_d 1 cc pc (.astore_n 2) nx) (hi : 2 < nL) (hp : aw_n2 x1) (kk : AW l y cc nL ret F Lo mc ms she Post sh k n (σ) nx (x0 :: x1 :: some (.ref v) :: t) (st)) : AW l y cc nL ret F Lo mc ms she Post sh k n (σ) pc (x0 :: x1 :: x2 :: t) (.ref v :: st) := by
  obtain ⟨hd1, rfl⟩ := hd
  intro B D aC sa sv p e R s m args below meth c H locs lsA C hP hS hL
  refine lv_astore_n C.1 C.2.1 hd1 rfl hL hi rfl (fun ls2 hL2 => ?_)
  exact kk B D aC sa sv p e R s m args below meth c H locs ls2 C hP hS (aw_set1 (i := 2) (v := .ref v) (ls := x0 :: x1 :: x2 :: t) (fun j u hj hu => by cases Nat.succ.inj hj; exact hp u (Option.some.inj hu)) hL2)
theorem a_iinc2 {x0 x1 : Option Value} {v z : Int} {t : List (Option Value)} (hd : aw_d 3 cc pc (.iinc 2 z) nx) (hi : 2 < nL) (hp : aw_n2 x1) (kk : AW l y cc nL ret F Lo mc ms she Post sh k n (σ) nx (x0 :: x1 :: some (.int (jI (v + z))) :: t) (st)) : AW l y cc nL ret F Lo mc ms she Post sh k n (σ) pc (x0 :: x1 :: some (.int (jI v)) :: t) (st) := by
  obtain ⟨hd1, rfl⟩ := hd
  intro B D aC sa sv p e R s m args below meth c H locs lsA C hP hS hL
  obtain ⟨j, hj⟩ := List.mem_iff_getElem?.mp ((aw_lv_mem (aw_f B sa) (x0 :: x1 :: some (.int (jI v)) :: t) 0 (2, .int (jI v))).mpr ⟨2, .int (jI v), rfl, rfl⟩)
  refine lv_iinc C.1 C.2.1 hd1 hL hj (jI_add v z) hi rfl (fun ls2 hL2 => ?_)
  exact kk B D aC sa sv p e R s m args below meth c H locs ls2 C hP hS (aw_set1 (i := 2) (v := .int (jI (v + z))) (ls := x0 :: x1 :: some (.int (jI v)) :: t) (fun j u hj hu => by cases Nat.succ.inj hj; exact hp u (Option.some.inj hu)) hL2)
theorem a_lst2 {x0 x1 x2 x3 : Option Value} {v : Int64} {t : List (Option Value)} (hd : aw_d 1 cc pc (.lstore_n 2) nx) (hi : 2 + 1 < nL) (hp : aw_n2 x1) (kk : AW l y cc nL ret F Lo mc ms she Post sh k n (σ) nx (x0 :: x1 :: some (.long v) :: none :: t) (st)) : AW l y cc nL ret F Lo mc ms she Post sh k n (σ) pc (x0 :: x1 :: x2 :: x3 :: t) (.long v :: st) := by
  obtain ⟨hd1, rfl⟩ := hd
  intro B D aC sa sv p e R s m args below meth c H locs lsA C hP hS hL
  refine lv_lstore_n C.1 C.2.1 hd1 rfl hL hi rfl (fun ls2 hL2 => ?_)
  exact kk B D aC sa sv p e R s m args below meth c H locs ls2 C hP hS (aw_set2 (i := 2) (v := .long v) (ls := x0 :: x1 :: x2 :: x3 :: t) (fun j u hj hu => by cases Nat.succ.inj hj; exact hp u (Option.some.inj hu)) hL2)
theorem a_ild3 {x0 x1 x2 : Option Value} {v : Int32} {t : List (Option Value)} (hd : aw_d 1 cc pc (.iload_n 3) nx) (kk : AW l y cc nL ret F Lo mc ms she Post sh k n (σ) nx (x0 :: x1 :: x2 :: some (.int v) :: t) (.int v :: st)) : AW l y cc nL ret F Lo mc ms she Post sh k n (σ) pc (x0 :: x1 :: x2 :: some (.int v) :: t) (st) := by
  obtain ⟨hd1, rfl⟩ := hd
  intro B D aC sa sv p e R s m args below meth c H locs lsA C hP hS hL
  exact lv_iload_n C.1 C.2.1 hd1 rfl (aw_at (i := 3) hL rfl) (kk B D aC sa sv p e R s m args below meth c H locs lsA C hP hS hL)
theorem a_lld3 {x0 x1 x2 : Option Value} {v : Int64} {t : List (Option Value)} (hd : aw_d 1 cc pc (.lload_n 3) nx) (kk : AW l y cc nL ret F Lo mc ms she Post sh k n (σ) nx (x0 :: x1 :: x2 :: some (.long v) :: t) (.long v :: st)) : AW l y cc nL ret F Lo mc ms she Post sh k n (σ) pc (x0 :: x1 :: x2 :: some (.long v) :: t) (st) := by
  obtain ⟨hd1, rfl⟩ := hd
  intro B D aC sa sv p e R s m args below meth c H locs lsA C hP hS hL
  exact lv_lload_n C.1 C.2.1 hd1 rfl (aw_at (i := 3) hL rfl) (kk B D aC sa sv p e R s m args below meth c H locs lsA C hP hS hL)
theorem a_ald3 {x0 x1 x2 : Option Value} {v : Nat} {t : List (Option Value)} (hd : aw_d 1 cc pc (.aload_n 3) nx) (kk : AW l y cc nL ret F Lo mc ms she Post sh k n (σ) nx (x0 :: x1 :: x2 :: some (.ref v) :: t) (.ref v :: st)) : AW l y cc nL ret F Lo mc ms she Post sh k n (σ) pc (x0 :: x1 :: x2 :: some (.ref v) :: t) (st) := by
  obtain ⟨hd1, rfl⟩ := hd
  intro B D aC sa sv p e R s m args below meth c H locs lsA C hP hS hL
  exact lv_aload_n C.1 C.2.1 hd1 rfl (aw_at (i := 3) hL rfl) (kk B D aC sa sv p e R s m args below meth c H locs lsA C hP hS hL)
theorem a_ist3 {x0 x1 x2 x3 : Option Value} {v : Int32} {t : List (Option Value)} (hd : aw_d 1 cc pc (.istore_n 3) nx) (hi : 3 < nL) (hp : aw_n2 x2) (kk : AW l y cc nL ret F Lo mc ms she Post sh k n (σ) nx (x0 :: x1 :: x2 :: some (.int v) :: t) (st)) : AW l y cc nL ret F Lo mc ms she Post sh k n (σ) pc (x0 :: x1 :: x2 :: x3 :: t) (.int v :: st) := by
  obtain ⟨hd1, rfl⟩ := hd
  intro B D aC sa sv p e R s m args below meth c H locs lsA C hP hS hL
  refine lv_istore_n C.1 C.2.1 hd1 rfl hL hi rfl (fun ls2 hL2 => ?_)
  exact kk B D aC sa sv p e R s m args below meth c H locs ls2 C hP hS (aw_set1 (i := 3) (v := .int v) (ls := x0 :: x1 :: x2 :: x3 :: t) (fun j u hj hu => by cases Nat.succ.inj hj; exact hp u (Option.some.inj hu)) hL2)
theorem a_ast3 {x0 x1 x2 x3 : Option Value} {v : Nat} {t : List (Option Value)} (hd : aw_d 1 cc pc (.astore_n 3) nx) (hi : 3 < nL) (hp : aw_n2 x2) (kk : AW l y cc nL ret F Lo mc ms she Post sh k n (σ) nx (x0 :: x1 :: x2 :: some (.ref v) :: t) (st)) : AW l y cc nL ret F Lo mc ms she Post sh k n (σ) pc (x0 :: x1 :: x2 :: x3 :: t) (.ref v :: st) := by
  obtain ⟨hd1, rfl⟩ := hd
  intro B D aC sa sv p e R s m args below meth c H locs lsA C hP hS hL
  refine lv_astore_n C.1 C.2.1 hd1 rfl hL hi rfl (fun ls2 hL2 => ?_)
  exact kk B D aC sa sv p e R s m args below meth c H locs ls2 C hP hS (aw_set1 (i := 3) (v := .ref v) (ls := x0 :: x1 :: x2 :: x3 :: t) (fun j u hj hu => by cases Nat.succ.inj hj; exact hp u (Option.some.inj hu)) hL2)
theorem a_iinc3 {x0 x1 x2 : Option Value} {v z : Int} {t : List (Option Value)} (hd : aw_d 3 cc pc (.iinc 3 z) nx) (hi : 3 < nL) (hp : aw_n2 x2) (kk : AW l y cc nL ret F Lo mc ms she Post sh k n (σ) nx (x0 :: x1 :: x2 :: some (.int (jI (v + z))) :: t) (st)) : AW l y cc nL ret F Lo mc ms she Post sh k n (σ) pc (x0 :: x1 :: x2 :: some (.int (jI v)) :: t) (st) := by
  obtain ⟨hd1, rfl⟩ := hd
  intro B D aC sa sv p e R s m args below meth c H locs lsA C hP hS hL
  obtain ⟨j, hj⟩ := List.mem_iff_getElem?.mp ((aw_lv_mem (aw_f B sa) (x0 :: x1 :: x2 :: some (.int (jI v)) :: t) 0 (3, .int (jI v))).mpr ⟨3, .int (jI v), rfl, rfl⟩)
  refine lv_iinc C.1 C.2.1 hd1 hL hj (jI_add v z) hi rfl (fun ls2 hL2 => ?_)
  exact kk B D aC sa sv p e R s m args below meth c H locs ls2 C hP hS (aw_set1 (i := 3) (v := .int (jI (v + z))) (ls := x0 :: x1 :: x2 :: some (.int (jI v)) :: t) (fun j u hj hu => by cases Nat.succ.inj hj; exact hp u (Option.some.inj hu)) hL2)
theorem a_lst3 {x0 x1 x2 x3 x4 : Option Value} {v : Int64} {t : List (Option Value)} (hd : aw_d 1 cc pc (.lstore_n 3) nx) (hi : 3 + 1 < nL) (hp : aw_n2 x2) (kk : AW l y cc nL ret F Lo mc ms she Post sh k n (σ) nx (x0 :: x1 :: x2 :: some (.long v) :: none :: t) (st)) : AW l y cc nL ret F Lo mc ms she Post sh k n (σ) pc (x0 :: x1 :: x2 :: x3 :: x4 :: t) (.long v :: st) := by
  obtain ⟨hd1, rfl⟩ := hd
  intro B D aC sa sv p e R s m args below meth c H locs lsA C hP hS hL
  refine lv_lstore_n C.1 C.2.1 hd1 rfl hL hi rfl (fun ls2 hL2 => ?_)
  exact kk B D aC sa sv p e R s m args below meth c H locs ls2 C hP hS (aw_set2 (i := 3) (v := .long v) (ls := x0 :: x1 :: x2 :: x3 :: x4 :: t) (fun j u hj hu => by cases Nat.succ.inj hj; exact hp u (Option.some.inj hu)) hL2)
theorem a_ild4 {x0 x1 x2 x3 : Option Value} {v : Int32} {t : List (Option Value)} (hd : aw_d 2 cc pc (.iload 4) nx) (kk : AW l y cc nL ret F Lo mc ms she Post sh k n (σ) nx (x0 :: x1 :: x2 :: x3 :: some (.int v) :: t) (.int v :: st)) : AW l y cc nL ret F Lo mc ms she Post sh k n (σ) pc (x0 :: x1 :: x2 :: x3 :: some (.int v) :: t) (st) := by
  obtain ⟨hd1, rfl⟩ := hd
  intro B D aC sa sv p e R s m args below meth c H locs lsA C hP hS hL
  exact lv_iload C.1 C.2.1 hd1 (aw_at (i := 4) hL rfl) (kk B D aC sa sv p e R s m args below meth c H locs lsA C hP hS hL)
theorem a_lld4 {x0 x1 x2 x3 : Option Value} {v : Int64} {t : List (Option Value)} (hd : aw_d 2 cc pc (.lload 4) nx) (kk : AW l y cc nL ret F Lo mc ms she Post sh k n (σ) nx (x0 :: x1 :: x2 :: x3 :: some (.long v) :: t) (.long v :: st)) : AW l y cc nL ret F Lo mc ms she Post sh k n (σ) pc (x0 :: x1 :: x2 :: x3 :: some (.long v) :: t) (st) := by
  obtain ⟨hd1, rfl⟩ := hd
  intro B D aC sa sv p e R s m args below meth c H locs lsA C hP hS hL
  exact lv_lload C.1 C.2.1 hd1 (aw_at (i := 4) hL rfl) (kk B D aC sa sv p e R s m args below meth c H locs lsA C hP hS hL)
theorem a_ald4 {x0 x1 x2 x3 : Option Value} {v : Nat} {t : List (Option Value)} (hd : aw_d 2 cc pc (.aload 4) nx) (kk : AW l y cc nL ret F Lo mc ms she Post sh k n (σ) nx (x0 :: x1 :: x2 :: x3 :: some (.ref v) :: t) (.ref v :: st)) : AW l y cc nL ret F Lo mc ms she Post sh k n (σ) pc (x0 :: x1 :: x2 :: x3 :: some (.ref v) :: t) (st) := by
  obtain ⟨hd1, rfl⟩ := hd
  intro B D aC sa sv p e R s m args below meth c H locs lsA C hP hS hL
  exact lv_aload C.1 C.2.1 hd1 (aw_at (i := 4) hL rfl) (kk B D aC sa sv p e R s m args below meth c H locs lsA C hP hS hL)
theorem a_ist4 {x0 x1 x2 x3 x4 : Option Value} {v : Int32} {t : List (Option Value)} (hd : aw_d 2 cc pc (.istore 4) nx) (hi : 4 < nL) (hp : aw_n2 x3) (kk : AW l y cc nL ret F Lo mc ms she Post sh k n (σ) nx (x0 :: x1 :: x2 :: x3 :: some (.int v) :: t) (st)) : AW l y cc nL ret F Lo mc ms she Post sh k n (σ) pc (x0 :: x1 :: x2 :: x3 :: x4 :: t) (.int v :: st) := by
  obtain ⟨hd1, rfl⟩ := hd
  intro B D aC sa sv p e R s m args below meth c H locs lsA C hP hS hL
  refine lv_istore C.1 C.2.1 hd1 hL hi rfl (fun ls2 hL2 => ?_)
  exact kk B D aC sa sv p e R s m args below meth c H locs ls2 C hP hS (aw_set1 (i := 4) (v := .int v) (ls := x0 :: x1 :: x2 :: x3 :: x4 :: t) (fun j u hj hu => by cases Nat.succ.inj hj; exact hp u (Option.some.inj hu)) hL2)
theorem a_ast4 {x0 x1 x2 x3 x4 : Option Value} {v : Nat} {t : List (Option Value)} (hd : aw_d 2 cc pc (.astore 4) nx) (hi : 4 < nL) (hp : aw_n2 x3) (kk : AW l y cc nL ret F Lo mc ms she Post sh k n (σ) nx (x0 :: x1 :: x2 :: x3 :: some (.ref v) :: t) (st)) : AW l y cc nL ret F Lo mc ms she Post sh k n (σ) pc (x0 :: x1 :: x2 :: x3 :: x4 :: t) (.ref v :: st) := by
  obtain ⟨hd1, rfl⟩ := hd
  intro B D aC sa sv p e R s m args below meth c H locs lsA C hP hS hL
  refine lv_astore C.1 C.2.1 hd1 hL hi rfl (fun ls2 hL2 => ?_)
  exact kk B D aC sa sv p e R s m args below meth c H locs ls2 C hP hS (aw_set1 (i := 4) (v := .ref v) (ls := x0 :: x1 :: x2 :: x3 :: x4 :: t) (fun j u hj hu => by cases Nat.succ.inj hj; exact hp u (Option.some.inj hu)) hL2)
theorem a_iinc4 {x0 x1 x2 x3 : Option Value} {v z : Int} {t : List (Option Value)} (hd : aw_d 3 cc pc (.iinc 4 z) nx) (hi : 4 < nL) (hp : aw_n2 x3) (kk : AW l y cc nL ret F Lo mc ms she Post sh k n (σ) nx (x0 :: x1 :: x2 :: x3 :: some (.int (jI (v + z))) :: t) (st)) : AW l y cc nL ret F Lo mc ms she Post sh k n (σ) pc (x0 :: x1 :: x2 :: x3 :: some (.int (jI v)) :: t) (st) := by
  obtain ⟨hd1, rfl⟩ := hd
  intro B D aC sa sv p e R s m args below meth c H locs lsA C hP hS hL
  obtain ⟨j, hj⟩ := List.mem_iff_getElem?.mp ((aw_lv_mem (aw_f B sa) (x0 :: x1 :: x2 :: x3 :: some (.int (jI v)) :: t) 0 (4, .int (jI v))).mpr ⟨4, .int (jI v), rfl, rfl⟩)
  refine lv_iinc C.1 C.2.1 hd1 hL hj (jI_add v z) hi rfl (fun ls2 hL2 => ?_)
  exact kk B D aC sa sv p e R s m args below meth c H locs ls2 C hP hS (aw_set1 (i := 4) (v := .int (jI (v + z))) (ls := x0 :: x1 :: x2 :: x3 :: some (.int (jI v)) :: t) (fun j u hj hu => by cases Nat.succ.inj hj; exact hp u (Option.some.inj hu)) hL2)
theorem a_lst4 {x0 x1 x2 x3 x4 x5 : Option Value} {v : Int64} {t : List (Option Value)} (hd : aw_d 2 cc pc (.lstore 4) nx) (hi : 4 + 1 < nL) (hp : aw_n2 x3) (kk : AW l y cc nL ret F Lo mc ms she Post sh k n (σ) nx (x0 :: x1 :: x2 :: x3 :: some (.long v) :: none :: t) (st)) : AW l y cc nL ret F Lo mc ms she Post sh k n (σ) pc (x0 :: x1 :: x2 :: x3 :: x4 :: x5 :: t) (.long v :: st) := by
  obtain ⟨hd1, rfl⟩ := hd
  intro B D aC sa sv p e R s m args below meth c H locs lsA C hP hS hL
  refine lv_lstore C.1 C.2.1 hd1 hL hi rfl (fun ls2 hL2 => ?_)
  exact kk B D aC sa sv p e R s m args below meth c H locs ls2 C hP hS (aw_set2 (i := 4) (v := .long v) (ls := x0 :: x1 :: x2 :: x3 :: x4 :: x5 :: t) (fun j u hj hu => by cases Nat.succ.inj hj; exact hp u (Option.some.inj hu)) hL2)
theorem a_ild5 {x0 x1 x2 x3 x4 : Option Value} {v : Int32} {t : List (Option Value)} (hd : aw_d 2 cc pc (.iload 5) nx) (kk : AW l y cc nL ret F Lo mc ms she Post sh k n (σ) nx (x0 :: x1 :: x2 :: x3 :: x4 :: some (.int v) :: t) (.int v :: st)) : AW l y cc nL ret F Lo mc ms she Post sh k n (σ) pc (x0 :: x1 :: x2 :: x3 :: x4 :: some (.int v) :: t) (st) := by
  obtain ⟨hd1, rfl⟩ := hd
  intro B D aC sa sv p e R s m args below meth c H locs lsA C hP hS hL
  exact lv_iload C.1 C.2.1 hd1 (aw_at (i := 5) hL rfl) (kk B D aC sa sv p e R s m args below meth c H locs lsA C hP hS hL)
theorem a_lld5 {x0 x1 x2 x3 x4 : Option Value} {v : Int64} {t : List (Option Value)} (hd : aw_d 2 cc pc (.lload 5) nx) (kk : AW l y cc nL ret F Lo mc ms she Post sh k n (σ) nx (x0 :: x1 :: x2 :: x3 :: x4 :: some (.long v) :: t) (.long v :: st)) : AW l y cc nL ret F Lo mc ms she Post sh k n (σ) pc (x0 :: x1 :: x2 :: x3 :: x4 :: some (.long v) :: t) (st) := by
  obtain ⟨hd1, rfl⟩ := hd
  intro B D aC sa sv p e R s m args below meth c H locs lsA C hP hS hL
  exact lv_lload C.1 C.2.1 hd1 (aw_at (i := 5) hL rfl) (kk B D aC sa sv p e R s m args below meth c H locs lsA C hP hS hL)
theorem a_ald5 {x0 x1 x2 x3 x4 : Option Value} {v : Nat} {t : List (Option Value)} (hd : aw_d 2 cc pc (.aload 5) nx) (kk : AW l y cc nL ret F Lo mc ms she Post sh k n (σ) nx (x0 :: x1 :: x2 :: x3 :: x4 :: some (.ref v) :: t) (.ref v :: st)) : AW l y cc nL ret F Lo mc ms she Post sh k n (σ) pc (x0 :: x1 :: x2 :: x3 :: x4 :: some (.ref v) :: t) (st) := by
  obtain ⟨hd1, rfl⟩ := hd
  intro B D aC sa sv p e R s m args below meth c H locs lsA C hP hS hL
  exact lv_aload C.1 C.2.1 hd1 (aw_at (i := 5) hL rfl) (kk B D aC sa sv p e R s m args below meth c H locs lsA C hP hS hL)
theorem a_ist5 {x0 x1 x2 x3 x4 x5 : Option Value} {v : Int32} {t : List (Option Value)} (hd : aw_d 2 cc pc (.istore 5) nx) (hi : 5 < nL) (hp : aw_n2 x4) (kk : AW l y cc nL ret F Lo mc ms she Post sh k n (σ) nx (x0 :: x1 :: x2 :: x3 :: x4 :: some (.int v) :: t) (st)) : AW l y cc nL ret F Lo mc ms she Post sh k n (σ) pc (x0 :: x1 :: x2 :: x3 :: x4 :: x5 :: t) (.int v :: st) := by
  obtain ⟨hd1, rfl⟩ := hd
  intro B D aC sa sv p e R s m args below meth c H locs lsA C hP hS hL
  refine lv_istore C.1 C.2.1 hd1 hL hi rfl (fun ls2 hL2 => ?_)
  exact kk B D aC sa sv p e R s m args below meth c H locs ls2 C hP hS (aw_set1 (i := 5) (v := .int v) (ls := x0 :: x1 :: x2 :: x3 :: x4 :: x5 :: t) (fun j u hj hu => by cases Nat.succ.inj hj; exact hp u (Option.some.inj hu)) hL2)
theorem a_ast5 {x0 x1 x2 x3 x4 x5 : Option Value} {v : Nat} {t : List (Option Value)} (hd : aw_d 2 cc pc (.astore 5) nx) (hi : 5 < nL) (hp : aw_n2 x4) (kk : AW l y cc nL ret F Lo mc ms she Post sh k n (σ) nx (x0 :: x1 :: x2 :: x3 :: x4 :: some (.ref v) :: t) (st)) : AW l y cc nL ret F Lo mc ms she Post sh k n (σ) pc (x0 :: x1 :: x2 :: x3 :: x4 :: x5 :: t) (.ref v :: st) := by
  obtain ⟨hd1, rfl⟩ := hd
  intro B D aC sa sv p e R s m args below meth c H locs lsA C hP hS hL
  refine lv_astore C.1 C.2.1 hd1 hL hi rfl (fun ls2 hL2 => ?_)
  exact kk B D aC sa sv p e R s m args below meth c H locs ls2 C hP hS (aw_set1 (i := 5) (v := .ref v) (ls := x0 :: x1 :: x2 :: x3 :: x4 :: x5 :: t) (fun j u hj hu => by cases Nat.succ.inj hj; exact hp u (Option.some.inj hu)) hL2)
theorem a_iinc5 {x0 x1 x2 x3 x4 : Option Value} {v z : Int} {t : List (Option Value)} (hd : aw_d 3 cc pc (.iinc 5 z) nx) (hi : 5 < nL) (hp : aw_n2 x4) (kk : AW l y cc nL ret F Lo mc ms she Post sh k n (σ) nx (x0 :: x1 :: x2 :: x3 :: x4 :: some (.int (jI (v + z))) :: t) (st)) : AW l y cc nL ret F Lo mc ms she Post sh k n (σ) pc (x0 :: x1 :: x2 :: x3 :: x4 :: some (.int (jI v)) :: t) (st) := by
  obtain ⟨hd1, rfl⟩ := hd
  intro B D aC sa sv p e R s m args below meth c H locs lsA C hP hS hL
  obtain ⟨j, hj⟩ := List.mem_iff_getElem?.mp ((aw_lv_mem (aw_f B sa) (x0 :: x1 :: x2 :: x3 :: x4 :: some (.int (jI v)) :: t) 0 (5, .int (jI v))).mpr ⟨5, .int (jI v), rfl, rfl⟩)
  refine lv_iinc C.1 C.2.1 hd1 hL hj (jI_add v z) hi rfl (fun ls2 hL2 => ?_)
  exact kk B D aC sa sv p e R s m args below meth c H locs ls2 C hP hS (aw_set1 (i := 5) (v := .int (jI (v + z))) (ls := x0 :: x1 :: x2 :: x3 :: x4 :: some (.int (jI v)) :: t) (fun j u hj hu => by cases Nat.succ.inj hj; exact hp u (Option.some.inj hu)) hL2)
theorem a_lst5 {x0 x1 x2 x3 x4 x5 x6 : Option Value} {v : Int64} {t : List (Option Value)} (hd : aw_d 2 cc pc (.lstore 5) nx) (hi : 5 + 1 < nL) (hp : aw_n2 x4) (kk : AW l y cc nL ret F Lo mc ms she Post sh k n (σ) nx (x0 :: x1 :: x2 :: x3 :: x4 :: some (.long v) :: none :: t) (st)) : AW l y cc nL ret F Lo mc ms she Post sh k n (σ) pc (x0 :: x1 :: x2 :: x3 :: x4 :: x5 :: x6 :: t) (.long v :: st) := by
  obtain ⟨hd1, rfl⟩ := hd
  intro B D aC sa sv p e R s m args below meth c H locs lsA C hP hS hL
  refine lv_lstore C.1 C.2.1 hd1 hL hi rfl (fun ls2 hL2 => ?_)
  exact kk B D aC sa sv p e R s m args below meth c H locs ls2 C hP hS (aw_set2 (i := 5) (v := .long v) (ls := x0 :: x1 :: x2 :: x3 :: x4 :: x5 :: x6 :: t) (fun j u hj hu => by cases Nat.succ.inj hj; exact hp u (Option.some.inj hu)) hL2)
theorem a_ild6 {x0 x1 x2 x3 x4 x5 : Option Value} {v : Int32} {t : List (Option Value)} (hd : aw_d 2 cc pc (.iload 6) nx) (kk : AW l y cc nL ret F Lo mc ms she Post sh k n (σ) nx (x0 :: x1 :: x2 :: x3 :: x4 :: x5 :: some (.int v) :: t) (.int v :: st)) : AW l y cc nL ret F Lo mc ms she Post sh k n (σ) pc (x0 :: x1 :: x2 :: x3 :: x4 :: x5 :: some (.int v) :: t) (st) := by
  obtain ⟨hd1, rfl⟩ := hd
  intro B D aC sa sv p e R s m args below meth c H locs lsA C hP hS hL
  exact lv_iload C.1 C.2.1 hd1 (aw_at (i := 6) hL rfl) (kk B D aC sa sv p e R s m args below meth c H locs lsA C hP hS hL)
theorem a_lld6 {x0 x1 x2 x3 x4 x5 : Option Value} {v : Int64} {t : List (Option Value)} (hd : aw_d 2 cc pc (.lload 6) nx) (kk : AW l y cc nL ret F Lo mc ms she Post sh k n (σ) nx (x0 :: x1 :: x2 :: x3 :: x4 :: x5 :: some (.long v) :: t) (.long v :: st)) : AW l y cc nL ret F Lo mc ms she Post sh k n (σ) pc (x0 :: x1 :: x2 :: x3 :: x4 :: x5 :: some (.long v) :: t) (st) := by
  obtain ⟨hd1, rfl⟩ := hd
  intro B D aC sa sv p e R s m args below meth c H locs lsA C hP hS hL
  exact lv_lload C.1 C.2.1 hd1 (aw_at (i := 6) hL rfl) (kk B D aC sa sv p e R s m args below meth c H locs lsA C hP hS hL)
theorem a_ald6 {x0 x1 x2 x3 x4 x5 : Option Value} {v : Nat} {t : List (Option Value)} (hd : aw_d 2 cc pc (.aload 6) nx) (kk : AW l y cc nL ret F Lo mc ms she Post sh k n (σ) nx (x0 :: x1 :: x2 :: x3 :: x4 :: x5 :: some (.ref v) :: t) (.ref v :: st)) : AW l y cc nL ret F Lo mc ms she Post sh k n (σ) pc (x0 :: x1 :: x2 :: x3 :: x4 :: x5 :: some (.ref v) :: t) (st) := by
  obtain ⟨hd1, rfl⟩ := hd
  intro B D aC sa sv p e R s m args below meth c H locs lsA C hP hS hL
  exact lv_aload C.1 C.2.1 hd1 (aw_at (i := 6) hL rfl) (kk B D aC sa sv p e R s m args below meth c H locs lsA C hP hS hL)
theorem a_ist6 {x0 x1 x2 x3 x4 x5 x6 : Option Value} {v : Int32} {t : List (Option Value)} (hd : aw_d 2 cc pc (.istore 6) nx) (hi : 6 < nL) (hp : aw_n2 x5) (kk : AW l y cc nL ret F Lo mc ms she Post sh k n (σ) nx (x0 :: x1 :: x2 :: x3 :: x4 :: x5 :: some (.int v) :: t) (st)) : AW l y cc nL ret F Lo mc ms she Post sh k n (σ) pc (x0 :: x1 :: x2 :: x3 :: x4 :: x5 :: x6 :: t) (.int v :: st) := by
  obtain ⟨hd1, rfl⟩ := hd
  intro B D aC sa sv p e R s m args below meth c H locs lsA C hP hS hL
  refine lv_istore C.1 C.2.1 hd1 hL hi rfl (fun ls2 hL2 => ?_)
  exact kk B D aC sa sv p e R s m args below meth c H locs ls2 C hP hS (aw_set1 (i := 6) (v := .int v) (ls := x0 :: x1 :: x2 :: x3 :: x4 :: x5 :: x6 :: t) (fun j u hj hu => by cases Nat.succ.inj hj; exact hp u (Option.some.inj hu)) hL2)
theorem a_ast6 {x0 x1 x2 x3 x4 x5 x6 : Option Value} {v : Nat} {t : List (Option Value)} (hd : aw_d 2 cc pc (.astore 6) nx) (hi : 6 < nL) (hp : aw_n2 x5) (kk : AW l y cc nL ret F Lo mc ms she Post sh k n (σ) nx (x0 :: x1 :: x2 :: x3 :: x4 :: x5 :: some (.ref v) :: t) (st)) : AW l y cc nL ret F Lo mc ms she Post sh k n (σ) pc (x0 :: x1 :: x2 :: x3 :: x4 :: x5 :: x6 :: t) (.ref v :: st) := by
  obtain ⟨hd1, rfl⟩ := hd
  intro B D aC sa sv p e R s m args below meth c H locs lsA C hP hS hL
  refine lv_astore C.1 C.2.1 hd1 hL hi rfl (fun ls2 hL2 => ?_)
  exact kk B D aC sa sv p e R s m args below meth c H locs ls2 C hP hS (aw_set1 (i := 6) (v := .ref v) (ls := x0 :: x1 :: x2 :: x3 :: x4 :: x5 :: x6 :: t) (fun j u hj hu => by cases Nat.succ.inj hj; exact hp u (Option.some.inj hu)) hL2)
theorem a_iinc6 {x0 x1 x2 x3 x4 x5 : Option Value} {v z : Int} {t : List (Option Value)} (hd : aw_d 3 cc pc (.iinc 6 z) nx) (hi : 6 < nL) (hp : aw_n2 x5) (kk : AW l y cc nL ret F Lo mc ms she Post sh k n (σ) nx (x0 :: x1 :: x2 :: x3 :: x4 :: x5 :: some (.int (jI (v + z))) :: t) (st)) : AW l y cc nL ret F Lo mc ms she Post sh k n (σ) pc (x0 :: x1 :: x2 :: x3 :: x4 :: x5 :: some (.int (jI v)) :: t) (st) := by
  obtain ⟨hd1, rfl⟩ := hd
  intro B D aC sa sv p e R s m args below meth c H locs lsA C hP hS hL
  obtain ⟨j, hj⟩ := List.mem_iff_getElem?.mp ((aw_lv_mem (aw_f B sa) (x0 :: x1 :: x2 :: x3 :: x4 :: x5 :: some (.int (jI v)) :: t) 0 (6, .int (jI v))).mpr ⟨6, .int (jI v), rfl, rfl⟩)
  refine lv_iinc C.1 C.2.1 hd1 hL hj (jI_add v z) hi rfl (fun ls2 hL2 => ?_)
  exact kk B D aC sa sv p e R s m args below meth c H locs ls2 C hP hS (aw_set1 (i := 6) (v := .int (jI (v + z))) (ls := x0 :: x1 :: x2 :: x3 :: x4 :: x5 :: some (.int (jI v)) :: t) (fun j u hj hu => by cases Nat.succ.inj hj; exact hp u (Option.some.inj hu)) hL2)
theorem a_lst6 {x0 x1 x2 x3 x4 x5 x6 x7 : Option Value} {v : Int64} {t : List (Option Value)} (hd : aw_d 2 cc pc (.lstore 6) nx) (hi : 6 + 1 < nL) (hp : aw_n2 x5) (kk : AW l y cc nL ret F Lo mc ms she Post sh k n (σ) nx (x0 :: x1 :: x2 :: x3 :: x4 :: x5 :: some (.long v) :: none :: t) (st)) : AW l y cc nL ret F Lo mc ms she Post sh k n (σ) pc (x0 :: x1 :: x2 :: x3 :: x4 :: x5 :: x6 :: x7 :: t) (.long v :: st) := by
  obtain ⟨hd1, rfl⟩ := hd
  intro B D aC sa sv p e R s m args below meth c H locs lsA C hP hS hL
  refine lv_lstore C.1 C.2.1 hd1 hL hi rfl (fun ls2 hL2 => ?_)
  exact kk B D aC sa sv p e R s m args below meth c H locs ls2 C hP hS (aw_set2 (i := 6) (v := .long v) (ls := x0 :: x1 :: x2 :: x3 :: x4 :: x5 :: x6 :: x7 :: t) (fun j u hj hu => by cases Nat.succ.inj hj; exact hp u (Option.some.inj hu)) hL2)
theorem a_ild7 {x0 x1 x2 x3 x4 x5 x6 : Option Value} {v : Int32} {t : List (Option Value)} (hd : aw_d 2 cc pc (.iload 7) nx) (kk : AW l y cc nL ret F Lo mc ms she Post sh k n (σ) nx (x0 :: x1 :: x2 :: x3 :: x4 :: x5 :: x6 :: some (.int v) :: t) (.int v :: st)) : AW l y cc nL ret F Lo mc ms she Post sh k n (σ) pc (x0 :: x1 :: x2 :: x3 :: x4 :: x5 :: x6 :: some (.int v) :: t) (st) := by
  obtain ⟨hd1, rfl⟩ := hd
  intro B D aC sa sv p e R s m args below meth c H locs lsA C hP hS hL
  exact lv_iload C.1 C.2.1 hd1 (aw_at (i := 7) hL rfl) (kk B D aC sa sv p e R s m args below meth c H locs lsA C hP hS hL)
theorem a_lld7 {x0 x1 x2 x3 x4 x5 x6 : Option Value} {v : Int64} {t : List (Option Value)} (hd : aw_d 2 cc pc (.lload 7) nx) (kk : AW l y cc nL ret F Lo mc ms she Post sh k n (σ) nx (x0 :: x1 :: x2 :: x3 :: x4 :: x5 :: x6 :: some (.long v) :: t) (.long v :: st)) : AW l y cc nL ret F Lo mc ms she Post sh k n (σ) pc (x0 :: x1 :: x2 :: x3 :: x4 :: x5 :: x6 :: some (.long v) :: t) (st) := by
  obtain ⟨hd1, rfl⟩ := hd
  intro B D aC sa sv p e R s m args below meth c H locs lsA C hP hS hL
  exact lv_lload C.1 C.2.1 hd1 (aw_at (i := 7) hL rfl) (kk B D aC sa sv p e R s m args below meth c H locs lsA C hP hS hL)
theorem a_ald7 {x0 x1 x2 x3 x4 x5 x6 : Option Value} {v : Nat} {t : List (Option Value)} (hd : aw_d 2 cc pc (.aload 7) nx) (kk : AW l y cc nL ret F Lo mc ms she Post sh k n (σ) nx (x0 :: x1 :: x2 :: x3 :: x4 :: x5 :: x6 :: some (.ref v) :: t) (.ref v :: st)) : AW l y cc nL ret F Lo mc ms she Post sh k n (σ) pc (x0 :: x1 :: x2 :: x3 :: x4 :: x5 :: x6 :: some (.ref v) :: t) (st) := by
  obtain ⟨hd1, rfl⟩ := hd
  intro B D aC sa sv p e R s m args below meth c H locs lsA C hP hS hL
  exact lv_aload C.1 C.2.1 hd1 (aw_at (i := 7) hL rfl) (kk B D aC sa sv p e R s m args below meth c H locs lsA C hP hS hL)
theorem a_ist7 {x0 x1 x2 x3 x4 x5 x6 x7 : Option Value} {v : Int32} {t : List (Option Value)} (hd : aw_d 2 cc pc (.istore 7) nx) (hi : 7 < nL) (hp : aw_n2 x6) (kk : AW l y cc nL ret F Lo mc ms she Post sh k n (σ) nx (x0 :: x1 :: x2 :: x3 :: x4 :: x5 :: x6 :: some (.int v) :: t) (st)) : AW l y cc nL ret F Lo mc ms she Post sh k n (σ) pc (x0 :: x1 :: x2 :: x3 :: x4 :: x5 :: x6 :: x7 :: t) (.int v :: st) := by
  obtain ⟨hd1, rfl⟩ := hd
  intro B D aC sa sv p e R s m args below meth c H locs lsA C hP hS hL
  refine lv_istore C.1 C.2.1 hd1 hL hi rfl (fun ls2 hL2 => ?_)
  exact kk B D aC sa sv p e R s m args below meth c H locs ls2 C hP hS (aw_set1 (i := 7) (v := .int v) (ls := x0 :: x1 :: x2 :: x3 :: x4 :: x5 :: x6 :: x7 :: t) (fun j u hj hu => by cases Nat.succ.inj hj; exact hp u (Option.some.inj hu)) hL2)
theorem a_ast7 {x0 x1 x2 x3 x4 x5 x6 x7 : Option Value} {v : Nat} {t : List (Option Value)} (hd : aw_d 2 cc pc (.astore 7) nx) (hi : 7 < nL) (hp : aw_n2 x6) (kk : AW l y cc nL ret F Lo mc ms she Post sh k n (σ) nx (x0 :: x1 :: x2 :: x3 :: x4 :: x5 :: x6 :: some (.ref v) :: t) (st)) : AW l y cc nL ret F Lo mc ms she Post sh k n (σ) pc (x0 :: x1 :: x2 :: x3 :: x4 :: x5 :: x6 :: x7 :: t) (.ref v :: st) := by
  obtain ⟨hd1, rfl⟩ := hd
  intro B D aC sa sv p e R s m args below meth c H locs lsA C hP hS hL
  refine lv_astore C.1 C.2.1 hd1 hL hi rfl (fun ls2 hL2 => ?_)
  exact kk B D aC sa sv p e R s m args below meth c H locs ls2 C hP hS (aw_set1 (i := 7) (v := .ref v) (ls := x0 :: x1 :: x2 :: x3 :: x4 :: x5 :: x6 :: x7 :: t) (fun j u hj hu => by cases Nat.succ.inj hj; exact hp u (Option.some.inj hu)) hL2)
theorem a_iinc7 {x0 x1 x2 x3 x4 x5 x6 : Option Value} {v z : Int} {t : List (Option Value)} (hd : aw_d 3 cc pc (.iinc 7 z) nx) (hi : 7 < nL) (hp : aw_n2 x6) (kk : AW l y cc nL ret F Lo mc ms she Post sh k n (σ) nx (x0 :: x1 :: x2 :: x3 :: x4 :: x5 :: x6 :: some (.int (jI (v + z))) :: t) (st)) : AW l y cc nL ret F Lo mc ms she Post sh k n (σ) pc (x0 :: x1 :: x2 :: x3 :: x4 :: x5 :: x6 :: some (.int (jI v)) :: t) (st) := by
  obtain ⟨hd1, rfl⟩ := hd
  intro B D aC sa sv p e R s m args below meth c H locs lsA C hP hS hL
  obtain ⟨j, hj⟩ := List.mem_iff_getElem?.mp ((aw_lv_mem (aw_f B sa) (x0 :: x1 :: x2 :: x3 :: x4 :: x5 :: x6 :: some (.int (jI v)) :: t) 0 (7, .int (jI v))).mpr ⟨7, .int (jI v), rfl, rfl⟩)
  refine lv_iinc C.1 C.2.1 hd1 hL hj (jI_add v z) hi rfl (fun ls2 hL2 => ?_)
  exact kk B D aC sa sv p e R s m args below meth c H locs ls2 C hP hS (aw_set1 (i := 7) (v := .int (jI (v + z))) (ls := x0 :: x1 :: x2 :: x3 :: x4 :: x5 :: x6 :: some (.int (jI v)) :: t) (fun j u hj hu => by cases Nat.succ.inj hj; exact hp u (Option.some.inj hu)) hL2)
theorem a_lst7 {x0 x1 x2 x3 x4 x5 x6 x7 x8 : Option Value} {v : Int64} {t : List (Option Value)} (hd : aw_d 2 cc pc (.lstore 7) nx) (hi : 7 + 1 < nL) (hp : aw_n2 x6) (kk : AW l y cc nL ret F Lo mc ms she Post sh k n (σ) nx (x0 :: x1 :: x2 :: x3 :: x4 :: x5 :: x6 :: some (.long v) :: none :: t) (st)) : AW l y cc nL ret F Lo mc ms she Post sh k n (σ) pc (x0 :: x1 :: x2 :: x3 :: x4 :: x5 :: x6 :: x7 :: x8 :: t) (.long v :: st) := by
  obtain ⟨hd1, rfl⟩ := hd
  intro B D aC sa sv p e R s m args below meth c H locs lsA C hP hS hL
  refine lv_lstore C.1 C.2.1 hd1 hL hi rfl (fun ls2 hL2 => ?_)
  exact kk B D aC sa sv p e R s m args below meth c H locs ls2 C hP hS (aw_set2 (i := 7) (v := .long v) (ls := x0 :: x1 :: x2 :: x3 :: x4 :: x5 :: x6 :: x7 :: x8 :: t) (fun j u hj hu => by cases Nat.succ.inj hj; exact hp u (Option.some.inj hu)) hL2)
theorem a_ild8 {x0 x1 x2 x3 x4 x5 x6 x7 : Option Value} {v : Int32} {t : List (Option Value)} (hd : aw_d 2 cc pc (.iload 8) nx) (kk : AW l y cc nL ret F Lo mc ms she Post sh k n (σ) nx (x0 :: x1 :: x2 :: x3 :: x4 :: x5 :: x6 :: x7 :: some (.int v) :: t) (.int v :: st)) : AW l y cc nL ret F Lo mc ms she Post sh k n (σ) pc (x0 :: x1 :: x2 :: x3 :: x4 :: x5 :: x6 :: x7 :: some (.int v) :: t) (st) := by
  obtain ⟨hd1, rfl⟩ := hd
  intro B D aC sa sv p e R s m args below meth c H locs lsA C hP hS hL
  exact lv_iload C.1 C.2.1 hd1 (aw_at (i := 8) hL rfl) (kk B D aC sa sv p e R s m args below meth c H locs lsA C hP hS hL)
theorem a_lld8 {x0 x1 x2 x3 x4 x5 x6 x7 : Option Value} {v : Int64} {t : List (Option Value)} (hd : aw_d 2 cc pc (.lload 8) nx) (kk : AW l y cc nL ret F Lo mc ms she Post sh k n (σ) nx (x0 :: x1 :: x2 :: x3 :: x4 :: x5 :: x6 :: x7 :: some (.long v) :: t) (.long v :: st)) : AW l y cc nL ret F Lo mc ms she Post sh k n (σ) pc (x0 :: x1 :: x2 :: x3 :: x4 :: x5 :: x6 :: x7 :: some (.long v) :: t) (st) := by
  obtain ⟨hd1, rfl⟩ := hd
  intro B D aC sa sv p e R s m args below meth c H locs lsA C hP hS hL
  exact lv_lload C.1 C.2.1 hd1 (aw_at (i := 8) hL rfl) (kk B D aC sa sv p e R s m args below meth c H locs lsA C hP hS hL)
theorem a_ald8 {x0 x1 x2 x3 x4 x5 x6 x7 : Option Value} {v : Nat} {t : List (Option Value)} (hd : aw_d 2 cc pc (.aload 8) nx) (kk : AW l y cc nL ret F Lo mc ms she Post sh k n (σ) nx (x0 :: x1 :: x2 :: x3 :: x4 :: x5 :: x6 :: x7 :: some (.ref v) :: t) (.ref v :: st)) : AW l y cc nL ret F Lo mc ms she Post sh k n (σ) pc (x0 :: x1 :: x2 :: x3 :: x4 :: x5 :: x6 :: x7 :: some (.ref v) :: t) (st) := by
  obtain ⟨hd1, rfl⟩ := hd
  intro B D aC sa sv p e R s m args below meth c H locs lsA C hP hS hL
  exact lv_aload C.1 C.2.1 hd1 (aw_at (i := 8) hL rfl) (kk B D aC sa sv p e R s m args below meth c H locs lsA C hP hS hL)
theorem a_ist8 {x0 x1 x2 x3 x4 x5 x6 x7 x8 : Option Value} {v : Int32} {t : List (Option Value)} (hd : aw_d 2 cc pc (.istore 8) nx) (hi : 8 < nL) (hp : aw_n2 x7) (kk : AW l y cc nL ret F Lo mc ms she Post sh k n (σ) nx (x0 :: x1 :: x2 :: x3 :: x4 :: x5 :: x6 :: x7 :: some (.int v) :: t) (st)) : AW l y cc nL ret F Lo mc ms she Post sh k n (σ) pc (x0 :: x1 :: x2 :: x3 :: x4 :: x5 :: x6 :: x7 :: x8 :: t) (.int v :: st) := by
  obtain ⟨hd1, rfl⟩ := hd
  intro B D aC sa sv p e R s m args below meth c H locs lsA C hP hS hL
  refine lv_istore C.1 C.2.1 hd1 hL hi rfl (fun ls2 hL2 => ?_)
  exact kk B D aC sa sv p e R s m args below meth c H locs ls2 C hP hS (aw_set1 (i := 8) (v := .int v) (ls := x0 :: x1 :: x2 :: x3 :: x4 :: x5 :: x6 :: x7 :: x8 :: t) (fun j u hj hu => by cases Nat.succ.inj hj; exact hp u (Option.some.inj hu)) hL2)
theorem a_ast8 {x0 x1 x2 x3 x4 x5 x6 x7 x8 : Option Value} {v : Nat} {t : List (Option Value)} (hd : aw_d 2 cc pc (.astore 8) nx) (hi : 8 < nL) (hp : aw_n2 x7) (kk : AW l y cc nL ret F Lo mc ms she Post sh k n (σ) nx (x0 :: x1 :: x2 :: x3 :: x4 :: x5 :: x6 :: x7 :: some (.ref v) :: t) (st)) : AW l y cc nL ret F Lo mc ms she Post sh k n (σ) pc (x0 :: x1 :: x2 :: x3 :: x4 :: x5 :: x6 :: x7 :: x8 :: t) (.ref v :: st) := by
  obtain ⟨hd1, rfl⟩ := hd
  intro B D aC sa sv p e R s m args below meth c H locs lsA C hP hS hL
  refine lv_astore C.1 C.2.1 hd1 hL hi rfl (fun ls2 hL2 => ?_)
  exact kk B D aC sa sv p e R s m args below meth c H locs ls2 C hP hS (aw_set1 (i := 8) (v := .ref v) (ls := x0 :: x1 :: x2 :: x3 :: x4 :: x5 :: x6 :: x7 :: x8 :: t) (fun j u hj hu => by cases Nat.succ.inj hj; exact hp u (Option.some.inj hu)) hL2)
theorem a_iinc8 {x0 x1 x2 x3 x4 x5 x6 x7 : Option Value} {v z : Int} {t : List (Option Value)} (hd : aw_d 3 cc pc (.iinc 8 z) nx) (hi : 8 < nL) (hp : aw_n2 x7) (kk : AW l y cc nL ret F Lo mc ms she Post sh k n (σ) nx (x0 :: x1 :: x2 :: x3 :: x4 :: x5 :: x6 :: x7 :: some (.int (jI (v + z))) :: t) (st)) : AW l y cc nL ret F Lo mc ms she Post sh k n (σ) pc (x0 :: x1 :: x2 :: x3 :: x4 :: x5 :: x6 :: x7 :: some (.int (jI v)) :: t) (st) := by
  obtain ⟨hd1, rfl⟩ := hd
  intro B D aC sa sv p e R s m args below meth c H locs lsA C hP hS hL
  obtain ⟨j, hj⟩ := List.mem_iff_getElem?.mp ((aw_lv_mem (aw_f B sa) (x0 :: x1 :: x2 :: x3 :: x4 :: x5 :: x6 :: x7 :: some (.int (jI v)) :: t) 0 (8, .int (jI v))).mpr ⟨8, .int (jI v), rfl, rfl⟩)
  refine lv_iinc C.1 C.2.1 hd1 hL hj (jI_add v z) hi rfl (fun ls2 hL2 => ?_)
  exact kk B D aC sa sv p e R s m args below meth c H locs ls2 C hP hS (aw_set1 (i := 8) (v := .int (jI (v + z))) (ls := x0 :: x1 :: x2 :: x3 :: x4 :: x5 :: x6 :: x7 :: some (.int (jI v)) :: t) (fun j u hj hu => by cases Nat.succ.inj hj; exact hp u (Option.some.inj hu)) hL2)
theorem a_lst8 {x0 x1 x2 x3 x4 x5 x6 x7 x8 x9 : Option Value} {v : Int64} {t : List (Option Value)} (hd : aw_d 2 cc pc (.lstore 8) nx) (hi : 8 + 1 < nL) (hp : aw_n2 x7) (kk : AW l y cc nL ret F Lo mc ms she Post sh k n (σ) nx (x0 :: x1 :: x2 :: x3 :: x4 :: x5 :: x6 :: x7 :: some (.long v) :: none :: t) (st)) : AW l y cc nL ret F Lo mc ms she Post sh k n (σ) pc (x0 :: x1 :: x2 :: x3 :: x4 :: x5 :: x6 :: x7 :: x8 :: x9 :: t) (.long v :: st) := by
  obtain ⟨hd1, rfl⟩ := hd
  intro B D aC sa sv p e R s m args below meth c H locs lsA C hP hS hL
  refine lv_lstore C.1 C.2.1 hd1 hL hi rfl (fun ls2 hL2 => ?_)
  exact kk B D aC sa sv p e R s m args below meth c H locs ls2 C hP hS (aw_set2 (i := 8) (v := .long v) (ls := x0 :: x1 :: x2 :: x3 :: x4 :: x5 :: x6 :: x7 :: x8 :: x9 :: t) (fun j u hj hu => by cases Nat.succ.inj hj; exact hp u (Option.some.inj hu)) hL2)
theorem a_ild9 {x0 x1 x2 x3 x4 x5 x6 x7 x8 : Option Value} {v : Int32} {t : List (Option Value)} (hd : aw_d 2 cc pc (.iload 9) nx) (kk : AW l y cc nL ret F Lo mc ms she Post sh k n (σ) nx (x0 :: x1 :: x2 :: x3 :: x4 :: x5 :: x6 :: x7 :: x8 :: some (.int v) :: t) (.int v :: st)) : AW l y cc nL ret F Lo mc ms she Post sh k n (σ) pc (x0 :: x1 :: x2 :: x3 :: x4 :: x5 :: x6 :: x7 :: x8 :: some (.int v) :: t) (st) := by
  obtain ⟨hd1, rfl⟩ := hd
  intro B D aC sa sv p e R s m args below meth c H locs lsA C hP hS hL
  exact lv_iload C.1 C.2.1 hd1 (aw_at (i := 9) hL rfl) (kk B D aC sa sv p e R s m args below meth c H locs lsA C hP hS hL)
theorem a_lld9 {x0 x1 x2 x3 x4 x5 x6 x7 x8 : Option Value} {v : Int64} {t : List (Option Value)} (hd : aw_d 2 cc pc (.lload 9) nx) (kk : AW l y cc nL ret F Lo mc ms she Post sh k n (σ) nx (x0 :: x1 :: x2 :: x3 :: x4 :: x5 :: x6 :: x7 :: x8 :: some (.long v) :: t) (.long v :: st)) : AW l y cc nL ret F Lo mc ms she Post sh k n (σ) pc (x0 :: x1 :: x2 :: x3 :: x4 :: x5 :: x6 :: x7 :: x8 :: some (.long v) :: t) (st) := by
  obtain ⟨hd1, rfl⟩ := hd
  intro B D aC sa sv p e R s m args below meth c H locs lsA C hP hS hL
  exact lv_lload C.1 C.2.1 hd1 (aw_at (i := 9) hL rfl) (kk B D aC sa sv p e R s m args below meth c H locs lsA C hP hS hL)
theorem a_ald9 {x0 x1 x2 x3 x4 x5 x6 x7 x8 : Option Value} {v : Nat} {t : List (Option Value)} (hd : aw_d 2 cc pc (.aload 9) nx) (kk : AW l y cc nL ret F Lo mc ms she Post sh k n (σ) nx (x0 :: x1 :: x2 :: x3 :: x4 :: x5 :: x6 :: x7 :: x8 :: some (.ref v) :: t) (.ref v :: st)) : AW l y cc nL ret F Lo mc ms she Post sh k n (σ) pc (x0 :: x1 :: x2 :: x3 :: x4 :: x5 :: x6 :: x7 :: x8 :: some (.ref v) :: t) (st) := by
  obtain ⟨hd1, rfl⟩ := hd
  intro B D aC sa sv p e R s m args below meth c H locs lsA C hP hS hL
  exact lv_aload C.1 C.2.1 hd1 (aw_at (i := 9) hL rfl) (kk B D aC sa sv p e R s m args below meth c H locs lsA C hP hS hL)
theorem a_ist9 {x0 x1 x2 x3 x4 x5 x6 x7 x8 x9 : Option Value} {v : Int32} {t : List (Option Value)} (hd : aw_d 2 cc pc (.istore 9) nx) (hi : 9 < nL) (hp : aw_n2 x8) (kk : AW l y cc nL ret F Lo mc ms she Post sh k n (σ) nx (x0 :: x1 :: x2 :: x3 :: x4 :: x5 :: x6 :: x7 :: x8 :: some (.int v) :: t) (st)) : AW l y cc nL ret F Lo mc ms she Post sh k n (σ) pc (x0 :: x1 :: x2 :: x3 :: x4 :: x5 :: x6 :: x7 :: x8 :: x9 :: t) (.int v :: st) := by
  obtain ⟨hd1, rfl⟩ := hd
  intro B D aC sa sv p e R s m args below meth c H locs lsA C hP hS hL
  refine lv_istore C.1 C.2.1 hd1 hL hi rfl (fun ls2 hL2 => ?_)
  exact kk B D aC sa sv p e R s m args below meth c H locs ls2 C hP hS (aw_set1 (i := 9) (v := .int v) (ls := x0 :: x1 :: x2 :: x3 :: x4 :: x5 :: x6 :: x7 :: x8 :: x9 :: t) (fun j u hj hu => by cases Nat.succ.inj hj; exact hp u (Option.some.inj hu)) hL2)
theorem a_ast9 {x0 x1 x2 x3 x4 x5 x6 x7 x8 x9 : Option Value} {v : Nat} {t : List (Option Value)} (hd : aw_d 2 cc pc (.astore 9) nx) (hi : 9 < nL) (hp : aw_n2 x8) (kk : AW l y cc nL ret F Lo mc ms she Post sh k n (σ) nx (x0 :: x1 :: x2 :: x3 :: x4 :: x5 :: x6 :: x7 :: x8 :: some (.ref v) :: t) (st)) : AW l y cc nL ret F Lo mc ms she Post sh k n (σ) pc (x0 :: x1 :: x2 :: x3 :: x4 :: x5 :: x6 :: x7 :: x8 :: x9 :: t) (.ref v :: st) := by
  obtain ⟨hd1, rfl⟩ := hd
  intro B D aC sa sv p e R s m args below meth c H locs lsA C hP hS hL
  refine lv_astore C.1 C.2.1 hd1 hL hi rfl (fun ls2 hL2 => ?_)
  exact kk B D aC sa sv p e R s m args below meth c H locs ls2 C hP hS (aw_set1 (i := 9) (v := .ref v) (ls := x0 :: x1 :: x2 :: x3 :: x4 :: x5 :: x6 :: x7 :: x8 :: x9 :: t) (fun j u hj hu => by cases Nat.succ.inj hj; exact hp u (Option.some.inj hu)) hL2)
theorem a_iinc9 {x0 x1 x2 x3 x4 x5 x6 x7 x8 : Option Value} {v z : Int} {t : List (Option Value)} (hd : aw_d 3 cc pc (.iinc 9 z) nx) (hi : 9 < nL) (hp : aw_n2 x8) (kk : AW l y cc nL ret F Lo mc ms she Post sh k n (σ) nx (x0 :: x1 :: x2 :: x3 :: x4 :: x5 :: x6 :: x7 :: x8 :: some (.int (jI (v + z))) :: t) (st)) : AW l y cc nL ret F Lo mc ms she Post sh k n (σ) pc (x0 :: x1 :: x2 :: x3 :: x4 :: x5 :: x6 :: x7 :: x8 :: some (.int (jI v)) :: t) (st) := by
  obtain ⟨hd1, rfl⟩ := hd
  intro B D aC sa sv p e R s m args below meth c H locs lsA C hP hS hL
  obtain ⟨j, hj⟩ := List.mem_iff_getElem?.mp ((aw_lv_mem (aw_f B sa) (x0 :: x1 :: x2 :: x3 :: x4 :: x5 :: x6 :: x7 :: x8 :: some (.int (jI v)) :: t) 0 (9, .int (jI v))).mpr ⟨9, .int (jI v), rfl, rfl⟩)
  refine lv_iinc C.1 C.2.1 hd1 hL hj (jI_add v z) hi rfl (fun ls2 hL2 => ?_)
  exact kk B D aC sa sv p e R s m args below meth c H locs ls2 C hP hS (aw_set1 (i := 9) (v := .int (jI (v + z))) (ls := x0 :: x1 :: x2 :: x3 :: x4 :: x5 :: x6 :: x7 :: x8 :: some (.int (jI v)) :: t) (fun j u hj hu => by cases Nat.succ.inj hj; exact hp u (Option.some.inj hu)) hL2)
theorem a_lst9 {x0 x1 x2 x3 x4 x5 x6 x7 x8 x9 x10 : Option Value} {v : Int64} {t : List (Option Value)} (hd : aw_d 2 cc pc (.lstore 9) nx) (hi : 9 + 1 < nL) (hp : aw_n2 x8) (kk : AW l y cc nL ret F Lo mc ms she Post sh k n (σ) nx (x0 :: x1 :: x2 :: x3 :: x4 :: x5 :: x6 :: x7 :: x8 :: some (.long v) :: none :: t) (st)) : AW l y cc nL ret F Lo mc ms she Post sh k n (σ) pc (x0 :: x1 :: x2 :: x3 :: x4 :: x5 :: x6 :: x7 :: x8 :: x9 :: x10 :: t) (.long v :: st) := by
  obtain ⟨hd1, rfl⟩ := hd
  intro B D aC sa sv p e R s m args below meth c H locs lsA C hP hS hL
  refine lv_lstore C.1 C.2.1 hd1 hL hi rfl (fun ls2 hL2 => ?_)
  exact kk B D aC sa sv p e R s m args below meth c H locs ls2 C hP hS (aw_set2 (i := 9) (v := .long v) (ls := x0 :: x1 :: x2 :: x3 :: x4 :: x5 :: x6 :: x7 :: x8 :: x9 :: x10 :: t) (fun j u hj hu => by cases Nat.succ.inj hj; exact hp u (Option.some.inj hu)) hL2)
theorem a_ild10 {x0 x1 x2 x3 x4 x5 x6 x7 x8 x9 : Option Value} {v : Int32} {t : List (Option Value)} (hd : aw_d 2 cc pc (.iload 10) nx) (kk : AW l y cc nL ret F Lo mc ms she Post sh k n (σ) nx (x0 :: x1 :: x2 :: x3 :: x4 :: x5 :: x6 :: x7 :: x8 :: x9 :: some (.int v) :: t) (.int v :: st)) : AW l y cc nL ret F Lo mc ms she Post sh k n (σ) pc (x0 :: x1 :: x2 :: x3 :: x4 :: x5 :: x6 :: x7 :: x8 :: x9 :: some (.int v) :: t) (st) := by
  obtain ⟨hd1, rfl⟩ := hd
  intro B D aC sa sv p e R s m args below meth c H locs lsA C hP hS hL
  exact lv_iload C.1 C.2.1 hd1 (aw_at (i := 10) hL rfl) (kk B D aC sa sv p e R s m args below meth c H locs lsA C hP hS hL)
theorem a_lld10 {x0 x1 x2 x3 x4 x5 x6 x7 x8 x9 : Option Value} {v : Int64} {t : List (Option Value)} (hd : aw_d 2 cc pc (.lload 10) nx) (kk : AW l y cc nL ret F Lo mc ms she Post sh k n (σ) nx (x0 :: x1 :: x2 :: x3 :: x4 :: x5 :: x6 :: x7 :: x8 :: x9 :: some (.long v) :: t) (.long v :: st)) : AW l y cc nL ret F Lo mc ms she Post sh k n (σ) pc (x0 :: x1 :: x2 :: x3 :: x4 :: x5 :: x6 :: x7 :: x8 :: x9 :: some (.long v) :: t) (st) := by
  obtain ⟨hd1, rfl⟩ := hd
  intro B D aC sa sv p e R s m args below meth c H locs lsA C hP hS hL
  exact lv_lload C.1 C.2.1 hd1 (aw_at (i := 10) hL rfl) (kk B D aC sa sv p e R s m args below meth c H locs lsA C hP hS hL)
theorem a_ald10 {x0 x1 x2 x3 x4 x5 x6 x7 x8 x9 : Option Value} {v : Nat} {t : List (Option Value)} (hd : aw_d 2 cc pc (.aload 10) nx) (kk : AW l y cc nL ret F Lo mc ms she Post sh k n (σ) nx (x0 :: x1 :: x2 :: x3 :: x4 :: x5 :: x6 :: x7 :: x8 :: x9 :: some (.ref v) :: t) (.ref v :: st)) : AW l y cc nL ret F Lo mc ms she Post sh k n (σ) pc (x0 :: x1 :: x2 :: x3 :: x4 :: x5 :: x6 :: x7 :: x8 :: x9 :: some (.ref v) :: t) (st) := by
  obtain ⟨hd1, rfl⟩ := hd
  intro B D aC sa sv p e R s m args below meth c H locs lsA C hP hS hL
  exact lv_aload C.1 C.2.1 hd1 (aw_at (i := 10) hL rfl) (kk B D aC sa sv p e R s m args below meth c H locs lsA C hP hS hL)
theorem a_ist10 {x0 x1 x2 x3 x4 x5 x6 x7 x8 x9 x10 : Option Value} {v : Int32} {t : List (Option Value)} (hd : aw_d 2 cc pc (.istore 10) nx) (hi : 10 < nL) (hp : aw_n2 x9) (kk : AW l y cc nL ret F Lo mc ms she Post sh k n (σ) nx (x0 :: x1 :: x2 :: x3 :: x4 :: x5 :: x6 :: x7 :: x8 :: x9 :: some (.int v) :: t) (st)) : AW l y cc nL ret F Lo mc ms she Post sh k n (σ) pc (x0 :: x1 :: x2 :: x3 :: x4 :: x5 :: x6 :: x7 :: x8 :: x9 :: x10 :: t) (.int v :: st) := by
  obtain ⟨hd1, rfl⟩ := hd
  intro B D aC sa sv p e R s m args below meth c H locs lsA C hP hS hL
  refine lv_istore C.1 C.2.1 hd1 hL hi rfl (fun ls2 hL2 => ?_)
  exact kk B D aC sa sv p e R s m args below meth c H locs ls2 C hP hS (aw_set1 (i := 10) (v := .int v) (ls := x0 :: x1 :: x2 :: x3 :: x4 :: x5 :: x6 :: x7 :: x8 :: x9 :: x10 :: t) (fun j u hj hu => by cases Nat.succ.inj hj; exact hp u (Option.some.inj hu)) hL2)
theorem a_ast10 {x0 x1 x2 x3 x4 x5 x6 x7 x8 x9 x10 : Option Value} {v : Nat} {t : List (Option Value)} (hd : aw_d 2 cc pc (.astore 10) nx) (hi : 10 < nL) (hp : aw_n2 x9) (kk : AW l y cc nL ret F Lo mc ms she Post sh k n (σ) nx (x0 :: x1 :: x2 :: x3 :: x4 :: x5 :: x6 :: x7 :: x8 :: x9 :: some (.ref v) :: t) (st)) : AW l y cc nL ret F Lo mc ms she Post sh k n (σ) pc (x0 :: x1 :: x2 :: x3 :: x4 :: x5 :: x6 :: x7 :: x8 :: x9 :: x10 :: t) (.ref v :: st) := by
  obtain ⟨hd1, rfl⟩ := hd
  intro B D aC sa sv p e R s m args below meth c H locs lsA C hP hS hL
  refine lv_astore C.1 C.2.1 hd1 hL hi rfl (fun ls2 hL2 => ?_)
  exact kk B D aC sa sv p e R s m args below meth c H locs ls2 C hP hS (aw_set1 (i := 10) (v := .ref v) (ls := x0 :: x1 :: x2 :: x3 :: x4 :: x5 :: x6 :: x7 :: x8 :: x9 :: x10 :: t) (fun j u hj hu => by cases Nat.succ.inj hj; exact hp u (Option.some.inj hu)) hL2)
theorem a_iinc10 {x0 x1 x2 x3 x4 x5 x6 x7 x8 x9 : Option Value} {v z : Int} {t : List (Option Value)} (hd : aw_d 3 cc pc (.iinc 10 z) nx) (hi : 10 < nL) (hp : aw_n2 x9) (kk : AW l y cc nL ret F Lo mc ms she Post sh k n (σ) nx (x0 :: x1 :: x2 :: x3 :: x4 :: x5 :: x6 :: x7 :: x8 :: x9 :: some (.int (jI (v + z))) :: t) (st)) : AW l y cc nL ret F Lo mc ms she Post sh k n (σ) pc (x0 :: x1 :: x2 :: x3 :: x4 :: x5 :: x6 :: x7 :: x8 :: x9 :: some (.int (jI v)) :: t) (st) := by
  obtain ⟨hd1, rfl⟩ := hd
  intro B D aC sa sv p e R s m args below meth c H locs lsA C hP hS hL
  obtain ⟨j, hj⟩ := List.mem_iff_getElem?.mp ((aw_lv_mem (aw_f B sa) (x0 :: x1 :: x2 :: x3 :: x4 :: x5 :: x6 :: x7 :: x8 :: x9 :: some (.int (jI v)) :: t) 0 (10, .int (jI v))).mpr ⟨10, .int (jI v), rfl, rfl⟩)
  refine lv_iinc C.1 C.2.1 hd1 hL hj (jI_add v z) hi rfl (fun ls2 hL2 => ?_)
  exact kk B D aC sa sv p e R s m args below meth c H locs ls2 C hP hS (aw_set1 (i := 10) (v := .int (jI (v + z))) (ls := x0 :: x1 :: x2 :: x3 :: x4 :: x5 :: x6 :: x7 :: x8 :: x9 :: some (.int (jI v)) :: t) (fun j u hj hu => by cases Nat.succ.inj hj; exact hp u (Option.some.inj hu)) hL2)
theorem a_lst10 {x0 x1 x2 x3 x4 x5 x6 x7 x8 x9 x10 x11 : Option Value} {v : Int64} {t : List (Option Value)} (hd : aw_d 2 cc pc (.lstore 10) nx) (hi : 10 + 1 < nL) (hp : aw_n2 x9) (kk : AW l y cc nL ret F Lo mc ms she Post sh k n (σ) nx (x0 :: x1 :: x2 :: x3 :: x4 :: x5 :: x6 :: x7 :: x8 :: x9 :: some (.long v) :: none :: t) (st)) : AW l y cc nL ret F Lo mc ms she Post sh k n (σ) pc (x0 :: x1 :: x2 :: x3 :: x4 :: x5 :: x6 :: x7 :: x8 :: x9 :: x10 :: x11 :: t) (.long v :: st) := by
  obtain ⟨hd1, rfl⟩ := hd
  intro B D aC sa sv p e R s m args below meth c H locs lsA C hP hS hL
  refine lv_lstore C.1 C.2.1 hd1 hL hi rfl (fun ls2 hL2 => ?_)
  exact kk B D aC sa sv p e R s m args below meth c H locs ls2 C hP hS (aw_set2 (i := 10) (v := .long v) (ls := x0 :: x1 :: x2 :: x3 :: x4 :: x5 :: x6 :: x7 :: x8 :: x9 :: x10 :: x11 :: t) (fun j u hj hu => by cases Nat.succ.inj hj; exact hp u (Option.some.inj hu)) hL2)
theorem a_ild11 {x0 x1 x2 x3 x4 x5 x6 x7 x8 x9 x10 : Option Value} {v : Int32} {t : List (Option Value)} (hd : aw_d 2 cc pc (.iload 11) nx) (kk : AW l y cc nL ret F Lo mc ms she Post sh k n (σ) nx (x0 :: x1 :: x2 :: x3 :: x4 :: x5 :: x6 :: x7 :: x8 :: x9 :: x10 :: some (.int v) :: t) (.int v :: st)) : AW l y cc nL ret F Lo mc ms she Post sh k n (σ) pc (x0 :: x1 :: x2 :: x3 :: x4 :: x5 :: x6 :: x7 :: x8 :: x9 :: x10 :: some (.int v) :: t) (st) := by
  obtain ⟨hd1, rfl⟩ := hd
  intro B D aC sa sv p e R s m args below meth c H locs lsA C hP hS hL
  exact lv_iload C.1 C.2.1 hd1 (aw_at (i := 11) hL rfl) (kk B D aC sa sv p e R s m args below meth c H locs lsA C hP hS hL)
theorem a_lld11 {x0 x1 x2 x3 x4 x5 x6 x7 x8 x9 x10 : Option Value} {v : Int64} {t : List (Option Value)} (hd : aw_d 2 cc pc (.lload 11) nx) (kk : AW l y cc nL ret F Lo mc ms she Post sh k n (σ) nx (x0 :: x1 :: x2 :: x3 :: x4 :: x5 :: x6 :: x7 :: x8 :: x9 :: x10 :: some (.long v) :: t) (.long v :: st)) : AW l y cc nL ret F Lo mc ms she Post sh k n (σ) pc (x0 :: x1 :: x2 :: x3 :: x4 :: x5 :: x6 :: x7 :: x8 :: x9 :: x10 :: some (.long v) :: t) (st) := by
  obtain ⟨hd1, rfl⟩ := hd
  intro B D aC sa sv p e R s m args below meth c H locs lsA C hP hS hL
  exact lv_lload C.1 C.2.1 hd1 (aw_at (i := 11) hL rfl) (kk B D aC sa sv p e R s m args below meth c H locs lsA C hP hS hL)
theorem a_ald11 {x0 x1 x2 x3 x4 x5 x6 x7 x8 x9 x10 : Option Value} {v : Nat} {t : List (Option Value)} (hd : aw_d 2 cc pc (.aload 11) nx) (kk : AW l y cc nL ret F Lo mc ms she Post sh k n (σ) nx (x0 :: x1 :: x2 :: x3 :: x4 :: x5 :: x6 :: x7 :: x8 :: x9 :: x10 :: some (.ref v) :: t) (.ref v :: st)) : AW l y cc nL ret F Lo mc ms she Post sh k n (σ) pc (x0 :: x1 :: x2 :: x3 :: x4 :: x5 :: x6 :: x7 :: x8 :: x9 :: x10 :: some (.ref v) :: t) (st) := by
  obtain ⟨hd1, rfl⟩ := hd
  intro B D aC sa sv p e R s m args below meth c H locs lsA C hP hS hL
  exact lv_aload C.1 C.2.1 hd1 (aw_at (i := 11) hL rfl) (kk B D aC sa sv p e R s m args below meth c H locs lsA C hP hS hL)
theorem a_ist11 {x0 x1 x2 x3 x4 x5 x6 x7 x8 x9 x10 x11 : Option Value} {v : Int32} {t : List (Option Value)} (hd : aw_d 2 cc pc (.istore 11) nx) (hi : 11 < nL) (hp : aw_n2 x10) (kk : AW l y cc nL ret F Lo mc ms she Post sh k n (σ) nx (x0 :: x1 :: x2 :: x3 :: x4 :: x5 :: x6 :: x7 :: x8 :: x9 :: x10 :: some (.int v) :: t) (st)) : AW l y cc nL ret F Lo mc ms she Post sh k n (σ) pc (x0 :: x1 :: x2 :: x3 :: x4 :: x5 :: x6 :: x7 :: x8 :: x9 :: x10 :: x11 :: t) (.int v :: st) := by
  obtain ⟨hd1, rfl⟩ := hd
  intro B D aC sa sv p e R s m args below meth c H locs lsA C hP hS hL
  refine lv_istore C.1 C.2.1 hd1 hL hi rfl (fun ls2 hL2 => ?_)
  exact kk B D aC sa sv p e R s m args below meth c H locs ls2 C hP hS (aw_set1 (i := 11) (v := .int v) (ls := x0 :: x1 :: x2 :: x3 :: x4 :: x5 :: x6 :: x7 :: x8 :: x9 :: x10 :: x11 :: t) (fun j u hj hu => by cases Nat.succ.inj hj; exact hp u (Option.some.inj hu)) hL2)
theorem a_ast11 {x0 x1 x2 x3 x4 x5 x6 x7 x8 x9 x10 x11 : Option Value} {v : Nat} {t : List (Option Value)} (hd : aw_d 2 cc pc (.astore 11) nx) (hi : 11 < nL) (hp : aw_n2 x10) (kk : AW l y cc nL ret F Lo mc ms she Post sh k n (σ) nx (x0 :: x1 :: x2 :: x3 :: x4 :: x5 :: x6 :: x7 :: x8 :: x9 :: x10 :: some (.ref v) :: t) (st)) : AW l y cc nL ret F Lo mc ms she Post sh k n (σ) pc (x0 :: x1 :: x2 :: x3 :: x4 :: x5 :: x6 :: x7 :: x8 :: x9 :: x10 :: x11 :: t) (.ref v :: st) := by
  obtain ⟨hd1, rfl⟩ := hd
  intro B D aC sa sv p e R s m args below meth c H locs lsA C hP hS hL
  refine lv_astore C.1 C.2.1 hd1 hL hi rfl (fun ls2 hL2 => ?_)
  exact kk B D aC sa sv p e R s m args below meth c H locs ls2 C hP hS (aw_set1 (i := 11) (v := .ref v) (ls := x0 :: x1 :: x2 :: x3 :: x4 :: x5 :: x6 :: x7 :: x8 :: x9 :: x10 :: x11 :: t) (fun j u hj hu => by cases Nat.succ.inj hj; exact hp u (Option.some.inj hu)) hL2)
theorem a_iinc11 {x0 x1 x2 x3 x4 x5 x6 x7 x8 x9 x10 : Option Value} {v z : Int} {t : List (Option Value)} (hd : aw_d 3 cc pc (.iinc 11 z) nx) (hi : 11 < nL) (hp : aw_n2 x10) (kk : AW l y cc nL ret F Lo mc ms she Post sh k n (σ) nx (x0 :: x1 :: x2 :: x3 :: x4 :: x5 :: x6 :: x7 :: x8 :: x9 :: x10 :: some (.int (jI (v + z))) :: t) (st)) : AW l y cc nL ret F Lo mc ms she Post sh k n (σ) pc (x0 :: x1 :: x2 :: x3 :: x4 :: x5 :: x6 :: x7 :: x8 :: x9 :: x10 :: some (.int (jI v)) :: t) (st) := by
  obtain ⟨hd1, rfl⟩ := hd
  intro B D aC sa sv p e R s m args below meth c H locs lsA C hP hS hL
  obtain ⟨j, hj⟩ := List.mem_iff_getElem?.mp ((aw_lv_mem (aw_f B sa) (x0 :: x1 :: x2 :: x3 :: x4 :: x5 :: x6 :: x7 :: x8 :: x9 :: x10 :: some (.int (jI v)) :: t) 0 (11, .int (jI v))).mpr ⟨11, .int (jI v), rfl, rfl⟩)
  refine lv_iinc C.1 C.2.1 hd1 hL hj (jI_add v z) hi rfl (fun ls2 hL2 => ?_)
  exact kk B D aC sa sv p e R s m args below meth c H locs ls2 C hP hS (aw_set1 (i := 11) (v := .int (jI (v + z))) (ls := x0 :: x1 :: x2 :: x3 :: x4 :: x5 :: x6 :: x7 :: x8 :: x9 :: x10 :: some (.int (jI v)) :: t) (fun j u hj hu => by cases Nat.succ.inj hj; exact hp u (Option.some.inj hu)) hL2)
theorem a_lst11 {x0 x1 x2 x3 x4 x5 x6 x7 x8 x9 x10 x11 x12 : Option Value} {v : Int64} {t : List (Option Value)} (hd : aw_d 2 cc pc (.lstore 11) nx) (hi : 11 + 1 < nL) (hp : aw_n2 x10) (kk : AW l y cc nL ret F Lo mc ms she Post sh k n (σ) nx (x0 :: x1 :: x2 :: x3 :: x4 :: x5 :: x6 :: x7 :: x8 :: x9 :: x10 :: some (.long v) :: none :: t) (st)) : AW l y cc nL ret F Lo mc ms she Post sh k n (σ) pc (x0 :: x1 :: x2 :: x3 :: x4 :: x5 :: x6 :: x7 :: x8 :: x9 :: x10 :: x11 :: x12 :: t) (.long v :: st) := by
  obtain ⟨hd1, rfl⟩ := hd
  intro B D aC sa sv p e R s m args below meth c H locs lsA C hP hS hL
  refine lv_lstore C.1 C.2.1 hd1 hL hi rfl (fun ls2 hL2 => ?_)
  exact kk B D aC sa sv p e R s m args below meth c H locs ls2 C hP hS (aw_set2 (i := 11) (v := .long v) (ls := x0 :: x1 :: x2 :: x3 :: x4 :: x5 :: x6 :: x7 :: x8 :: x9 :: x10 :: x11 :: x12 :: t) (fun j u hj hu => by cases Nat.succ.inj hj; exact hp u (Option.some.inj hu)) hL2)
theorem a_ild12 {x0 x1 x2 x3 x4 x5 x6 x7 x8 x9 x10 x11 : Option Value} {v : Int32} {t : List (Option Value)} (hd : aw_d 2 cc pc (.iload 12) nx) (kk : AW l y cc nL ret F Lo mc ms she Post sh k n (σ) nx (x0 :: x1 :: x2 :: x3 :: x4 :: x5 :: x6 :: x7 :: x8 :: x9 :: x10 :: x11 :: some (.int v) :: t) (.int v :: st)) : AW l y cc nL ret F Lo mc ms she Post sh k n (σ) pc (x0 :: x1 :: x2 :: x3 :: x4 :: x5 :: x6 :: x7 :: x8 :: x9 :: x10 :: x11 :: some (.int v) :: t) (st) := by
  obtain ⟨hd1, rfl⟩ := hd
  intro B D aC sa sv p e R s m args below meth c H locs lsA C hP hS hL
  exact lv_iload C.1 C.2.1 hd1 (aw_at (i := 12) hL rfl) (kk B D aC sa sv p e R s m args below meth c H locs lsA C hP hS hL)
theorem a_lld12 {x0 x1 x2 x3 x4 x5 x6 x7 x8 x9 x10 x11 : Option Value} {v : Int64} {t : List (Option Value)} (hd : aw_d 2 cc pc (.lload 12) nx) (kk : AW l y cc nL ret F Lo mc ms she Post sh k n (σ) nx (x0 :: x1 :: x2 :: x3 :: x4 :: x5 :: x6 :: x7 :: x8 :: x9 :: x10 :: x11 :: some (.long v) :: t) (.long v :: st)) : AW l y cc nL ret F Lo mc ms she Post sh k n (σ) pc (x0 :: x1 :: x2 :: x3 :: x4 :: x5 :: x6 :: x7 :: x8 :: x9 :: x10 :: x11 :: some (.long v) :: t) (st) := by
  obtain ⟨hd1, rfl⟩ := hd
  intro B D aC sa sv p e R s m args below meth c H locs lsA C hP hS hL
  exact lv_lload C.1 C.2.1 hd1 (aw_at (i := 12) hL rfl) (kk B D aC sa sv p e R s m args below meth c H locs lsA C hP hS hL)
theorem a_ald12 {x0 x1 x2 x3 x4 x5 x6 x7 x8 x9 x10 x11 : Option Value} {v : Nat} {t : List (Option Value)} (hd : aw_d 2 cc pc (.aload 12) nx) (kk : AW l y cc nL ret F Lo mc ms she Post sh k n (σ) nx (x0 :: x1 :: x2 :: x3 :: x4 :: x5 :: x6 :: x7 :: x8 :: x9 :: x10 :: x11 :: some (.ref v) :: t) (.ref v :: st)) : AW l y cc nL ret F Lo mc ms she Post sh k n (σ) pc (x0 :: x1 :: x2 :: x3 :: x4 :: x5 :: x6 :: x7 :: x8 :: x9 :: x10 :: x11 :: some (.ref v) :: t) (st) := by
  obtain ⟨hd1, rfl⟩ := hd
  intro B D aC sa sv p e R s m args below meth c H locs lsA C hP hS hL
  exact lv_aload C.1 C.2.1 hd1 (aw_at (i := 12) hL rfl) (kk B D aC sa sv p e R s m args below meth c H locs lsA C hP hS hL)
theorem a_ist12 {x0 x1 x2 x3 x4 x5 x6 x7 x8 x9 x10 x11 x12 : Option Value} {v : Int32} {t : List (Option Value)} (hd : aw_d 2 cc pc (.istore 12) nx) (hi : 12 < nL) (hp : aw_n2 x11) (kk : AW l y cc nL ret F Lo mc ms she Post sh k n (σ) nx (x0 :: x1 :: x2 :: x3 :: x4 :: x5 :: x6 :: x7 :: x8 :: x9 :: x10 :: x11 :: some (.int v) :: t) (st)) : AW l y cc nL ret F Lo mc ms she Post sh k n (σ) pc (x0 :: x1 :: x2 :: x3 :: x4 :: x5 :: x6 :: x7 :: x8 :: x9 :: x10 :: x11 :: x12 :: t) (.int v :: st) := by
  obtain ⟨hd1, rfl⟩ := hd
  intro B D aC sa sv p e R s m args below meth c H locs lsA C hP hS hL
  refine lv_istore C.1 C.2.1 hd1 hL hi rfl (fun ls2 hL2 => ?_)
  exact kk B D aC sa sv p e R s m args below meth c H locs ls2 C hP hS (aw_set1 (i := 12) (v := .int v) (ls := x0 :: x1 :: x2 :: x3 :: x4 :: x5 :: x6 :: x7 :: x8 :: x9 :: x10 :: x11 :: x12 :: t) (fun j u hj hu => by cases Nat.succ.inj hj; exact hp u (Option.some.inj hu)) hL2)
theorem a_ast12 {x0 x1 x2 x3 x4 x5 x6 x7 x8 x9 x10 x11 x12 : Option Value} {v : Nat} {t : List (Option Value)} (hd : aw_d 2 cc pc (.astore 12) nx) (hi : 12 < nL) (hp : aw_n2 x11) (kk : AW l y cc nL ret F Lo mc ms she Post sh k n (σ) nx (x0 :: x1 :: x2 :: x3 :: x4 :: x5 :: x6 :: x7 :: x8 :: x9 :: x10 :: x11 :: some (.ref v) :: t) (st)) : AW l y cc nL ret F Lo mc ms she Post sh k n (σ) pc (x0 :: x1 :: x2 :: x3 :: x4 :: x5 :: x6 :: x7 :: x8 :: x9 :: x10 :: x11 :: x12 :: t) (.ref v :: st) := by
  obtain ⟨hd1, rfl⟩ := hd
  intro B D aC sa sv p e R s m args below meth c H locs lsA C hP hS hL
  refine lv_astore C.1 C.2.1 hd1 hL hi rfl (fun ls2 hL2 => ?_)
  exact kk B D aC sa sv p e R s m args below meth c H locs ls2 C hP hS (aw_set1 (i := 12) (v := .ref v) (ls := x0 :: x1 :: x2 :: x3 :: x4 :: x5 :: x6 :: x7 :: x8 :: x9 :: x10 :: x11 :: x12 :: t) (fun j u hj hu => by cases Nat.succ.inj hj; exact hp u (Option.some.inj hu)) hL2)
theorem a_iinc12 {x0 x1 x2 x3 x4 x5 x6 x7 x8 x9 x10 x11 : Option Value} {v z : Int} {t : List (Option Value)} (hd : aw_d 3 cc pc (.iinc 12 z) nx) (hi : 12 < nL) (hp : aw_n2 x11) (kk : AW l y cc nL ret F Lo mc ms she Post sh k n (σ) nx (x0 :: x1 :: x2 :: x3 :: x4 :: x5 :: x6 :: x7 :: x8 :: x9 :: x10 :: x11 :: some (.int (jI (v + z))) :: t) (st)) : AW l y cc nL ret F Lo mc ms she Post sh k n (σ) pc (x0 :: x1 :: x2 :: x3 :: x4 :: x5 :: x6 :: x7 :: x8 :: x9 :: x10 :: x11 :: some (.int (jI v)) :: t) (st) := by
  obtain ⟨hd1, rfl⟩ := hd
  intro B D aC sa sv p e R s m args below meth c H locs lsA C hP hS hL
  obtain ⟨j, hj⟩ := List.mem_iff_getElem?.mp ((aw_lv_mem (aw_f B sa) (x0 :: x1 :: x2 :: x3 :: x4 :: x5 :: x6 :: x7 :: x8 :: x9 :: x10 :: x11 :: some (.int (jI v)) :: t) 0 (12, .int (jI v))).mpr ⟨12, .int (jI v), rfl, rfl⟩)
  refine lv_iinc C.1 C.2.1 hd1 hL hj (jI_add v z) hi rfl (fun ls2 hL2 => ?_)
  exact kk B D aC sa sv p e R s m args below meth c H locs ls2 C hP hS (aw_set1 (i := 12) (v := .int (jI (v + z))) (ls := x0 :: x1 :: x2 :: x3 :: x4 :: x5 :: x6 :: x7 :: x8 :: x9 :: x10 :: x11 :: some (.int (jI v)) :: t) (fun j u hj hu => by cases Nat.succ.inj hj; exact hp u (Option.some.inj hu)) hL2)
theorem a_lst12 {x0 x1 x2 x3 x4 x5 x6 x7 x8 x9 x10 x11 x12 x13 : Option Value} {v : Int64} {t : List (Option Value)} (hd : aw_d 2 cc pc (.lstore 12) nx) (hi : 12 + 1 < nL) (hp : aw_n2 x11) (kk : AW l y cc nL ret F Lo mc ms she Post sh k n (σ) nx (x0 :: x1 :: x2 :: x3 :: x4 :: x5 :: x6 :: x7 :: x8 :: x9 :: x10 :: x11 :: some (.long v) :: none :: t) (st)) : AW l y cc nL ret F Lo mc ms she Post sh k n (σ) pc (x0 :: x1 :: x2 :: x3 :: x4 :: x5 :: x6 :: x7 :: x8 :: x9 :: x10 :: x11 :: x12 :: x13 :: t) (.long v :: st) := by
  obtain ⟨hd1, rfl⟩ := hd
  intro B D aC sa sv p e R s m args below meth c H locs lsA C hP hS hL
  refine lv_lstore C.1 C.2.1 hd1 hL hi rfl (fun ls2 hL2 => ?_)
  exact kk B D aC sa sv p e R s m args below meth c H locs ls2 C hP hS (aw_set2 (i := 12) (v := .long v) (ls := x0 :: x1 :: x2 :: x3 :: x4 :: x5 :: x6 :: x7 :: x8 :: x9 :: x10 :: x11 :: x12 :: x13 :: t) (fun j u hj hu => by cases Nat.succ.inj hj; exact hp u (Option.some.inj hu)) hL2)
theorem a_ild13 {x0 x1 x2 x3 x4 x5 x6 x7 x8 x9 x10 x11 x12 : Option Value} {v : Int32} {t : List (Option Value)} (hd : aw_d 2 cc pc (.iload 13) nx) (kk : AW l y cc nL ret F Lo mc ms she Post sh k n (σ) nx (x0 :: x1 :: x2 :: x3 :: x4 :: x5 :: x6 :: x7 :: x8 :: x9 :: x10 :: x11 :: x12 :: some (.int v) :: t) (.int v :: st)) : AW l y cc nL ret F Lo mc ms she Post sh k n (σ) pc (x0 :: x1 :: x2 :: x3 :: x4 :: x5 :: x6 :: x7 :: x8 :: x9 :: x10 :: x11 :: x12 :: some (.int v) :: t) (st) := by
  obtain ⟨hd1, rfl⟩ := hd
  intro B D aC sa sv p e R s m args below meth c H locs lsA C hP hS hL
  exact lv_iload C.1 C.2.1 hd1 (aw_at (i := 13) hL rfl) (kk B D aC sa sv p e R s m args below meth c H locs lsA C hP hS hL)
theorem a_lld13 {x0 x1 x2 x3 x4 x5 x6 x7 x8 x9 x10 x11 x12 : Option Value} {v : Int64} {t : List (Option Value)} (hd : aw_d 2 cc pc (.lload 13) nx) (kk : AW l y cc nL ret F Lo mc ms she Post sh k n (σ) nx (x0 :: x1 :: x2 :: x3 :: x4 :: x5 :: x6 :: x7 :: x8 :: x9 :: x10 :: x11 :: x12 :: some (.long v) :: t) (.long v :: st)) : AW l y cc nL ret F Lo mc ms she Post sh k n (σ) pc (x0 :: x1 :: x2 :: x3 :: x4 :: x5 :: x6 :: x7 :: x8 :: x9 :: x10 :: x11 :: x12 :: some (.long v) :: t) (st) := by
  obtain ⟨hd1, rfl⟩ := hd
  intro B D aC sa sv p e R s m args below meth c H locs lsA C hP hS hL
  exact lv_lload C.1 C.2.1 hd1 (aw_at (i := 13) hL rfl) (kk B D aC sa sv p e R s m args below meth c H locs lsA C hP hS hL)
theorem a_ald13 {x0 x1 x2 x3 x4 x5 x6 x7 x8 x9 x10 x11 x12 : Option Value} {v : Nat} {t : List (Option Value)} (hd : aw_d 2 cc pc (.aload 13) nx) (kk : AW l y cc nL ret F Lo mc ms she Post sh k n (σ) nx (x0 :: x1 :: x2 :: x3 :: x4 :: x5 :: x6 :: x7 :: x8 :: x9 :: x10 :: x11 :: x12 :: some (.ref v) :: t) (.ref v :: st)) : AW l y cc nL ret F Lo mc ms she Post sh k n (σ) pc (x0 :: x1 :: x2 :: x3 :: x4 :: x5 :: x6 :: x7 :: x8 :: x9 :: x10 :: x11 :: x12 :: some (.ref v) :: t) (st) := by
  obtain ⟨hd1, rfl⟩ := hd
  intro B D aC sa sv p e R s m args below meth c H locs lsA C hP hS hL
  exact lv_aload C.1 C.2.1 hd1 (aw_at (i := 13) hL rfl) (kk B D aC sa sv p e R s m args below meth c H locs lsA C hP hS hL)
theorem a_ist13 {x0 x1 x2 x3 x4 x5 x6 x7 x8 x9 x10 x11 x12 x13 : Option Value} {v : Int32} {t : List (Option Value)} (hd : aw_d 2 cc pc (.istore 13) nx) (hi : 13 < nL) (hp : aw_n2 x12) (kk : AW l y cc nL ret F Lo mc ms she Post sh k n (σ) nx (x0 :: x1 :: x2 :: x3 :: x4 :: x5 :: x6 :: x7 :: x8 :: x9 :: x10 :: x11 :: x12 :: some (.int v) :: t) (st)) : AW l y cc nL ret F Lo mc ms she Post sh k n (σ) pc (x0 :: x1 :: x2 :: x3 :: x4 :: x5 :: x6 :: x7 :: x8 :: x9 :: x10 :: x11 :: x12 :: x13 :: t) (.int v :: st) := by
  obtain ⟨hd1, rfl⟩ := hd
  intro B D aC sa sv p e R s m args below meth c H locs lsA C hP hS hL
  refine lv_istore C.1 C.2.1 hd1 hL hi rfl (fun ls2 hL2 => ?_)
  exact kk B D aC sa sv p e R s m args below meth c H locs ls2 C hP hS (aw_set1 (i := 13) (v := .int v) (ls := x0 :: x1 :: x2 :: x3 :: x4 :: x5 :: x6 :: x7 :: x8 :: x9 :: x10 :: x11 :: x12 :: x13 :: t) (fun j u hj hu => by cases Nat.succ.inj hj; exact hp u (Option.some.inj hu)) hL2)
theorem a_ast13 {x0 x1 x2 x3 x4 x5 x6 x7 x8 x9 x10 x11 x12 x13 : Option Value} {v : Nat} {t : List (Option Value)} (hd : aw_d 2 cc pc (.astore 13) nx) (hi : 13 < nL) (hp : aw_n2 x12) (kk : AW l y cc nL ret F Lo mc ms she Post sh k n (σ) nx (x0 :: x1 :: x2 :: x3 :: x4 :: x5 :: x6 :: x7 :: x8 :: x9 :: x10 :: x11 :: x12 :: some (.ref v) :: t) (st)) : AW l y cc nL ret F Lo mc ms she Post sh k n (σ) pc (x0 :: x1 :: x2 :: x3 :: x4 :: x5 :: x6 :: x7 :: x8 :: x9 :: x10 :: x11 :: x12 :: x13 :: t) (.ref v :: st) := by
  obtain ⟨hd1, rfl⟩ := hd
  intro B D aC sa sv p e R s m args below meth c H locs lsA C hP hS hL
  refine lv_astore C.1 C.2.1 hd1 hL hi rfl (fun ls2 hL2 => ?_)
  exact kk B D aC sa sv p e R s m args below meth c H locs ls2 C hP hS (aw_set1 (i := 13) (v := .ref v) (ls := x0 :: x1 :: x2 :: x3 :: x4 :: x5 :: x6 :: x7 :: x8 :: x9 :: x10 :: x11 :: x12 :: x13 :: t) (fun j u hj hu => by cases Nat.succ.inj hj; exact hp u (Option.some.inj hu)) hL2)
theorem a_iinc13 {x0 x1 x2 x3 x4 x5 x6 x7 x8 x9 x10 x11 x12 : Option Value} {v z : Int} {t : List (Option Value)} (hd : aw_d 3 cc pc (.iinc 13 z) nx) (hi : 13 < nL) (hp : aw_n2 x12) (kk : AW l y cc nL ret F Lo mc ms she Post sh k n (σ) nx (x0 :: x1 :: x2 :: x3 :: x4 :: x5 :: x6 :: x7 :: x8 :: x9 :: x10 :: x11 :: x12 :: some (.int (jI (v + z))) :: t) (st)) : AW l y cc nL ret F Lo mc ms she Post sh k n (σ) pc (x0 :: x1 :: x2 :: x3 :: x4 :: x5 :: x6 :: x7 :: x8 :: x9 :: x10 :: x11 :: x12 :: some (.int (jI v)) :: t) (st) := by
  obtain ⟨hd1, rfl⟩ := hd
  intro B D aC sa sv p e R s m args below meth c H locs lsA C hP hS hL
  obtain ⟨j, hj⟩ := List.mem_iff_getElem?.mp ((aw_lv_mem (aw_f B sa) (x0 :: x1 :: x2 :: x3 :: x4 :: x5 :: x6 :: x7 :: x8 :: x9 :: x10 :: x11 :: x12 :: some (.int (jI v)) :: t) 0 (13, .int (jI v))).mpr ⟨13, .int (jI v), rfl, rfl⟩)
  refine lv_iinc C.1 C.2.1 hd1 hL hj (jI_add v z) hi rfl (fun ls2 hL2 => ?_)
  exact kk B D aC sa sv p e R s m args below meth c H locs ls2 C hP hS (aw_set1 (i := 13) (v := .int (jI (v + z))) (ls := x0 :: x1 :: x2 :: x3 :: x4 :: x5 :: x6 :: x7 :: x8 :: x9 :: x10 :: x11 :: x12 :: some (.int (jI v)) :: t) (fun j u hj hu => by cases Nat.succ.inj hj; exact hp u (Option.some.inj hu)) hL2)
theorem a_lst13 {x0 x1 x2 x3 x4 x5 x6 x7 x8 x9 x10 x11 x12 x13 x14 : Option Value} {v : Int64} {t : List (Option Value)} (hd : aw_d 2 cc pc (.lstore 13) nx) (hi : 13 + 1 < nL) (hp : aw_n2 x12) (kk : AW l y cc nL ret F Lo mc ms she Post sh k n (σ) nx (x0 :: x1 :: x2 :: x3 :: x4 :: x5 :: x6 :: x7 :: x8 :: x9 :: x10 :: x11 :: x12 :: some (.long v) :: none :: t) (st)) : AW l y cc nL ret F Lo mc ms she Post sh k n (σ) pc (x0 :: x1 :: x2 :: x3 :: x4 :: x5 :: x6 :: x7 :: x8 :: x9 :: x10 :: x11 :: x12 :: x13 :: x14 :: t) (.long v :: st) := by
  obtain ⟨hd1, rfl⟩ := hd
  intro B D aC sa sv p e R s m args below meth c H locs lsA C hP hS hL
  refine lv_lstore C.1 C.2.1 hd1 hL hi rfl (fun ls2 hL2 => ?_)
  exact kk B D aC sa sv p e R s m args below meth c H locs ls2 C hP hS (aw_set2 (i := 13) (v := .long v) (ls := x0 :: x1 :: x2 :: x3 :: x4 :: x5 :: x6 :: x7 :: x8 :: x9 :: x10 :: x11 :: x12 :: x13 :: x14 :: t) (fun j u hj hu => by cases Nat.succ.inj hj; exact hp u (Option.some.inj hu)) hL2)
end AWR
