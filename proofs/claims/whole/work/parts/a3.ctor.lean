/-! ===== the constructors ===== -/
/-- the references in the order in which they are laid; the numbers that aren't 0 -/
def ASG : List (Nat × Nat) := [(1, 0), (3, 1), (3, 2), (3, 3), (3, 5), (3, 6), (3, 7), (3, 8), (1, 2), (1, 3), (1, 4), (0, 0), (13, 1), (13, 2), (13, 3), (13, 5), (13, 6), (13, 7), (13, 8), (0, 1), (21, 2), (23, 0), (23, 1), (23, 2), (23, 3), (23, 4), (23, 5), (21, 3), (21, 4), (21, 5), (21, 7), (22, 0), (22, 1), (22, 2), (22, 3), (22, 4), (22, 5), (22, 6), (22, 7), (22, 8), (22, 9), (22, 10), (22, 11), (22, 12), (22, 13), (22, 14), (22, 15), (0, 2), (0, 3), (0, 4), (51, 0), (51, 1), (51, 2), (51, 3), (51, 4), (0, 5), (57, 0), (57, 1), (57, 4), (57, 5), (0, 6), (62, 0), (0, 7), (64, 4), (64, 5), (64, 6), (64, 7), (69, 0), (69, 1), (69, 2), (69, 3), (69, 4), (69, 5), (69, 6), (69, 7), (69, 8), (69, 9), (69, 10), (69, 11), (64, 8), (64, 9), (64, 10), (0, 8), (84, 0), (84, 1), (0, 9), (87, 2), (89, 0), (89, 1), (89, 2), (89, 3), (89, 4), (89, 5), (87, 3), (87, 4), (87, 5), (87, 7), (88, 0), (88, 1), (88, 2), (88, 3), (88, 4), (88, 5), (88, 6), (88, 7), (88, 8), (88, 9), (88, 10), (88, 11), (88, 12), (88, 13), (88, 14), (88, 15), (49, 0), (115, 2), (117, 0), (117, 1), (117, 2), (117, 3), (117, 4), (117, 5), (115, 3), (115, 4), (115, 5), (115, 7), (116, 0), (116, 1), (116, 2), (116, 3), (116, 4), (116, 5), (116, 6), (116, 7), (116, 8), (116, 9), (116, 10), (116, 11), (116, 12), (116, 13), (116, 14), (116, 15), (49, 1), (143, 2), (145, 0), (145, 1), (145, 2), (145, 3), (145, 4), (145, 5), (143, 3), (143, 4), (143, 5), (143, 7), (144, 0), (144, 1), (144, 2), (144, 3), (144, 4), (144, 5), (144, 6), (144, 7), (144, 8), (144, 9), (144, 10), (144, 11), (144, 12), (144, 13), (144, 14), (144, 15), (49, 2), (171, 0), (171, 7), (171, 8), (171, 10), (171, 11), (171, 12), (171, 15), (171, 17), (171, 18), (171, 19), (171, 23), (171, 24), (171, 25), (171, 27), (171, 28), (171, 29), (171, 31), (171, 32), (171, 33), (171, 34), (171, 35), (171, 36), (171, 37), (171, 38), (171, 39), (171, 40), (171, 41), (171, 42), (171, 43), (171, 45), (171, 46), (171, 48), (171, 49), (171, 50), (171, 51), (171, 52), (171, 53)]
def IASG : List (Nat × Nat) := [(3, 11), (3, 15), (13, 11), (13, 15)]
def PR (n : Nat) (a : Nat) (k : Int) : Option Nat := if 0 ≤ k ∧ (ASG.take n).contains (a, k.toNat) = true then RF false false a k else none
def NI (i : Nat) (a : Nat) (k : Int) : Int := if 0 ≤ k ∧ (IASG.take i).contains (a, k.toNat) = true then 1 else 0
/-- the state: so many references and numbers laid -/
def sN (n i : Nat) : aw_S := (NI i, fun _ _ => 0, PR n)
theorem shT {K a : Nat} {x : Nat ⊕ (Nat × Nat)} (h : SH[a]? = some x) (hlt : Nat.ble (a + 1) K = true) : (SH.take K)[a]? = some x := by
  rw [List.getElem?_take_of_lt (Nat.le_of_ble_eq_true hlt)]
  exact h
theorem shL {K : Nat} {x : Nat ⊕ (Nat × Nat)} (h : SH[K]? = some x) : (SH.take K).length = K ∧ SH.take K ++ [x] = SH.take (K + 1) := by
  have h1 := (List.getElem?_eq_some_iff.mp h).1
  refine ⟨by rw [List.length_take]; omega, ?_⟩
  rw [List.take_add_one, h]
  rfl
theorem tk_s {A : List (Nat × Nat)} {n : Nat} {q x : Nat × Nat} (h : A[n]? = some x) : (A.take (n + 1)).contains q = ((A.take n).contains q || (q == x)) := by
  rw [Bool.eq_iff_iff, Bool.or_eq_true, List.contains_iff_mem, List.contains_iff_mem, beq_iff_eq, List.take_add_one, h]
  simp
theorem pr_s {n a k b : Nat} {i : Nat} (h : ASG[n]? = some (a, k)) (hb : RF false false a (k : Int) = some b) : aw_sr (sN n i) a (k : Int) (some b) = sN (n + 1) i := by
  show (NI i, (fun _ _ => (0 : Int)), fun b' j => if b' = a ∧ j = (k : Int) then some b else PR n b' j) = (NI i, (fun _ _ => (0 : Int)), PR (n + 1))
  congr 2
  funext b' j
  unfold PR
  by_cases q : b' = a ∧ j = (k : Int)
  · obtain ⟨rfl, rfl⟩ := q
    rw [if_pos ⟨rfl, rfl⟩, if_pos ⟨by omega, by rw [tk_s h]; simp⟩, hb]
  · rw [if_neg q, tk_s h]
    by_cases q2 : 0 ≤ j
    · have e : ((b', j.toNat) == (a, k)) = false := by
        rw [beq_eq_false_iff_ne]
        intro z
        have z1 := congrArg Prod.fst z
        have z2 := congrArg Prod.snd z
        simp only at z1 z2
        exact q ⟨z1, by omega⟩
      rw [e, Bool.or_false]
    · rw [if_neg (fun z => q2 z.1), if_neg (fun z => q2 z.1)]
theorem ni_s {n a k : Nat} {i : Nat} (h : IASG[i]? = some (a, k)) : aw_si (sN n i) a (k : Int) 1 = sN n (i + 1) := by
  show ((fun b' j => if b' = a ∧ j = (k : Int) then 1 else NI i b' j), (fun _ _ => (0 : Int)), PR n) = (NI (i + 1), (fun _ _ => (0 : Int)), PR n)
  congr 1
  funext b' j
  unfold NI
  by_cases q : b' = a ∧ j = (k : Int)
  · obtain ⟨rfl, rfl⟩ := q
    rw [if_pos ⟨rfl, rfl⟩, if_pos ⟨by omega, by rw [tk_s h]; simp⟩]
  · rw [if_neg q, tk_s h]
    by_cases q2 : 0 ≤ j
    · have e : ((b', j.toNat) == (a, k)) = false := by
        rw [beq_eq_false_iff_ne]
        intro z
        have z1 := congrArg Prod.fst z
        have z2 := congrArg Prod.snd z
        simp only at z1 z2
        exact q ⟨z1, by omega⟩
      rw [e, Bool.or_false]
    · rw [if_neg (fun z => q2 z.1), if_neg (fun z => q2 z.1)]
/-- nothing is laid yet at a name from K on -/
def zOK (n i K : Nat) : Bool := (ASG.take n).all (fun q => Nat.blt q.1 K) && (IASG.take i).all (fun q => Nat.blt q.1 K)
theorem zOK_pr {n i K : Nat} (h : zOK n i K = true) {a : Nat} (ha : K ≤ a) (j : Int) : PR n a j = none := by
  unfold zOK at h
  rw [Bool.and_eq_true, List.all_eq_true] at h
  unfold PR
  rw [if_neg]
  rintro ⟨-, z⟩
  have h1 := h.1 _ (List.contains_iff_mem.mp z)
  have h2 : a + 1 ≤ K := Nat.le_of_ble_eq_true h1
  omega
theorem zOK_ni {n i K : Nat} (h : zOK n i K = true) {a : Nat} (ha : K ≤ a) (j : Int) : NI i a j = 0 := by
  unfold zOK at h
  rw [Bool.and_eq_true, List.all_eq_true, List.all_eq_true] at h
  unfold NI
  rw [if_neg]
  rintro ⟨-, z⟩
  have h1 := h.2 _ (List.contains_iff_mem.mp z)
  have h2 : a + 1 ≤ K := Nat.le_of_ble_eq_true h1
  omega
theorem zOK_Z {n i K : Nat} (h : zOK n i K = true) : aw_Z (sN n i) K := fun j => ⟨zOK_ni h (Nat.le_refl _) j, rfl, zOK_pr h (Nat.le_refl _) j⟩
set_option maxRecDepth 100000 in
theorem ka_0 : Cond.arrayClass (aw_ty 0) ∈ aw_tbl := aw_in1 121 (by decide +kernel) rfl
set_option maxRecDepth 100000 in
theorem ka_1 : Cond.arrayClass (aw_ty 1) ∈ aw_tbl := aw_in1 120 (by decide +kernel) rfl
set_option maxRecDepth 100000 in
theorem ka_2 : Cond.arrayClass (aw_ty 2) ∈ aw_tbl := aw_in2 64 (by decide +kernel) rfl
set_option maxRecDepth 100000 in
theorem ka_3 : Cond.arrayClass (aw_ty 3) ∈ aw_tbl := aw_in6 6 (by decide +kernel) rfl
theorem nt_0 : ∀ j, j < 11 → parseFieldDescriptor (TX0 j).2.2.1 = some (aw_fty 0 j) ∧ aw_fty 0 j ≠ .float ∧ aw_fty 0 j ≠ .double := by decide +kernel
theorem nt_1 : ∀ j, j < 6 → parseFieldDescriptor (TX1 j).2.2.1 = some (aw_fty 1 j) ∧ aw_fty 1 j ≠ .float ∧ aw_fty 1 j ≠ .double := by decide +kernel
theorem nt_2 : ∀ j, j < 11 → parseFieldDescriptor (TX2 j).2.2.1 = some (aw_fty 2 j) ∧ aw_fty 2 j ≠ .float ∧ aw_fty 2 j ≠ .double := by decide +kernel
theorem nt_3 : ∀ j, j < 16 → parseFieldDescriptor (TX3 j).2.2.1 = some (aw_fty 3 j) ∧ aw_fty 3 j ≠ .float ∧ aw_fty 3 j ≠ .double := by decide +kernel
theorem nt_4 : ∀ j, j < 12 → parseFieldDescriptor (TX4 j).2.2.1 = some (aw_fty 4 j) ∧ aw_fty 4 j ≠ .float ∧ aw_fty 4 j ≠ .double := by decide +kernel
theorem nt_5 : ∀ j, j < 8 → parseFieldDescriptor (TX5 j).2.2.1 = some (aw_fty 5 j) ∧ aw_fty 5 j ≠ .float ∧ aw_fty 5 j ≠ .double := by decide +kernel
theorem nt_6 : ∀ j, j < 1 → parseFieldDescriptor (TX6 j).2.2.1 = some (aw_fty 6 j) ∧ aw_fty 6 j ≠ .float ∧ aw_fty 6 j ≠ .double := by decide +kernel
theorem nt_7 : ∀ j, j < 3 → parseFieldDescriptor (TX7 j).2.2.1 = some (aw_fty 7 j) ∧ aw_fty 7 j ≠ .float ∧ aw_fty 7 j ≠ .double := by decide +kernel
theorem nt_8 : ∀ j, j < 6 → parseFieldDescriptor (TX8 j).2.2.1 = some (aw_fty 8 j) ∧ aw_fty 8 j ≠ .float ∧ aw_fty 8 j ≠ .double := by decide +kernel
theorem nt_9 : ∀ j, j < 10 → parseFieldDescriptor (TX9 j).2.2.1 = some (aw_fty 9 j) ∧ aw_fty 9 j ≠ .float ∧ aw_fty 9 j ≠ .double := by decide +kernel
theorem nt_10 : ∀ j, j < 54 → parseFieldDescriptor (TX10 j).2.2.1 = some (aw_fty 10 j) ∧ aw_fty 10 j ≠ .float ∧ aw_fty 10 j ≠ .double := by decide +kernel
section NR
variable {l : Launch} {y : MethodName} {cc : ByteArray} {nL : Nat} {ret : Option FieldType} {F Lo mc ms : Nat} {she : aw_Sh} {Post : Option Value → aw_S → Prop} {k n : Nat} {pc nx : Nat} {ls : List (Option Value)} {st : List Value} {K n0 i0 : Nat}
theorem n_newa {t N : Nat} {x : Int} {atype : ArrayType} (hd : aw_d 2 cc pc (.newarray atype) nx) (hat : newarray.typeOf atype = aw_ty t) (ht : Nat.ble t 3 = true) (harr : Cond.arrayClass (aw_ty t) ∈ aw_tbl) (hx : x = (N : Int)) (hN : (Nat.ble (N * 8) 536870912 && Nat.ble K 1000) = true) (hs : SH[K]? = some (.inr (t, N))) (hz : zOK n0 i0 K = true) (hA' : (Nat.ble (k + 1) mc && Nat.ble (n + N) ms) = true)
    (kk : AW l y cc nL ret F Lo mc ms she Post (SH.take (K + 1)) (k + 1) (n + N) (sN n0 i0) nx ls (.ref K :: st)) : AW l y cc nL ret F Lo mc ms she Post (SH.take K) k n (sN n0 i0) pc ls (.int (jI x) :: st) :=
  a_newa hd hat ht harr hx ((Bool.and_eq_true _ _).mp hN).1 (shL hs).1 ((Bool.and_eq_true _ _).mp hN).2 (zOK_Z hz) hA' (by rw [(shL hs).2]; exact kk)
theorem n_anew {t N idx : Nat} {x : Int} {C : String} (hd : aw_d 3 cc pc (.anewarray idx) nx) (ht : (t = 4 ∧ C = "CabRanks$Cab") ∨ (t = 5 ∧ C = "CabRanks$Day")) (hcl : Cond.classLink y.cls idx C ∈ aw_tbl) (hx : x = (N : Int)) (hN : (Nat.ble (N * 8) 536870912 && Nat.ble K 1000) = true) (hs : SH[K]? = some (.inr (t, N))) (hz : zOK n0 i0 K = true) (hA' : (Nat.ble (k + 1) mc && Nat.ble (n + N) ms) = true)
    (kk : AW l y cc nL ret F Lo mc ms she Post (SH.take (K + 1)) (k + 1) (n + N) (sN n0 i0) nx ls (.ref K :: st)) : AW l y cc nL ret F Lo mc ms she Post (SH.take K) k n (sN n0 i0) pc ls (.int (jI x) :: st) :=
  a_anew hd ht hcl hx ((Bool.and_eq_true _ _).mp hN).1 (shL hs).1 ((Bool.and_eq_true _ _).mp hN).2 (zOK_Z hz) hA' (by rw [(shL hs).2]; exact kk)
theorem n_new {ci : Nat} {C : String} {T : u_T} {N idx : Nat} (hd : aw_d 3 cc pc (.new idx) nx) (hc : vwCl[ci]? = some (C, T, N)) (hcl : Cond.classLink y.cls idx C ∈ aw_tbl) (hin : Cond.instantiable C N ∈ aw_tbl) (hini : Cond.initialized C ∈ aw_tbl) (hty : ∀ j, j < N → parseFieldDescriptor (T j).2.2.1 = some (aw_fty ci j) ∧ aw_fty ci j ≠ .float ∧ aw_fty ci j ≠ .double) (hs : SH[K]? = some (.inl ci)) (hz : (zOK n0 i0 K && Nat.ble K 1000) = true) (hA' : (Nat.ble (k + 1) mc && Nat.ble (n + N) ms) = true)
    (kk : AW l y cc nL ret F Lo mc ms she Post (SH.take (K + 1)) (k + 1) (n + N) (sN n0 i0) nx ls (.ref K :: st)) : AW l y cc nL ret F Lo mc ms she Post (SH.take K) k n (sN n0 i0) pc ls st :=
  a_new hd hc hcl hin hini hty (shL hs).1 ((Bool.and_eq_true _ _).mp hz).2 (zOK_Z ((Bool.and_eq_true _ _).mp hz).1) hA' (by rw [(shL hs).2]; exact kk)
theorem n_putR {idx ci j a b : Nat} (j' : Int) (hd : aw_d 3 cc pc (.putfield idx) nx) (hf : aw_fl y.cls idx ci j) (hj : ((j : Nat) : Int) = j') (ht : (∃ C, aw_fty ci j = .object C) ∨ ∃ t, aw_fty ci j = .array t) (hs : SH[a]? = some (.inl ci)) (hlt : Nat.ble (a + 1) K = true) (hfin : ∀ q, vwCl[ci]? = some q → (q.2.1 j).2.2.2 = false ∨ ((q.2.1 j).2.2.2 = true ∧ y.name = "<init>" ∧ (q.2.1 j).1 = y.cls)) (hA : ASG[n0]? = some (a, j)) (hb : RF false false a (j : Int) = some b)
    (kk : AW l y cc nL ret F Lo mc ms she Post (SH.take K) k n (sN (n0 + 1) i0) nx ls st) : AW l y cc nL ret F Lo mc ms she Post (SH.take K) k n (sN n0 i0) pc ls (.ref b :: .ref a :: st) :=
  a_putR j' hd hf hj ht (shT hs hlt) hfin (by rw [← hj, pr_s hA hb]; exact kk)
theorem n_putI {idx ci j a : Nat} (j' : Int) (hd : aw_d 3 cc pc (.putfield idx) nx) (hf : aw_fl y.cls idx ci j) (hj : ((j : Nat) : Int) = j') (ht : aw_fty ci j = .int) (hs : SH[a]? = some (.inl ci)) (hlt : Nat.ble (a + 1) K = true) (hfin : ∀ q, vwCl[ci]? = some q → (q.2.1 j).2.2.2 = false ∨ ((q.2.1 j).2.2.2 = true ∧ y.name = "<init>" ∧ (q.2.1 j).1 = y.cls)) (hA : IASG[i0]? = some (a, j))
    (kk : AW l y cc nL ret F Lo mc ms she Post (SH.take K) k n (sN n0 (i0 + 1)) nx ls st) : AW l y cc nL ret F Lo mc ms she Post (SH.take K) k n (sN n0 i0) pc ls (.int (jI 1) :: .ref a :: st) :=
  a_putI j' hd hf hj ht (shT hs hlt) hfin (by rw [← hj, ni_s hA]; exact kk)
theorem n_getR {idx ci j a : Nat} (j' : Int) (b : Nat) (hd : aw_d 3 cc pc (.getfield idx) nx) (hf : aw_fl y.cls idx ci j) (hj : ((j : Nat) : Int) = j') (ht : aw_kd (aw_fty ci j) = 2) (hs : SH[a]? = some (.inl ci)) (hlt : Nat.ble (a + 1) K = true) (hb : PR n0 a j' = some b)
    (kk : AW l y cc nL ret F Lo mc ms she Post (SH.take K) k n (sN n0 i0) nx ls (.ref b :: st)) : AW l y cc nL ret F Lo mc ms she Post (SH.take K) k n (sN n0 i0) pc ls (.ref a :: st) :=
  a_getR j' b hd hf hj ht (shT hs hlt) hb kk
theorem n_aast {a b N t ci j : Nat} {x : Int} (hd : aw_d 1 cc pc (.aastore) nx) (hs : SH[a]? = some (.inr (t, N))) (hlt : Nat.ble (a + 1) K = true) (ht : (t = 4 ∧ ci = 2) ∨ (t = 5 ∧ ci = 5)) (hsb : SH[b]? = some (.inl ci)) (hltb : Nat.ble (b + 1) K = true) (hN : (Nat.ble N 2147483647 && Nat.ble (j + 1) N) = true) (hx : x = (j : Int)) (hA : ASG[n0]? = some (a, j)) (hb : RF false false a (j : Int) = some b) (_hz : Nat.ble 0 K = true)
    (kk : AW l y cc nL ret F Lo mc ms she Post (SH.take K) k n (sN (n0 + 1) i0) nx ls st) : AW l y cc nL ret F Lo mc ms she Post (SH.take K) k n (sN n0 i0) pc ls (.ref b :: .int (jI x) :: .ref a :: st) := by
  have h9 := (Bool.and_eq_true _ _).mp hN
  have h8 := Nat.le_of_ble_eq_true h9.2
  subst hx
  exact a_aast hd (shT hs hlt) ht (shT hsb hltb) h9.1 ⟨by omega, by omega⟩ (by rw [pr_s hA hb]; exact kk)
/-- a row of rows: the next N references are its own -/
def mOK (n N K : Nat) : Bool := (List.range N).all (fun j => (ASG[n + j]? == some (K, j)) && (RF false false K (j : Int) == some (K + 1 + j)))
theorem pr_m {n N K : Nat} {i : Nat} (h : mOK n N K = true) : ∀ (j : Nat), j ≤ N → (∀ (b : Nat) (q : Int), b ≠ K → PR (n + j) b q = PR n b q) ∧ ∀ u : Nat, u < j → PR (n + j) K (u : Int) = some (K + 1 + u)
  | 0, _ => ⟨fun _ _ _ => rfl, fun u hu => absurd hu (Nat.not_lt_zero u)⟩
  | j + 1, hj => by
    obtain ⟨a1, a2⟩ := pr_m (i := i) h j (by omega)
    unfold mOK at h
    have h1 := List.all_eq_true.mp h j (List.mem_range.mpr (by omega))
    rw [Bool.and_eq_true, beq_iff_eq, beq_iff_eq] at h1
    have e := pr_s (i := i) h1.1 h1.2
    have e2 : ∀ (b : Nat) (q : Int), PR (n + j + 1) b q = if b = K ∧ q = (j : Int) then some (K + 1 + j) else PR (n + j) b q := fun b q => (congrFun (congrFun (congrArg (fun s : aw_S => s.2.2) e) b) q).symm
    refine ⟨fun b q hb => ?_, fun u hu => ?_⟩
    · show PR (n + j + 1) b q = _
      rw [e2, if_neg (fun z => hb z.1)]
      exact a1 b q hb
    · show PR (n + j + 1) K (u : Int) = _
      rw [e2]
      by_cases q : u = j
      · rw [if_pos ⟨rfl, by omega⟩, q]
      · rw [if_neg (fun z => q (by omega))]
        exact a2 u (by omega)
theorem n_mna {N M idx : Nat} {x y0 : Int} (hd : aw_d 4 cc pc (.multianewarray idx 2) nx) (hcl : Cond.classLink y.cls idx "[[I" ∈ aw_tbl) (hx : x = (N : Int)) (hy : y0 = (M : Int)) (hN : (Nat.ble N 1000 && Nat.ble M 1000 && Nat.ble K 1000) = true) (hL : (SH.take K).length = K) (hS : SH.take K ++ .inr (6, N) :: List.replicate N (.inr (0, M)) = SH.take (K + 1 + N)) (hz : zOK n0 i0 K = true) (hm : mOK n0 N K = true) (hA' : (Nat.ble (k + 1 + N) mc && Nat.ble (n + N + N * M) ms) = true)
    (kk : AW l y cc nL ret F Lo mc ms she Post (SH.take (K + 1 + N)) (k + 1 + N) (n + N + N * M) (sN (n0 + N) i0) nx ls (.ref K :: st)) : AW l y cc nL ret F Lo mc ms she Post (SH.take K) k n (sN n0 i0) pc ls (.int (jI y0) :: .int (jI x) :: st) := by
  have h9 := (Bool.and_eq_true _ _).mp hN
  have h8 := (Bool.and_eq_true _ _).mp h9.1
  have hp := pr_m (i := i0) hm N (Nat.le_refl _)
  exact a_mna (σ' := sN (n0 + N) i0) hd hcl hx hy h8.1 h8.2 hL h9.2 rfl rfl (fun b j hb => hp.1 b j (by omega)) (fun j hj => hp.2 j hj) (fun j i => zOK_ni hz (by omega) i) hA' (by rw [hS]; exact kk)
end NR
set_option maxHeartbeats 4000000 in
set_option maxRecDepth 100000 in
theorem c_X2_init {l : Launch} {sh : aw_Sh} {σ : aw_S} {b : Nat} {Post : Option Value → aw_S → Prop} (hk : Post none σ) : AE l yX2_init cX2_init 1 (none : Option Jvm.ClassFile.FieldType) 1 21 0 0 sh sh σ [.ref b] Post := by
  show AW l yX2_init cX2_init 1 (none : Option Jvm.ClassFile.FieldType) 1 21 0 0 sh Post sh 0 0 σ 0 [some (.ref b)] []
  refine a_ald0 eX2_init_0 ?_
  refine a_oi eX2_init_1 lk_X2_3 rfl rfl ?_
  refine a_vret eX2_init_4 rfl rfl ⟨Nat.zero_le _, Nat.zero_le _⟩ ?_
  exact hk
