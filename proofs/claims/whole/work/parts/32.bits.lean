/-! ===== bits of whole numbers ===== -/
theorem jN (n : Nat) : jI (n : Int) = nI n := Int32.ofInt_eq_ofNat
theorem jI_s31 {k : Int} (h : 0 ≤ k ∧ k < ((32 : Nat) : Int)) : ((jI k &&& 31).toBitVec.smod 32).toNat = k.toNat :=
  aw_fin (P := fun k => ((jI k &&& 31).toBitVec.smod 32).toNat = k.toNat) (by decide) h
theorem jI_shr {x k : Int} (hx : 0 ≤ x ∧ x ≤ 2147483647) (hk : 0 ≤ k ∧ k < ((32 : Nat) : Int)) : jI x >>> (jI k &&& 31) = jI (x / 2 ^ k.toNat) := by
  obtain ⟨n, rfl⟩ := Int.eq_ofNat_of_zero_le hx.1
  have h1 : n < 2 ^ 31 := by omega
  rw [jN, pk_shrN h1 _ _ (jI_s31 hk), ← jN]
  congr 1
theorem jI_shl {x k : Int} (hx : 0 ≤ x) (hk : 0 ≤ k ∧ k < ((32 : Nat) : Int)) (h : x * 2 ^ k.toNat < 4294967296) : jI x <<< (jI k &&& 31) = jI (x * 2 ^ k.toNat) := by
  obtain ⟨n, rfl⟩ := Int.eq_ofNat_of_zero_le hx
  have h1 : n * 2 ^ k.toNat < 2 ^ 32 := by
    have e : ((n * 2 ^ k.toNat : Nat) : Int) = (n : Int) * 2 ^ k.toNat := by
      rw [Int.natCast_mul, Int.natCast_pow]; rfl
    omega
  rw [jN, pk_shlN _ _ (jI_s31 hk) h1, ← jN]
  congr 1
theorem jI_bv (x : Int) : (jI x).toBitVec = BitVec.ofInt 32 x := rfl
theorem jI_bvN (n : Nat) : (jI (n : Int)).toBitVec = BitVec.ofNat 32 n := by
  rw [jN]; rfl
theorem jI_and {x y : Int} (hx : 0 ≤ x) (hy : 0 ≤ y) : jI x &&& jI y = jI ((x.toNat &&& y.toNat : Nat) : Int) := by
  obtain ⟨n, rfl⟩ := Int.eq_ofNat_of_zero_le hx
  obtain ⟨m, rfl⟩ := Int.eq_ofNat_of_zero_le hy
  apply Int32.toBitVec_inj.mp
  rw [Int32.toBitVec_and, jI_bvN, jI_bvN, jI_bvN, BitVec.ofNat_and]
  rfl
theorem jI_or {x y : Int} (hx : 0 ≤ x) (hy : 0 ≤ y) : jI x ||| jI y = jI ((x.toNat ||| y.toNat : Nat) : Int) := by
  obtain ⟨n, rfl⟩ := Int.eq_ofNat_of_zero_le hx
  obtain ⟨m, rfl⟩ := Int.eq_ofNat_of_zero_le hy
  apply Int32.toBitVec_inj.mp
  rw [Int32.toBitVec_or, jI_bvN, jI_bvN, jI_bvN, BitVec.ofNat_or]
  rfl
theorem jI_xor {x y : Int} (hx : 0 ≤ x) (hy : 0 ≤ y) : jI x ^^^ jI y = jI ((x.toNat ^^^ y.toNat : Nat) : Int) := by
  obtain ⟨n, rfl⟩ := Int.eq_ofNat_of_zero_le hx
  obtain ⟨m, rfl⟩ := Int.eq_ofNat_of_zero_le hy
  apply Int32.toBitVec_inj.mp
  rw [Int32.toBitVec_xor, jI_bvN, jI_bvN, jI_bvN, BitVec.ofNat_xor]
  rfl
theorem jI_and1 {x : Int} (hx : 0 ≤ x) : jI x &&& jI 1 = jI (x % 2) := by
  rw [jI_and hx (by decide)]
  congr 1
  obtain ⟨n, rfl⟩ := Int.eq_ofNat_of_zero_le hx
  show ((n &&& 1 : Nat) : Int) = _
  rw [Nat.and_one_is_mod]
  rfl
/-- and-not, as the bits that are in the first alone -/
theorem jI_andnot {x y : Int} (hx : 0 ≤ x) (hy : 0 ≤ y) : jI x &&& (jI y ^^^ jI (-1)) = jI ((x.toNat &&& (x.toNat ^^^ y.toNat) : Nat) : Int) := by
  obtain ⟨n, rfl⟩ := Int.eq_ofNat_of_zero_le hx
  obtain ⟨m, rfl⟩ := Int.eq_ofNat_of_zero_le hy
  apply Int32.toBitVec_inj.mp
  rw [Int32.toBitVec_and, Int32.toBitVec_xor, jI_bvN, jI_bvN, jI_bvN, BitVec.ofNat_and, BitVec.ofNat_xor]
  have e1 : (jI (-1)).toBitVec = BitVec.allOnes 32 := by decide
  rw [e1]
  show BitVec.ofNat 32 n &&& (BitVec.ofNat 32 m ^^^ BitVec.allOnes 32) = BitVec.ofNat 32 n &&& (BitVec.ofNat 32 n ^^^ BitVec.ofNat 32 m)
  generalize BitVec.ofNat 32 n = a
  generalize BitVec.ofNat 32 m = b
  ext i hi
  simp only [BitVec.getElem_and, BitVec.getElem_xor, BitVec.getElem_allOnes]
  cases a[i] <;> cases b[i] <;> rfl
theorem bt_div (n k : Nat) : (n.testBit k = true) ↔ ((n : Int) / 2 ^ k) % 2 = 1 := by
  rw [Nat.testBit_eq_decide_div_mod_eq, decide_eq_true_iff]
  have e : ((n : Int) / 2 ^ k) % 2 = ((n / 2 ^ k % 2 : Nat) : Int) := by
    rw [Int.natCast_emod, Int.natCast_ediv, Int.natCast_pow]
    rfl
  rw [e]
  omega
theorem bt_or_pow (B k j : Nat) : (B ||| 2 ^ k).testBit j = (B.testBit j || decide (j = k)) := by
  rw [Nat.testBit_or, Nat.testBit_two_pow]
  congr 1
  by_cases h : j = k
  · subst h; simp
  · simp [h, Ne.symm h]
theorem nz_of_bit {n k : Nat} (h : n.testBit k = true) : n ≠ 0 := fun e => by
  subst e
  simp at h
theorem bit_of_nz {n : Nat} (h : n ≠ 0) : ∃ k, n.testBit k = true := Nat.exists_testBit_of_ne_zero h
/-! ===== a row changed as a whole ===== -/
def aw_sa (σ : aw_S) (a : Nat) (g : Int → Int) : aw_S := (fun b j => if b = a then g j else σ.1 b j, σ.2.1, σ.2.2)
theorem rd_sa {σ : aw_S} {a b : Nat} {g : Int → Int} {j : Int} : (aw_sa σ a g).1 b j = if b = a then g j else σ.1 b j := rfl
theorem rd_sa_eq {σ : aw_S} {a : Nat} {g : Int → Int} {j : Int} : (aw_sa σ a g).1 a j = g j := if_pos rfl
theorem rd_sa_ne {σ : aw_S} {a b : Nat} {g : Int → Int} {j : Int} (h : b ≠ a) : (aw_sa σ a g).1 b j = σ.1 b j := if_neg h
theorem aw_sa_self (σ : aw_S) (a : Nat) {g : Int → Int} (h : ∀ j, g j = σ.1 a j) : aw_sa σ a g = σ := by
  unfold aw_sa
  refine Prod.ext ?_ rfl
  funext b j
  show (if b = a then g j else σ.1 b j) = σ.1 b j
  split
  · next e => subst e; exact h j
  · rfl
theorem aw_si_sa (σ : aw_S) (a : Nat) (g : Int → Int) (i v : Int) : aw_si (aw_sa σ a g) a i v = aw_sa σ a (fun j => if j = i then v else g j) := by
  unfold aw_si aw_sa
  refine Prod.ext ?_ rfl
  funext b j
  show (if b = a ∧ j = i then v else (if b = a then g j else σ.1 b j)) = if b = a then (if j = i then v else g j) else σ.1 b j
  by_cases h : b = a <;> by_cases h2 : j = i <;> simp [h, h2]
theorem aw_si_row (σ : aw_S) (a : Nat) (i v : Int) : aw_si σ a i v = aw_sa σ a (fun j => if j = i then v else σ.1 a j) := by
  unfold aw_si aw_sa
  refine Prod.ext ?_ rfl
  funext b j
  show (if b = a ∧ j = i then v else σ.1 b j) = if b = a then (if j = i then v else σ.1 a j) else σ.1 b j
  by_cases h : b = a <;> by_cases h2 : j = i <;> simp [h, h2]
theorem aw_sa_congr {σ : aw_S} {a : Nat} {g g' : Int → Int} (h : ∀ j, g j = g' j) : aw_sa σ a g = aw_sa σ a g' := by
  rw [show g = g' from funext h]
theorem aw_sa_sa (σ : aw_S) (a : Nat) (g g' : Int → Int) : aw_sa (aw_sa σ a g) a g' = aw_sa σ a g' := by
  unfold aw_sa
  refine Prod.ext ?_ rfl
  funext b j
  show (if b = a then g' j else (if b = a then g j else σ.1 b j)) = if b = a then g' j else σ.1 b j
  by_cases h : b = a <;> simp [h]
theorem aw_ret {Post : Option Value → aw_S → Prop} {σ : aw_S} {x y : Int} (hk : Post (some (.int (jI x))) σ) (h : y = x) : Post (some (.int (jI y))) σ := h ▸ hk
theorem aw_rets {Post : Option Value → aw_S → Prop} {r : Option Value} {σ σ' : aw_S} (hk : Post r σ) (h : σ' = σ) : Post r σ' := h ▸ hk
theorem AW.st {l : Launch} {y : MethodName} {cc : ByteArray} {nL : Nat} {ret : Option FieldType} {F Lo mc ms : Nat} {she : aw_Sh} {Post : Option Value → aw_S → Prop} {sh : aw_Sh} {k n : Nat} {σ σ' : aw_S} {pc : Nat} {ls : List (Option Value)} {st : List Value} (h : σ = σ') (kk : AW l y cc nL ret F Lo mc ms she Post sh k n σ' pc ls st) : AW l y cc nL ret F Lo mc ms she Post sh k n σ pc ls st := h ▸ kk
