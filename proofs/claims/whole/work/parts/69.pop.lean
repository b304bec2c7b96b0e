/-! ===== how many bits: the machine's own count ===== -/
def bc1 (x : Nat) : Nat := x - (x / 2 &&& 1431655765)
def bc2 (x : Nat) : Nat := (x &&& 858993459) + (x / 4 &&& 858993459)
def bc3 (x : Nat) : Nat := (x + x / 16) &&& 252645135
def bc4 (x : Nat) : Nat := x + x / 256
def bc5 (x : Nat) : Nat := x + x / 65536
def bcF (x : Nat) : Nat := bc5 (bc4 (bc3 (bc2 (bc1 x)))) &&& 63
def bcAll : Nat → Nat → Nat → Bool
  | 0, x, p => Nat.beq (bcF x) p
  | k + 1, x, p => and (bcAll k (2 * x) p) (bcAll k (2 * x + 1) (p + 1))
theorem bc_chk : bcAll 16 0 0 = true := by decide +kernel
/-- how many of the lowest k bits -/
def popN (x : Nat) : Nat → Nat
  | 0 => 0
  | k + 1 => popN x k + x / 2 ^ k % 2
def pop (x : Nat) : Nat := popN x 16
theorem popN_hi (x : Nat) : ∀ k : Nat, popN x (k + 1) = x % 2 + popN (x / 2) k
  | 0 => by show 0 + x / 2 ^ 0 % 2 = x % 2 + 0; rw [Nat.pow_zero, Nat.div_one]; omega
  | k + 1 => by
    show popN x (k + 1) + x / 2 ^ (k + 1) % 2 = x % 2 + (popN (x / 2) k + x / 2 / 2 ^ k % 2)
    rw [popN_hi x k, Nat.pow_succ, Nat.mul_comm (2 ^ k) 2, ← Nat.div_div_eq_div_mul]
    omega
/-- the count of the bits of y above the lowest k, and of those -/
theorem popN_split (x : Nat) : ∀ k j : Nat, popN x (k + j) = popN x k + popN (x / 2 ^ k) j
  | 0, j => by rw [Nat.zero_add, Nat.pow_zero, Nat.div_one]; show _ = 0 + _; omega
  | k + 1, j => by
    rw [show k + 1 + j = (k + j) + 1 by omega, popN_hi x (k + j), popN_hi x k, popN_split (x / 2) k j, Nat.pow_succ, Nat.mul_comm (2 ^ k) 2, ← Nat.div_div_eq_div_mul]
    omega
theorem bcAll_ok : ∀ (k x p : Nat), bcAll k x p = true → ∀ y : Nat, y / 2 ^ k = x → bcF y = p + popN y k
  | 0, x, p, h, y, hy => by
    rw [Nat.pow_zero, Nat.div_one] at hy
    subst hy
    exact Nat.eq_of_beq_eq_true h
  | k + 1, x, p, h, y, hy => by
    have h2 : bcAll k (2 * x) p = true ∧ bcAll k (2 * x + 1) (p + 1) = true := by
      have h3 : and (bcAll k (2 * x) p) (bcAll k (2 * x + 1) (p + 1)) = true := h
      simpa using h3
    have e : y / 2 ^ k / 2 = x := by rw [Nat.div_div_eq_div_mul, ← Nat.pow_succ]; exact hy
    show bcF y = p + (popN y k + y / 2 ^ k % 2)
    rcases Nat.mod_two_eq_zero_or_one (y / 2 ^ k) with q | q
    · rw [bcAll_ok k (2 * x) p h2.1 y (by omega), q]; omega
    · rw [bcAll_ok k (2 * x + 1) (p + 1) h2.2 y (by omega), q]; omega
theorem bcF_pop {y : Nat} (h : y < 65536) : bcF y = pop y := by
  have := bcAll_ok 16 0 0 bc_chk y (Nat.div_eq_of_lt h)
  unfold pop
  omega
theorem popN_le (x : Nat) : ∀ k : Nat, popN x k ≤ k
  | 0 => Nat.le_refl 0
  | k + 1 => by have := popN_le x k; show popN x k + x / 2 ^ k % 2 ≤ k + 1; omega
theorem jN_and (x y : Nat) : jI (x : Int) &&& jI (y : Int) = jI ((x &&& y : Nat) : Int) := by
  have h := jI_and (x := (x : Int)) (y := (y : Int)) (Int.natCast_nonneg x) (Int.natCast_nonneg y)
  rw [Int.toNat_natCast, Int.toNat_natCast] at h
  exact h
theorem jN_ushr {x k : Nat} (hx : x < 4294967296) (hk : k < 32) : ((jI (x : Int)).toUInt32 >>> ((jI (k : Int)).toUInt32 &&& Int32.toUInt32 31)).toInt32 = jI ((x / 2 ^ k : Nat) : Int) := by
  rw [jN, jN, jN]
  have e1 : (nI x).toUInt32 = UInt32.ofNat x := rfl
  have e2 : (nI k).toUInt32 = UInt32.ofNat k := rfl
  have e3 : nI (x / 2 ^ k) = (UInt32.ofNat (x / 2 ^ k)).toInt32 := rfl
  rw [e1, e2, e3]
  congr 1
  apply UInt32.toNat_inj.mp
  rw [UInt32.toNat_shiftRight, UInt32.toNat_and]
  have h1 : (UInt32.ofNat x).toNat = x := by show x % 2 ^ 32 = x; exact Nat.mod_eq_of_lt hx
  have h2 : (UInt32.ofNat k).toNat = k := by show k % 2 ^ 32 = k; exact Nat.mod_eq_of_lt (by omega)
  have h3 : (UInt32.ofNat (x / 2 ^ k)).toNat = x / 2 ^ k := by show x / 2 ^ k % 2 ^ 32 = x / 2 ^ k; exact Nat.mod_eq_of_lt (Nat.lt_of_le_of_lt (Nat.div_le_self _ _) hx)
  have h4 : (Int32.toUInt32 31).toNat = 31 := rfl
  rw [h1, h2, h3, h4, Nat.shiftRight_eq_div_pow]
  have h5 : k &&& 31 = k := by
    have := Nat.and_two_pow_sub_one_eq_mod k 5
    rw [show (2 ^ 5 - 1 : Nat) = 31 by decide] at this
    rw [this]; exact Nat.mod_eq_of_lt (by omega)
  rw [h5, Nat.mod_eq_of_lt hk]
section AWU
variable {l : Launch} {y : MethodName} {cc : ByteArray} {nL : Nat} {ret : Option FieldType} {F Lo mc ms : Nat} {she : aw_Sh} {Post : Option Value → aw_S → Prop} {sh : aw_Sh} {k n : Nat} {σ : aw_S} {pc nx : Nat} {ls : List (Option Value)} {st : List Value}
theorem a_iushr {x y0 : Int} (v : Int) (hd : aw_d 1 cc pc (.iushr) nx) (hv : ((jI x).toUInt32 >>> ((jI y0).toUInt32 &&& Int32.toUInt32 31)).toInt32 = jI v) (kk : AW l y cc nL ret F Lo mc ms she Post sh k n (σ) nx (ls) (.int (jI v) :: st)) : AW l y cc nL ret F Lo mc ms she Post sh k n (σ) pc (ls) (.int (jI y0) :: .int (jI x) :: st) := by
  obtain ⟨hd1, rfl⟩ := hd
  exact AW.pure (fun p e R s m args below meth c H locs lsA φ Q hx hb kk => lv_iushr hx hb hd1 hv kk) kk
end AWU
theorem bc_le (x y : Nat) : x &&& y ≤ x := Nat.and_le_left
