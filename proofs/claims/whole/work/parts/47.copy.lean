section AWK
variable {l : Launch} {y : MethodName} {cc : ByteArray} {nL : Nat} {ret : Option FieldType} {F Lo mc ms : Nat} {she : aw_Sh} {Post : Option Value → aw_S → Prop} {sh : aw_Sh} {k n : Nat} {σ : aw_S} {pc nx : Nat} {ls : List (Option Value)} {st : List Value}
theorem a_copy {a0 a N0 N1 idx : Nat} {sp dp n0 : Int} (hd : aw_d 3 cc pc (.invokestatic idx) nx) (hl : Cond.methodLink y.cls idx arraycopyName ∈ aw_tbl) (hs0 : sh[a0]? = some (.inr (0, N0))) (hs1 : sh[a]? = some (.inr (0, N1))) (hN : (Nat.ble N0 2147483647 && Nat.ble N1 2147483647) = true) (h : 0 ≤ sp ∧ 0 ≤ dp ∧ 0 ≤ n0 ∧ sp + n0 ≤ (N0 : Int) ∧ dp + n0 ≤ (N1 : Int)) (hrest : Nat.ble ((st.map Value.category).sum) 8 = true) (hF' : (Nat.ble 1 F && Nat.ble 26 Lo && (Nat.ble k mc && Nat.ble n ms)) = true)
    (kk : AW l y cc nL ret F Lo mc ms she Post sh k n (aw_sa σ a (fun j => if dp ≤ j ∧ j < dp + n0 then σ.1 a0 (sp + (j - dp)) else σ.1 a j)) nx (ls) (st)) : AW l y cc nL ret F Lo mc ms she Post sh k n (σ) pc (ls) (.int (jI n0) :: .int (jI dp) :: .ref a :: .int (jI sp) :: .ref a0 :: st) := by
  obtain ⟨hd1, rfl⟩ := hd
  intro B D aC sa sv p e R s m args below meth c H locs lsA C hP hS hL
  obtain ⟨hx, hb, hml, hr, hlk, hnm, hown, hts, hF, hLo, hmc, hms, hK, hBs⟩ := id C
  have hNN := (Bool.and_eq_true _ _).mp hN
  have n1 := Nat.le_of_ble_eq_true hNN.1
  have n2 := Nat.le_of_ble_eq_true hNN.2
  have hFF := (Bool.and_eq_true _ _).mp hF'
  have hF1 := (Bool.and_eq_true _ _).mp hFF.1
  have g1 := Nat.le_of_ble_eq_true hF1.1
  have g2 := Nat.le_of_ble_eq_true hF1.2
  have g5 := aw_restcat (pc := 0) (φ := aw_f B sa) hrest (m := m) (lsA := lsA) (g := [])
  have g6 : ((st.map (aw_m (aw_f B sa))).map fun v => v.category).sum ≤ 8 := Nat.le_trans (Nat.le_add_left _ _) g5
  obtain ⟨-, h0⟩ := hP.2.2.2 a0 _ _ hs0
  obtain ⟨-, h1⟩ := hP.2.2.2 a _ _ hs1
  have e0 : aw_f B sa a0 = B + a0 := aw_f_lt hP.2.1 hs0
  have e1 : aw_f B sa a = B + a := aw_f_lt hP.2.1 hs1
  have c0 : H[B + a0]? = some (vp_cell (aC 0) (N0, .inl (fun j => jI (σ.1 a0 (j : Int))))) := h0
  have c1 : H[B + a]? = some (vp_cell (aC 0) (N1, .inl (fun j => jI (σ.1 a (j : Int))))) := h1
  have t1 : (jI sp).toInt = sp := jI_toInt (by omega) (by omega)
  have t2 : (jI dp).toInt = dp := jI_toInt (by omega) (by omega)
  have t3 : (jI n0).toInt = n0 := jI_toInt (by omega) (by omega)
  have u1 : (jI sp).toNatClampNeg = sp.toNat := by show (jI sp).toInt.toNat = _; rw [t1]
  have u2 : (jI dp).toNatClampNeg = dp.toNat := by show (jI dp).toInt.toNat = _; rw [t2]
  have u3 : (jI n0).toNatClampNeg = n0.toNat := by show (jI n0).toInt.toNat = _; rw [t3]
  have z0 : ∀ x : Int, 0 ≤ x → x ≤ 2147483647 → ¬ jI x < 0 := fun x q1 q2 q => by
    have := (jI_lt (a := x) (b := 0) ⟨⟨by omega, by omega⟩, ⟨by omega, by omega⟩⟩).mp q
    omega
  show W p l e R s m args below meth c H locs k n _ (F0 m pc lsA (.int (jI n0) :: .int (jI dp) :: .ref (aw_f B sa a) :: .int (jI sp) :: .ref (aw_f B sa a0) :: st.map (aw_m (aw_f B sa))))
  rw [e0, e1]
  intro T hT X
  obtain ⟨-, k0, hk0, cm0, hkk0⟩ := (hK.2.1 0 (by decide)).1 N0 (fun j => .int (jI (σ.1 a0 (j : Int))))
  obtain ⟨-, k1, hk1, cm1, hkk1⟩ := (hK.2.1 0 (by decide)).1 N1 (fun j => .int (jI (σ.1 a (j : Int))))
  obtain ⟨vm', X', step⟩ := X.arraycopy hx hown (hts _ hl) (hts _ mm_ac.1) (hts _ mm_ac.2.1) (hts _ mm_ac.2.2) (src := B + a0) (dst := B + a) (cs := vp_cell (aC 0) (N0, .inl (fun j => jI (σ.1 a0 (j : Int))))) (cd := vp_cell (aC 0) (N1, .inl (fun j => jI (σ.1 a (j : Int))))) (srcPos := jI sp) (destPos := jI dp) (n := jI n0) (by rw [hT]; exact c0) (by rw [hT]; exact c1)
    (fun _ h => by cases h) (fun _ h => by cases h) (fun h => by cases h) (fun h => by cases h) hk0 hk1 hkk0 hkk1 rfl (z0 _ (by omega) (by omega)) (z0 _ (by omega) (by omega)) (z0 _ (by omega) (by omega))
    (by rw [t1, t3]; show ¬ _ > ((arrV (aC 0) N0 _).slots.size : Int); rw [arrV_size]; omega)
    (by rw [t2, t3]; show ¬ _ > ((arrV (aC 0) N1 _).slots.size : Int); rw [arrV_size]; omega)
    (fun vm₁ _ i hi => by
      have e : (vp_cell (aC 0) (N0, .inl (fun j => jI (σ.1 a0 (j : Int))))).slots.getD ((jI sp).toNatClampNeg + i) .null = .int (jI (σ.1 a0 (((jI sp).toNatClampNeg + i : Nat) : Int))) := by
        show (arrV (aC 0) N0 (fun j => .int (jI (σ.1 a0 (j : Int))))).slots.getD _ _ = _
        rw [Array.getD_eq_getD_getElem?, arrV_read _ _ (by omega)]
        rfl
      refine ⟨?_, ?_⟩
      · rw [e]; rfl
      · rw [e]; exact trivial)
    (g := F0 m pc lsA (.int (jI n0) :: .int (jI dp) :: .ref (B + a) :: .int (jI sp) :: .ref (B + a0) :: st.map (aw_m (aw_f B sa)))) rfl (by rw [hml]; exact hL.1) (rest := st.map (aw_m (aw_f B sa))) rfl (by rw [hb]; exact hd1) (by omega) (by
      have q : nativeFrameWords "java/lang/System" "arraycopy" 5 = 7 := by decide
      rw [q]
      show 2 * 0 + _ + 18 ≤ _
      omega)
  have e10 : copied (vp_cell (aC 0) (N0, .inl (fun j => jI (σ.1 a0 (j : Int))))) (vp_cell (aC 0) (N1, .inl (fun j => jI (σ.1 a (j : Int))))) (jI sp) (jI dp) (jI n0) = vp_cell (aC 0) (N1, .inl (va_cpy (fun j => jI (σ.1 a0 (j : Int))) (fun j => jI (σ.1 a (j : Int))) (jI sp).toNatClampNeg (jI dp).toNatClampNeg (jI n0).toNatClampNeg)) := va_copied (fun z => Value.int z) (aC 0) (aC 0) (n0 := N0) (n1 := N1) (sp := (jI sp).toNatClampNeg) (dp := (jI dp).toNatClampNeg) (n := (jI n0).toNatClampNeg) (fun j => jI (σ.1 a0 (j : Int))) (fun j => jI (σ.1 a (j : Int))) (by omega)
  rw [e10] at X' step
  have hlt : B + a < H.size := (Array.getElem?_eq_some_iff.mp c1).1
  generalize hnew : vp_cell (aC 0) (N1, .inl (va_cpy (fun j => jI (σ.1 a0 (j : Int))) (fun j => jI (σ.1 a (j : Int))) (jI sp).toNatClampNeg (jI dp).toNatClampNeg (jI n0).toNatClampNeg)) = newc at X' step
  have hheap : ((T.setVm vm').setCell (B + a) newc).heap = H.setIfInBounds (B + a) newc := by rw [← hT]; rfl
  have oq : ∀ q : Nat, q ≠ B + a → (H.setIfInBounds (B + a) newc)[q]? = H[q]? := fun q hq => by simp [Array.getElem?_setIfInBounds, Ne.symm hq]
  have sz : (H.setIfInBounds (B + a) newc).size = H.size := by simp
  have hP2 : aw_Pic B (aw_f B sa) D aC sh (aw_sa σ a (fun j => if dp ≤ j ∧ j < dp + n0 then σ.1 a0 (sp + (j - dp)) else σ.1 a j)) (H.setIfInBounds (B + a) newc) := by
    refine hP.put hs1 sz oq (fun b j t hb9 => ?_) ⟨by decide, ?_⟩
    · unfold aw_cv
      match aw_kd t with
      | 0 => show Value.int _ = Value.int _; rw [rd_sa_ne hb9]
      | 1 => rfl
      | n + 2 => rfl
    · rw [show (H.setIfInBounds (B + a) newc)[B + a]? = some newc by simp [Array.getElem?_setIfInBounds, hlt], ← hnew, vp_cell_i]
      congr 1
      congr 1
      funext j
      show Value.int (va_cpy _ _ _ _ _ j) = Value.int (jI ((aw_sa σ a _).1 a (j : Int)))
      rw [rd_sa_eq, u1, u2, u3]
      unfold va_cpy
      by_cases q : dp.toNat ≤ j ∧ j < dp.toNat + n0.toNat
      · rw [if_pos q, if_pos (by omega)]
        have q3 : (((sp.toNat + (j - dp.toNat)) : Nat) : Int) = sp + ((j : Int) - dp) := by omega
        show Value.int (jI (σ.1 a0 (((sp.toNat + (j - dp.toNat)) : Nat) : Int))) = _
        rw [q3]
      · rw [if_neg q, if_neg (by omega)]
  have hS2 : va_S (fun q => B ≤ q) s.heap (H.setIfInBounds (B + a) newc) (locs ++ ((vp_cell (aC 0) (N0, .inl (fun j => jI (σ.1 a0 (j : Int))))).stretch (jI sp).toNatClampNeg (jI n0).toNatClampNeg).zipIdx.map fun q => ⟨B + a, (jI dp).toNatClampNeg + q.2⟩) := by
    refine ⟨by rw [sz]; exact hS.1, fun q q1 q2 => ?_, fun q hq => ?_⟩
    · rw [oq q (fun e => q2 (by omega))]; exact hS.2.1 q q1 q2
    · rcases List.mem_append.mp hq with h | h
      · exact hS.2.2 q h
      · obtain ⟨z, -, hz⟩ := List.mem_map.mp h
        rw [← hz]
        exact Nat.le_add_right B a
  obtain ⟨t, a1, b1⟩ := kk B D aC sa sv p e R s m args below meth c _ _ lsA C hP2 hS2 hL _ hheap X'
  exact ⟨t, step t a1, b1⟩
end AWK
