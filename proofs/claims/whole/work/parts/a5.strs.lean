/-! ===== the words of the text, constants ===== -/
set_option maxRecDepth 100000 in
theorem fs_9 : Cond.fieldLink RJ0 9 "java/lang/String" "value" "[B" ∈ aw_tbl := aw_in7 105 (by decide +kernel) rfl
set_option maxRecDepth 100000 in
theorem fs_15 : Cond.fieldLink RJ0 15 "java/lang/String" "coder" "B" ∈ aw_tbl := aw_in7 106 (by decide +kernel) rfl
set_option maxRecDepth 100000 in
theorem fs_38 : Cond.fieldLink RJ0 38 "java/lang/String" "COMPACT_STRINGS" "Z" ∈ aw_tbl := aw_in3 6 (by decide +kernel) rfl
set_option maxRecDepth 100000 in
theorem fs_1053 : Cond.fieldLink RJ0 1053 "jdk/internal/util/Preconditions" "SIOOBE_FORMATTER" "Ljava/util/function/BiFunction;" ∈ aw_tbl := aw_in3 22 (by decide +kernel) rfl
theorem eJ0_checkIndex_df160_0 : aw_d 1 cJ0_checkIndex_df160 0 (.iload_n 0) 1 := ⟨by decide +kernel, rfl⟩
theorem eJ0_checkIndex_df160_1 : aw_d 1 cJ0_checkIndex_df160 1 (.iload_n 1) 2 := ⟨by decide +kernel, rfl⟩
theorem eJ0_checkIndex_df160_2 : aw_d 3 cJ0_checkIndex_df160 2 (.getstatic 1053) 5 := ⟨by decide +kernel, rfl⟩
theorem eJ0_checkIndex_df160_5 : aw_d 3 cJ0_checkIndex_df160 5 (.invokestatic 1059) 8 := ⟨by decide +kernel, rfl⟩
theorem eJ0_checkIndex_df160_8 : aw_d 1 cJ0_checkIndex_df160 8 (.pop) 9 := ⟨by decide +kernel, rfl⟩
theorem eJ0_checkIndex_df160_9 : aw_d 1 cJ0_checkIndex_df160 9 (.return_) 10 := ⟨by decide +kernel, rfl⟩
theorem eJ3_checkIndex_8e157_0 : aw_d 1 cJ3_checkIndex_8e157 0 (.iload_n 0) 1 := ⟨by decide +kernel, rfl⟩
theorem eJ3_checkIndex_8e157_1 : aw_d 3 cJ3_checkIndex_8e157 1 (.ifCond .lt 8) 4 := ⟨by decide +kernel, rfl⟩
theorem eJ3_checkIndex_8e157_4 : aw_d 1 cJ3_checkIndex_8e157 4 (.iload_n 0) 5 := ⟨by decide +kernel, rfl⟩
theorem eJ3_checkIndex_8e157_5 : aw_d 1 cJ3_checkIndex_8e157 5 (.iload_n 1) 6 := ⟨by decide +kernel, rfl⟩
theorem eJ3_checkIndex_8e157_6 : aw_d 3 cJ3_checkIndex_8e157 6 (.if_icmp .lt 10) 9 := ⟨by decide +kernel, rfl⟩
theorem eJ3_checkIndex_8e157_16 : aw_d 1 cJ3_checkIndex_8e157 16 (.iload_n 0) 17 := ⟨by decide +kernel, rfl⟩
theorem eJ3_checkIndex_8e157_17 : aw_d 1 cJ3_checkIndex_8e157 17 (.ireturn) 18 := ⟨by decide +kernel, rfl⟩
def aw_sl_ : List Nat := [4, 3, 4, 5, 4]
def aw_byt : List (List Int32) := [[114, 97, 110, 107], [108, 101, 116], [102, 97, 114, 101], [115, 104, 111, 114, 116], [99, 111, 105, 110]]
/-- how long word i is, and its sign j -/
def slen (i : Nat) : Nat := aw_sl_.getD i 0
def sch (i j : Nat) : Int := ((aw_byt.getD i []).getD j 0).toInt
theorem sch_b : ∀ i, i < 5 → ∀ j, j < slen i → (97 ≤ sch i j ∧ sch i j ≤ 122) ∧ (jI (sch i j) &&& jI 255 = jI (sch i j) ∧ ((jI (sch i j)).toUInt32 % 65536).toInt32 = jI (sch i j)) ∧ narrow .char (.int (jI (sch i j))) = .int (jI (sch i j)) := by decide +kernel
theorem slen_b : ∀ i, i < 5 → 3 ≤ slen i ∧ slen i ≤ 5 := by decide +kernel
section AWT
variable {l : Launch} {y : MethodName} {cc : ByteArray} {nL : Nat} {ret : Option FieldType} {F Lo mc ms : Nat} {she : aw_Sh} {Post : Option Value → aw_S → Prop} {sh : aw_Sh} {k n : Nat} {σ : aw_S} {pc nx : Nat} {ls : List (Option Value)} {st : List Value}
variable {y' : MethodName} {cc' : ByteArray} {nL' : Nat} {ret' : Option FieldType} {F' Lo' mc' ms' n' : Nat} {she' : aw_Sh}
theorem aw_fS {B : Nat} {sa : Nat → Nat} (i : Nat) : aw_f B sa (1000000 + i) = sa i := by
  unfold aw_f
  rw [if_neg (by omega), show 1000000 + i - 1000000 = i by omega]
theorem aw_fA {B : Nat} {sa sv : Nat → Nat} (h : ∀ i : Nat, i < 5 → sa (10 + i) = sv i) {i : Nat} (hi : i < 5) : aw_f B sa (1000010 + i) = sv i := by
  unfold aw_f
  rw [if_neg (by omega), show 1000010 + i - 1000000 = 10 + i by omega]
  exact h i hi
theorem a_ldcS {i idx : Nat} {tx : String} (hd : aw_d 2 cc pc (.ldc idx) nx) (hq : (y.cls, idx, tx, i) ∈ aw_strs) (kk : AW l y cc nL ret F Lo mc ms she Post sh k n (σ) nx (ls) (.ref (1000000 + i) :: st)) : AW l y cc nL ret F Lo mc ms she Post sh k n (σ) pc (ls) (st) := by
  obtain ⟨hd1, rfl⟩ := hd
  intro B D aC sa sv p e R s m args below meth c H locs lsA C hP hS hL
  obtain ⟨hx, hb, hml, hr, hlk, hnm, hown, hts, hF, hLo, hmc, hms, hK, hBs⟩ := id C
  refine va_ldcS (tx := tx) (q := sa i) hx hb hown (hK.2.2.1.2.1 _ hq) hd1 ?_
  have h9 := kk B D aC sa sv p e R s m args below meth c H locs lsA C hP hS hL
  have e9 : ((Value.ref (1000000 + i) :: st).map (aw_m (aw_f B sa))) = .ref (sa i) :: st.map (aw_m (aw_f B sa)) := by
    show Value.ref (aw_f B sa (1000000 + i)) :: _ = _
    rw [aw_fS]
  rw [e9] at h9
  exact h9
theorem a_getSv {i : Nat} (hi : i < 5) (hy : y.cls = RJ0) (hd : aw_d 3 cc pc (.getfield 9) nx) (kk : AW l y cc nL ret F Lo mc ms she Post sh k n (σ) nx (ls) (.ref (1000010 + i) :: st)) : AW l y cc nL ret F Lo mc ms she Post sh k n (σ) pc (ls) (.ref (1000000 + i) :: st) := by
  obtain ⟨hd1, rfl⟩ := hd
  intro B D aC sa sv p e R s m args below meth c H locs lsA C hP hS hL
  obtain ⟨hx, hb, hml, hr, hlk, hnm, hown, hts, hF, hLo, hmc, hms, hK, hBs⟩ := id C
  show W p l e R s m args below meth c H locs k n _ (F0 m pc lsA (.ref (aw_f B sa (1000000 + i)) :: st.map (aw_m (aw_f B sa))))
  rw [aw_fS]
  have hl := hts _ fs_9
  rw [← hy] at hl
  refine vk_getf hx hb (hK.2.2.1.1.1 i hi).2.2.1 hS hown hl (fun _ h => h) hd1 ?_
  have h9 := kk B D aC sa sv p e R s m args below meth c H locs lsA C hP hS hL
  have e9 : ((Value.ref (1000010 + i) :: st).map (aw_m (aw_f B sa))) = .ref (sv i) :: st.map (aw_m (aw_f B sa)) := by
    show Value.ref (aw_f B sa (1000010 + i)) :: _ = _
    rw [aw_fA hK.2.2.1.2.2.2.2 hi]
  rw [e9] at h9
  exact h9
theorem a_getSc {i : Nat} (hi : i < 5) (hy : y.cls = RJ0) (hd : aw_d 3 cc pc (.getfield 15) nx) (kk : AW l y cc nL ret F Lo mc ms she Post sh k n (σ) nx (ls) (.int (jI 0) :: st)) : AW l y cc nL ret F Lo mc ms she Post sh k n (σ) pc (ls) (.ref (1000000 + i) :: st) := by
  obtain ⟨hd1, rfl⟩ := hd
  intro B D aC sa sv p e R s m args below meth c H locs lsA C hP hS hL
  obtain ⟨hx, hb, hml, hr, hlk, hnm, hown, hts, hF, hLo, hmc, hms, hK, hBs⟩ := id C
  show W p l e R s m args below meth c H locs k n _ (F0 m pc lsA (.ref (aw_f B sa (1000000 + i)) :: st.map (aw_m (aw_f B sa))))
  rw [aw_fS]
  have hl := hts _ fs_15
  rw [← hy] at hl
  refine vk_getf hx hb (hK.2.2.1.1.1 i hi).2.1 hS hown hl (fun _ h => h) hd1 ?_
  exact kk B D aC sa sv p e R s m args below meth c H locs lsA C hP hS hL
theorem a_gstZ (hy : y.cls = RJ0) (hd : aw_d 3 cc pc (.getstatic 38) nx) (kk : AW l y cc nL ret F Lo mc ms she Post sh k n (σ) nx (ls) (.int (jI 1) :: st)) : AW l y cc nL ret F Lo mc ms she Post sh k n (σ) pc (ls) (st) := by
  obtain ⟨hd1, rfl⟩ := hd
  intro B D aC sa sv p e R s m args below meth c H locs lsA C hP hS hL
  obtain ⟨hx, hb, hml, hr, hlk, hnm, hown, hts, hF, hLo, hmc, hms, hK, hBs⟩ := id C
  have hl := hts _ fs_38
  rw [← hy] at hl
  refine va_gets hx hb hK.2.2.1.2.2.1 hS hown hl (fun _ h => h) hd1 ?_
  exact kk B D aC sa sv p e R s m args below meth c H locs lsA C hP hS hL
theorem a_gstF (hy : y.cls = RJ0) (hd : aw_d 3 cc pc (.getstatic 1053) nx) (kk : ∀ v : Value, (v = .null ∨ v = .ref 1000020) → AW l y cc nL ret F Lo mc ms she Post sh k n (σ) nx (ls) (v :: st)) : AW l y cc nL ret F Lo mc ms she Post sh k n (σ) pc (ls) (st) := by
  obtain ⟨hd1, rfl⟩ := hd
  intro B D aC sa sv p e R s m args below meth c H locs lsA C hP hS hL
  obtain ⟨hx, hb, hml, hr, hlk, hnm, hown, hts, hF, hLo, hmc, hms, hK, hBs⟩ := id C
  have hl := hts _ fs_1053
  rw [← hy] at hl
  rcases hK.2.2.1.2.2.2.1 with hz | hz
  · refine va_gets hx hb hz hS hown hl (fun _ h => h) hd1 ?_
    exact kk .null (Or.inl rfl) B D aC sa sv p e R s m args below meth c H locs lsA C hP hS hL
  · refine va_gets hx hb hz hS hown hl (fun _ h => h) hd1 ?_
    have h9 := kk (.ref 1000020) (Or.inr rfl) B D aC sa sv p e R s m args below meth c H locs lsA C hP hS hL
    exact h9
theorem a_alenS {i : Nat} (hi : i < 5) (hd : aw_d 1 cc pc (.arraylength) nx) (kk : AW l y cc nL ret F Lo mc ms she Post sh k n (σ) nx (ls) (.int (jI (slen i : Int)) :: st)) : AW l y cc nL ret F Lo mc ms she Post sh k n (σ) pc (ls) (.ref (1000010 + i) :: st) := by
  obtain ⟨hd1, rfl⟩ := hd
  intro B D aC sa sv p e R s m args below meth c H locs lsA C hP hS hL
  obtain ⟨hx, hb, hml, hr, hlk, hnm, hown, hts, hF, hLo, hmc, hms, hK, hBs⟩ := id C
  show W p l e R s m args below meth c H locs k n _ (F0 m pc lsA (.ref (aw_f B sa (1000010 + i)) :: st.map (aw_m (aw_f B sa))))
  rw [aw_fA hK.2.2.1.2.2.2.2 hi]
  have h5 : ∀ i, i < 5 → Int32.ofNat (slen i) = jI (slen i : Int) := by decide +kernel
  refine va_tlen hx hb (hK.2.2.1.1.1 i hi).2.2.2 hS (h5 i hi) hd1 ?_
  exact kk B D aC sa sv p e R s m args below meth c H locs lsA C hP hS hL
theorem a_baldS {i j : Nat} (hi : i < 5) (hj : j < slen i) (hd : aw_d 1 cc pc (.baload) nx) (kk : AW l y cc nL ret F Lo mc ms she Post sh k n (σ) nx (ls) (.int (jI (sch i j)) :: st)) : AW l y cc nL ret F Lo mc ms she Post sh k n (σ) pc (ls) (.int (jI (j : Int)) :: .ref (1000010 + i) :: st) := by
  obtain ⟨hd1, rfl⟩ := hd
  intro B D aC sa sv p e R s m args below meth c H locs lsA C hP hS hL
  obtain ⟨hx, hb, hml, hr, hlk, hnm, hown, hts, hF, hLo, hmc, hms, hK, hBs⟩ := id C
  have hs5 := slen_b i hi
  have hin : vp_in (jI (j : Int)) (slen i) := jI_in (i := (j : Int)) (N := slen i) (by omega) (by omega)
  have hcl : (jI (j : Int)).toNatClampNeg = j := (jI_clamp (i := (j : Int)) (N := slen i) (by omega) (by omega)).trans (Int.toNat_natCast j)
  show W p l e R s m args below meth c H locs k n _ (F0 m pc lsA (.int (jI (j : Int)) :: .ref (aw_f B sa (1000010 + i)) :: st.map (aw_m (aw_f B sa))))
  rw [aw_fA hK.2.2.1.2.2.2.2 hi]
  refine va_tb (v := .int (jI (sch i j))) hx hb (hK.2.2.1.1.1 i hi).2.2.2 hS hin (by rw [hcl]; unfold sch; rw [jI_self]; rfl) hd1 ?_
  exact kk B D aC sa sv p e R s m args below meth c H locs lsA C hP hS hL
theorem a_i2c {x : Int} (v : Int) (hd : aw_d 1 cc pc (.i2c) nx) (hv : ((jI x).toUInt32 % 65536).toInt32 = jI v) (kk : AW l y cc nL ret F Lo mc ms she Post sh k n (σ) nx (ls) (.int (jI v) :: st)) : AW l y cc nL ret F Lo mc ms she Post sh k n (σ) pc (ls) (.int (jI x) :: st) := by
  obtain ⟨hd1, rfl⟩ := hd
  exact AW.pure (fun p e R s m args below meth c H locs lsA φ Q hx hb kk => lv_i2c hx hb hd1 hv kk) kk
theorem a_nret {v : Int} {ty : FieldType} (hd : aw_d 1 cc pc (.ireturn) nx) (hrt : ret = some ty) (hv : narrow ty (.int (jI v)) = .int (jI v)) (hsh : sh = she) (hk : k ≤ mc ∧ n ≤ ms) (kk : Post (some (.int (jI v))) σ) : AW l y cc nL ret F Lo mc ms she Post sh k n (σ) pc (ls) ([.int (jI v)]) := by
  obtain ⟨hd1, rfl⟩ := hd
  subst hsh
  intro B D aC sa sv p e R s m args below meth c H locs lsA C hP hS hL
  obtain ⟨hx, hb, hml, hr, hlk, hnm, hown, hts, hF, hLo, hmc, hms, hK, hBs⟩ := id C
  refine W.widen hk.1 hk.2 ?_
  exact W.zret (v := jI v) hx hb (hr.trans hrt) hv (fun t ht hW => ⟨some (.int (jI v)), σ, rfl, kk, by rw [ht]; exact hP, hS.F ht⟩) hS.2.2 hd1 hlk
theorem a_cT0 {i idx : Nat} (hi : i < 5) (hd : aw_d 3 cc pc (.invokevirtual idx) nx) (hl : Cond.methodLink y.cls idx y' ∈ aw_tbl) (hmV : aw_mV y') (hyc : y'.cls = "java/lang/String") (hm : aw_mt y' cc' nL' ret' 0) (hnL : Nat.ble 1 nL' = true) (hrest : Nat.ble ((st.map Value.category).sum) 8 = true) (hF' : (Nat.ble (F' + 1) F && Nat.ble (8 + (nL' + 11) + Lo') Lo) = true) (hA' : (Nat.ble (k + mc') mc && Nat.ble (n + ms') ms) = true) (hE : AE l y' cc' nL' ret' F' Lo' mc' ms' she' sh σ ([.ref (1000000 + i)]) (fun r σ' => AW l y cc nL ret F Lo mc ms she Post she' (k + mc') (n + ms') (σ') nx (ls) (r.toList ++ st))) : AW l y cc nL ret F Lo mc ms she Post sh k n (σ) pc (ls) (.ref (1000000 + i) :: st) := by
  obtain ⟨hd1, hnx⟩ := hd
  intro B D aC sa sv p e R s m args below meth c H locs lsA C hP hS hL
  obtain ⟨hx, hb, hml, hr, hlk, hnm, hown, hts, hF, hLo, hmc, hms, hK, hBs⟩ := id C
  have hFF := (Bool.and_eq_true _ _).mp hF'
  have hAA := (Bool.and_eq_true _ _).mp hA'
  have g1 := Nat.le_of_ble_eq_true hFF.1
  have g2 := Nat.le_of_ble_eq_true hFF.2
  have g3 := Nat.le_of_ble_eq_true hAA.1
  have g4 := Nat.le_of_ble_eq_true hAA.2
  have hM := aw_met (n := 0) hm.2.2.2 (vals := .ref (1000000 + i) :: []) rfl (Nat.le_of_ble_eq_true hnL) hE B D aC sa sv
  refine aw_back (she' := she') (mc' := mc') (ms' := ms') (st := st) C hS hL (by have := hP.1; omega) hnx (a := (Value.ref (aw_f B sa (1000000 + i)) :: [].map (aw_m (aw_f B sa))).toArray) ?_
  have hrc := vk_recv hK.2.2.1.1 hi hS
  rw [← hyc] at hrc
  refine va_runV (As := [].map (aw_m (aw_f B sa))) (b := aw_f B sa (1000000 + i)) (C := y'.cls) ⟨hx, hb, hml, hown, hts⟩ hM ⟨aw_callB hts hm hl (by omega) (by omega), hts _ hmV.1, hts _ hmV.2⟩ ⟨(fun a U g mk q => ⟨q.1, q.2.1, aw_Kn_calling q.2.2⟩), by rw [aw_fS]; exact hrc, (fun U hU hW => ⟨rfl, by rw [hU]; exact hP, aw_Kn_moved hW (fun q h1 h2 => by rw [hU]; exact hS.2.1 q h1 h2) hK⟩)⟩ rfl rfl hL.1 ?_ (aw_restcat hrest) hd1 ⟨by omega, by omega⟩
  rfl
theorem a_cT1 {v1 : Value} {i idx : Nat} (hi : i < 5) (hd : aw_d 3 cc pc (.invokevirtual idx) nx) (hl : Cond.methodLink y.cls idx y' ∈ aw_tbl) (hmV : aw_mV y') (hyc : y'.cls = "java/lang/String") (hm : aw_mt y' cc' nL' ret' 1) (hnL : Nat.ble 2 nL' = true) (c1 : v1.category = 1) (hrest : Nat.ble ((st.map Value.category).sum) 8 = true) (hF' : (Nat.ble (F' + 1) F && Nat.ble (8 + (nL' + 11) + Lo') Lo) = true) (hA' : (Nat.ble (k + mc') mc && Nat.ble (n + ms') ms) = true) (hE : AE l y' cc' nL' ret' F' Lo' mc' ms' she' sh σ ([.ref (1000000 + i), v1]) (fun r σ' => AW l y cc nL ret F Lo mc ms she Post she' (k + mc') (n + ms') (σ') nx (ls) (r.toList ++ st))) : AW l y cc nL ret F Lo mc ms she Post sh k n (σ) pc (ls) (v1 :: .ref (1000000 + i) :: st) := by
  obtain ⟨hd1, hnx⟩ := hd
  intro B D aC sa sv p e R s m args below meth c H locs lsA C hP hS hL
  obtain ⟨hx, hb, hml, hr, hlk, hnm, hown, hts, hF, hLo, hmc, hms, hK, hBs⟩ := id C
  have hFF := (Bool.and_eq_true _ _).mp hF'
  have hAA := (Bool.and_eq_true _ _).mp hA'
  have g1 := Nat.le_of_ble_eq_true hFF.1
  have g2 := Nat.le_of_ble_eq_true hFF.2
  have g3 := Nat.le_of_ble_eq_true hAA.1
  have g4 := Nat.le_of_ble_eq_true hAA.2
  have hM := aw_met (n := 0) hm.2.2.2 (vals := .ref (1000000 + i) :: [v1]) (by rw [List.all_cons, List.all_cons, List.all_nil, c1]; rfl) (Nat.le_of_ble_eq_true hnL) hE B D aC sa sv
  refine aw_back (she' := she') (mc' := mc') (ms' := ms') (st := st) C hS hL (by have := hP.1; omega) hnx (a := (Value.ref (aw_f B sa (1000000 + i)) :: [v1].map (aw_m (aw_f B sa))).toArray) ?_
  have hrc := vk_recv hK.2.2.1.1 hi hS
  rw [← hyc] at hrc
  refine va_runV (As := [v1].map (aw_m (aw_f B sa))) (b := aw_f B sa (1000000 + i)) (C := y'.cls) ⟨hx, hb, hml, hown, hts⟩ hM ⟨aw_callB hts hm hl (by omega) (by omega), hts _ hmV.1, hts _ hmV.2⟩ ⟨(fun a U g mk q => ⟨q.1, q.2.1, aw_Kn_calling q.2.2⟩), by rw [aw_fS]; exact hrc, (fun U hU hW => ⟨rfl, by rw [hU]; exact hP, aw_Kn_moved hW (fun q h1 h2 => by rw [hU]; exact hS.2.1 q h1 h2) hK⟩)⟩ rfl rfl hL.1 ?_ (aw_restcat hrest) hd1 ⟨by omega, by omega⟩
  rfl
end AWT
set_option maxHeartbeats 4000000 in
set_option maxRecDepth 100000 in
theorem c_J0_coder_7d493 {l : Launch} {sh : aw_Sh} {σ : aw_S} {Post : Option Value → aw_S → Prop} {i : Nat} (hi : i < 5) (hk : Post (some (.int (jI 0))) σ) : AE l yJ0_coder_7d493 cJ0_coder_7d493 1 (some .byte) 0 0 0 0 sh sh σ [.ref (1000000 + i)] Post := by
  show AW l yJ0_coder_7d493 cJ0_coder_7d493 1 (some .byte) 0 0 0 0 sh Post sh 0 0 σ 0 [some (.ref (1000000 + i))] []
  refine a_gstZ rfl eJ0_coder_7d493_0 ?_
  refine a_if_eq 13 eJ0_coder_7d493_3 (by decide) (by omega) (fun h => absurd h (by decide)) (fun _ => ?_)
  refine a_ald0 eJ0_coder_7d493_6 ?_
  refine a_getSc hi rfl eJ0_coder_7d493_7 ?_
  refine a_goto 14 eJ0_coder_7d493_10 (by decide) ?_
  refine a_nret eJ0_coder_7d493_14 rfl (by decide) rfl ⟨Nat.zero_le _, Nat.zero_le _⟩ ?_
  exact hk
set_option maxHeartbeats 4000000 in
set_option maxRecDepth 100000 in
theorem c_J0_isLatin1_aae02 {l : Launch} {sh : aw_Sh} {σ : aw_S} {Post : Option Value → aw_S → Prop} {i : Nat} (hi : i < 5) (hk : Post (some (.int (jI 1))) σ) : AE l yJ0_isLatin1_aae02 cJ0_isLatin1_aae02 1 (some .boolean) 0 0 0 0 sh sh σ [.ref (1000000 + i)] Post := by
  show AW l yJ0_isLatin1_aae02 cJ0_isLatin1_aae02 1 (some .boolean) 0 0 0 0 sh Post sh 0 0 σ 0 [some (.ref (1000000 + i))] []
  refine a_gstZ rfl eJ0_isLatin1_aae02_0 ?_
  refine a_if_eq 17 eJ0_isLatin1_aae02_3 (by decide) (by omega) (fun h => absurd h (by decide)) (fun _ => ?_)
  refine a_ald0 eJ0_isLatin1_aae02_6 ?_
  refine a_getSc hi rfl eJ0_isLatin1_aae02_7 ?_
  refine a_if_ne 17 eJ0_isLatin1_aae02_10 (by decide) (by omega) (fun h => absurd h (by decide)) (fun _ => ?_)
  refine a_iconst eJ0_isLatin1_aae02_13 ?_
  refine a_goto 18 eJ0_isLatin1_aae02_14 (by decide) ?_
  refine a_zret eJ0_isLatin1_aae02_18 rfl (Or.inr rfl) rfl ⟨Nat.zero_le _, Nat.zero_le _⟩ ?_
  exact hk
set_option maxHeartbeats 4000000 in
set_option maxRecDepth 100000 in
theorem c_J0_length_8abf5 {l : Launch} {sh : aw_Sh} {σ : aw_S} {Post : Option Value → aw_S → Prop} {i : Nat} (hi : i < 5) (hk : Post (some (.int (jI (slen i : Int)))) σ) : AE l yJ0_length_8abf5 cJ0_length_8abf5 1 (some .int) 1 20 0 0 sh sh σ [.ref (1000000 + i)] Post := by
  show AW l yJ0_length_8abf5 cJ0_length_8abf5 1 (some .int) 1 20 0 0 sh Post sh 0 0 σ 0 [some (.ref (1000000 + i))] []
  refine a_ald0 eJ0_length_8abf5_0 ?_
  refine a_getSv hi rfl eJ0_length_8abf5_1 ?_
  refine a_alenS hi eJ0_length_8abf5_4 ?_
  refine a_ald0 eJ0_length_8abf5_5 ?_
  refine a_cT0 hi eJ0_length_8abf5_6 lk_J0_335 mV_J0_coder_7d493 rfl mt_J0_coder_7d493 rfl rfl rfl rfl (c_J0_coder_7d493 hi ?_)
  dsimp only [Option.toList, List.cons_append, List.nil_append]
  have hsh : ∀ i, i < 5 → jI (slen i : Int) >>> (jI 0 &&& 31) = jI (slen i : Int) := by decide +kernel
  refine a_ishr (slen i : Int) eJ0_length_8abf5_9 (by first | exact hsh i hi | (have h8 : ∀ i, i < 5 → _ = _ := hsh; exact h8 i hi)) ?_
  refine a_iret eJ0_length_8abf5_10 rfl rfl ⟨Nat.zero_le _, Nat.zero_le _⟩ ?_
  exact hk
set_option maxHeartbeats 4000000 in
set_option maxRecDepth 100000 in
theorem c_J3_checkIndex_8e157 {l : Launch} {sh : aw_Sh} {σ : aw_S} {Post : Option Value → aw_S → Prop} {x y0 : Int} {v : Value} (hv : v.category = 1) (hx : 0 ≤ x ∧ x < y0 ∧ y0 ≤ 1000) (hk : Post (some (.int (jI x))) σ) : AE l yJ3_checkIndex_8e157 cJ3_checkIndex_8e157 3 (some .int) 0 0 0 0 sh sh σ [.int (jI x), .int (jI y0), v] Post := by
  show AW l yJ3_checkIndex_8e157 cJ3_checkIndex_8e157 3 (some .int) 0 0 0 0 sh Post sh 0 0 σ 0 [some (.int (jI x)), some (.int (jI y0)), some (v)] []
  refine a_ild0 eJ3_checkIndex_8e157_0 ?_
  refine a_if_lt 9 eJ3_checkIndex_8e157_1 (by decide) (by omega) (fun h => absurd h (by omega)) (fun _ => ?_)
  refine a_ild0 eJ3_checkIndex_8e157_4 ?_
  refine a_ild1 eJ3_checkIndex_8e157_5 ?_
  refine a_icmp_lt 16 eJ3_checkIndex_8e157_6 (by decide) (by omega) (fun _ => ?_) (fun h => absurd hx.2.1 (by omega))
  refine a_ild0 eJ3_checkIndex_8e157_16 ?_
  refine a_iret eJ3_checkIndex_8e157_17 rfl rfl ⟨Nat.zero_le _, Nat.zero_le _⟩ ?_
  exact hk
set_option maxHeartbeats 4000000 in
set_option maxRecDepth 100000 in
theorem c_J0_checkIndex_df160 {l : Launch} {sh : aw_Sh} {σ : aw_S} {Post : Option Value → aw_S → Prop} {x y0 : Int} (hx : 0 ≤ x ∧ x < y0 ∧ y0 ≤ 1000) (hk : Post none σ) : AE l yJ0_checkIndex_df160 cJ0_checkIndex_df160 2 (none : Option Jvm.ClassFile.FieldType) 1 22 0 0 sh sh σ [.int (jI x), .int (jI y0)] Post := by
  show AW l yJ0_checkIndex_df160 cJ0_checkIndex_df160 2 (none : Option Jvm.ClassFile.FieldType) 1 22 0 0 sh Post sh 0 0 σ 0 [some (.int (jI x)), some (.int (jI y0))] []
  refine a_ild0 eJ0_checkIndex_df160_0 ?_
  refine a_ild1 eJ0_checkIndex_df160_1 ?_
  refine a_gstF rfl eJ0_checkIndex_df160_2 (fun v hv => ?_)
  have hc : v.category = 1 := by rcases hv with rfl | rfl <;> rfl
  refine a_cS3 eJ0_checkIndex_df160_5 lk_J0_1059 mS_J3_checkIndex_8e157 mt_J3_checkIndex_8e157 rfl rfl rfl hc rfl rfl rfl (c_J3_checkIndex_8e157 hc hx ?_)
  dsimp only [Option.toList, List.cons_append, List.nil_append]
  refine a_pop eJ0_checkIndex_df160_8 rfl ?_
  refine a_vret eJ0_checkIndex_df160_9 rfl rfl ⟨Nat.zero_le _, Nat.zero_le _⟩ ?_
  exact hk
set_option maxHeartbeats 4000000 in
set_option maxRecDepth 100000 in
theorem c_J1_charAt_3b067 {l : Launch} {sh : aw_Sh} {σ : aw_S} {Post : Option Value → aw_S → Prop} {i j : Nat} (hi : i < 5) (hj : j < slen i) (hk : Post (some (.int (jI (sch i j)))) σ) : AE l yJ1_charAt_3b067 cJ1_charAt_3b067 2 (some .char) 2 43 0 0 sh sh σ [.ref (1000010 + i), .int (jI (j : Int))] Post := by
  show AW l yJ1_charAt_3b067 cJ1_charAt_3b067 2 (some .char) 2 43 0 0 sh Post sh 0 0 σ 0 [some (.ref (1000010 + i)), some (.int (jI (j : Int)))] []
  have hs5 := slen_b i hi
  have hb := sch_b i hi j hj
  refine a_ild1 eJ1_charAt_3b067_0 ?_
  refine a_ald0 eJ1_charAt_3b067_1 ?_
  refine a_alenS hi eJ1_charAt_3b067_2 ?_
  refine a_cS2 eJ1_charAt_3b067_3 lk_J1_9 mS_J0_checkIndex_df160 mt_J0_checkIndex_df160 rfl rfl rfl rfl rfl rfl (c_J0_checkIndex_df160 (by omega) ?_)
  dsimp only [Option.toList, List.cons_append, List.nil_append]
  refine a_ald0 eJ1_charAt_3b067_6 ?_
  refine a_ild1 eJ1_charAt_3b067_7 ?_
  refine a_baldS hi hj eJ1_charAt_3b067_8 ?_
  refine a_sipush eJ1_charAt_3b067_9 (by decide) ?_
  refine a_iand (sch i j) eJ1_charAt_3b067_12 hb.2.1.1 ?_
  refine a_i2c (sch i j) eJ1_charAt_3b067_13 hb.2.1.2 ?_
  refine a_nret eJ1_charAt_3b067_14 rfl hb.2.2 rfl ⟨Nat.zero_le _, Nat.zero_le _⟩ ?_
  exact hk
set_option maxHeartbeats 4000000 in
set_option maxRecDepth 100000 in
theorem c_J0_charAt_5068e {l : Launch} {sh : aw_Sh} {σ : aw_S} {Post : Option Value → aw_S → Prop} {i j : Nat} (hi : i < 5) (hj : j < slen i) (hk : Post (some (.int (jI (sch i j)))) σ) : AE l yJ0_charAt_5068e cJ0_charAt_5068e 2 (some .char) 4 85 0 0 sh sh σ [.ref (1000000 + i), .int (jI (j : Int))] Post := by
  show AW l yJ0_charAt_5068e cJ0_charAt_5068e 2 (some .char) 4 85 0 0 sh Post sh 0 0 σ 0 [some (.ref (1000000 + i)), some (.int (jI (j : Int)))] []
  have hb := sch_b i hi j hj
  refine a_ald0 eJ0_charAt_5068e_0 ?_
  refine a_cT0 hi eJ0_charAt_5068e_1 lk_J0_492 mV_J0_isLatin1_aae02 rfl mt_J0_isLatin1_aae02 rfl rfl rfl rfl (c_J0_isLatin1_aae02 hi ?_)
  dsimp only [Option.toList, List.cons_append, List.nil_append]
  refine a_if_eq 16 eJ0_charAt_5068e_4 (by decide) (by omega) (fun h => absurd h (by decide)) (fun _ => ?_)
  refine a_ald0 eJ0_charAt_5068e_7 ?_
  refine a_getSv hi rfl eJ0_charAt_5068e_8 ?_
  refine a_ild1 eJ0_charAt_5068e_11 ?_
  refine a_cS2 eJ0_charAt_5068e_12 lk_J0_495 mS_J1_charAt_3b067 mt_J1_charAt_3b067 rfl rfl rfl rfl rfl rfl (c_J1_charAt_3b067 hi hj ?_)
  dsimp only [Option.toList, List.cons_append, List.nil_append]
  refine a_nret eJ0_charAt_5068e_15 rfl hb.2.2 rfl ⟨Nat.zero_le _, Nat.zero_le _⟩ ?_
  exact hk
