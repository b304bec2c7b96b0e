section AWC
variable {l : Launch} {y : MethodName} {cc : ByteArray} {nL : Nat} {ret : Option FieldType} {F Lo mc ms : Nat} {she : aw_Sh} {Post : Option Value → aw_S → Prop} {sh : aw_Sh} {k n : Nat} {σ : aw_S} {pc nx : Nat} {ls : List (Option Value)} {st : List Value}
variable {y' : MethodName} {cc' : ByteArray} {nL' : Nat} {ret' : Option FieldType} {F' Lo' mc' ms' n' : Nat} {she' : aw_Sh}
theorem aw_restcat {φ : Nat → Nat} (h : Nat.ble ((st.map Value.category).sum) 8 = true) {m : MethodId} {lsA : Array Slot} {g : List Value} : 2 * (F0 m pc lsA g).monitorRoom + ((st.map (aw_m φ)).map fun v => v.category).sum ≤ 8 := by
  have e : ((st.map (aw_m φ)).map fun v => v.category) = st.map Value.category := by
    rw [List.map_map]
    apply List.map_congr_left
    intro v _
    exact aw_m_cat φ v
  rw [e]
  have := Nat.le_of_ble_eq_true h
  show 2 * 0 + _ ≤ 8
  omega
theorem aw_back {B : Nat} {D : va_G} {aC : Nat → ClassId} {sa sv : Nat → Nat} {p : Program} {e : Env} {R : Room} {s : State} {m : MethodId} {args : Array Value} {below : List Frame} {meth : Method} {c : Code} {H : Heap} {locs : List Loc} {lsA : Array Slot} {st0 : List Value} {a : Array Value}
    (C : aw_Ctx y cc nL ret F Lo mc ms B D aC sa sv p R s m args meth c) (hS : va_S (fun q => B ≤ q) s.heap H locs) (hL : lv_has lsA nL (aw_lv (aw_f B sa) 0 ls)) (hB : B ≤ H.size) (hnx : pc + 3 = nx)
    (hrun : va_Run p l e R s m args below meth c H locs k n mc' ms' (F0 m pc lsA st0) (st.map (aw_m (aw_f B sa))) (aw_Q B D aC sa she' (fun r σ' => AW l y cc nL ret F Lo mc ms she Post she' (k + mc') (n + ms') (σ') nx (ls) (r.toList ++ st)) a) (fun q => B ≤ q)) :
    W p l e R s m args below meth c H locs k n (MQ below (aw_Q B D aC sa she Post) args s mc ms (fun q => B ≤ q)) (F0 m pc lsA st0) := by
  intro T hT X
  obtain ⟨v, st₀, t, T', L, h0, X', hLo, e1, e2, ⟨r, σ', hv, hk, hP', hz, hq⟩, go⟩ := hrun T hT X
  rw [h0] at hz hq
  have hS' : va_S (fun q => B ≤ q) s.heap T'.heap (locs ++ L) := by
    refine ⟨Nat.le_trans hS.1 (by rw [e1]; exact hz), fun q h1 h2 => ?_, fun q hq' => ?_⟩
    · rw [e1, hq q (Nat.lt_of_lt_of_le h1 hS.1) h2]; exact hS.2.1 q h1 h2
    · rcases List.mem_append.mp hq' with h | h
      · exact hS.2.2 q h
      · exact hLo q h
  obtain ⟨t2, a1, b1⟩ := hk B D aC sa sv p e R s m args below meth c T'.heap (locs ++ L) lsA C (by rw [e1]; exact hP') hS' hL T' rfl X'
  refine ⟨t2, go t2 ?_, b1⟩
  have hv2 : v = r.map (aw_m (aw_f B sa)) := by
    injection hv
  subst hv2
  subst hnx
  have e3 : ((r.toList ++ st).map (aw_m (aw_f B sa))) = (r.map (aw_m (aw_f B sa))).toList ++ st.map (aw_m (aw_f B sa)) := by
    cases r <;> rfl
  rw [e3] at a1
  exact a1
theorem aw_callB {R : Room} {s : State} {args : Array Value} {own : String} {idx : Nat} (hts : ∀ w ∈ aw_tbl, w.before args s = true) (hm : aw_mt y' cc' nL' ret' n') (hl : Cond.methodLink own idx y' ∈ aw_tbl) (h1 : F' + 1 ≤ R.frames) (h2 : 8 + (nL' + 11) + Lo' ≤ R.locals) :
    CallB R s args own idx y' cc' nL' ret' (Cond.code y' cc' nL' ret' :: aw_tbl) ({ frames := F', cells := mc', slots := ms', locals := Lo' }) mc' ms' n' :=
  callB_of n' hts (aw_goodIn hm.2.1) rfl rfl rfl (hts _ hm.1) (hts _ hl) hm.2.2.1 ⟨h1, h2⟩
theorem a_callV {vals : List Value} {b ci idx : Nat} (hd : aw_d 3 cc pc (.invokevirtual idx) nx) (hl : Cond.methodLink y.cls idx y' ∈ aw_tbl) (hmV : aw_mV y') (hs : sh[b]? = some (.inl ci)) (hci : ∃ q : vw_C, vwCl[ci]? = some q ∧ q.1 = y'.cls) (hm : aw_mt y' cc' nL' ret' n') (hn : vals.length = n') (hnL : Nat.ble (vals.length + 1) nL' = true) (hcat : vals.all (fun v => v.category == 1) = true) (hrest : Nat.ble ((st.map Value.category).sum) 8 = true) (hF' : (Nat.ble (F' + 1) F && Nat.ble (8 + (nL' + 11) + Lo') Lo) = true) (hA' : (Nat.ble (k + mc') mc && Nat.ble (n + ms') ms) = true) (hE : AE l y' cc' nL' ret' F' Lo' mc' ms' she' sh σ (.ref b :: vals) (fun r σ' => AW l y cc nL ret F Lo mc ms she Post she' (k + mc') (n + ms') (σ') nx (ls) (r.toList ++ st))) : AW l y cc nL ret F Lo mc ms she Post sh k n (σ) pc (ls) (vals.reverse ++ (.ref b :: st)) := by
  obtain ⟨hd1, hnx⟩ := hd
  intro B D aC sa sv p e R s m args below meth c H locs lsA C hP hS hL
  obtain ⟨hx, hb, hml, hr, hlk, hnm, hown, hts, hF, hLo, hmc, hms, hK, hBs⟩ := id C
  have hFF := (Bool.and_eq_true _ _).mp hF'
  have hAA := (Bool.and_eq_true _ _).mp hA'
  have g1 := Nat.le_of_ble_eq_true hFF.1
  have g2 := Nat.le_of_ble_eq_true hFF.2
  have g3 := Nat.le_of_ble_eq_true hAA.1
  have g4 := Nat.le_of_ble_eq_true hAA.2
  have e1 : aw_f B sa b = B + b := aw_f_lt hP.2.1 hs
  have hM := aw_met (n := 0) hm.2.2.2 (vals := .ref b :: vals) (by rw [List.all_cons, hcat]; rfl) (Nat.le_of_ble_eq_true hnL) hE B D aC sa sv
  obtain ⟨q, hq, hqc⟩ := hci
  obtain ⟨r, hr1, cell, q1, q2, q3, q4⟩ := hP.2.2.1 b ci hs
  have e0 : r = q := Option.some.inj (hr1.symm.trans hq)
  subst e0
  obtain ⟨hSl, hfc, kC, hkC, hkind⟩ := hK.1 ci _ hq
  refine aw_back (she' := she') (mc' := mc') (ms' := ms') (st := st) C hS hL (by have := hP.1; omega) hnx (a := (Value.ref (aw_f B sa b) :: vals.map (aw_m (aw_f B sa))).toArray) ?_
  refine va_runV (As := vals.map (aw_m (aw_f B sa))) (b := aw_f B sa b) (C := y'.cls) ⟨hx, hb, hml, hown, hts⟩ hM ⟨aw_callB hts hm hl (by omega) (by omega), hts _ hmV.1, hts _ hmV.2⟩ ⟨(fun a U g mk q => ⟨q.1, q.2.1, aw_Kn_calling q.2.2⟩), ⟨cell, by rw [e1]; exact q1, by rw [q3]; rfl, by rw [q2, ← hqc]; exact hfc⟩, (fun U hU hW => ⟨rfl, by rw [hU]; exact hP, aw_Kn_moved hW (fun q h1 h2 => by rw [hU]; exact hS.2.1 q h1 h2) hK⟩)⟩ rfl (by rw [List.length_map]; exact hn) hL.1 ?_ (aw_restcat hrest) hd1 ⟨by omega, by omega⟩
  show List.map _ _ = _
  rw [List.map_append, List.map_reverse]
  rfl
theorem a_callS {vals : List Value} {idx : Nat} (hd : aw_d 3 cc pc (.invokestatic idx) nx) (hl : Cond.methodLink y.cls idx y' ∈ aw_tbl) (hmS : aw_mS y') (hm : aw_mt y' cc' nL' ret' n') (hn : vals.length = n') (hnL : Nat.ble (vals.length) nL' = true) (hcat : vals.all (fun v => v.category == 1) = true) (hrest : Nat.ble ((st.map Value.category).sum) 8 = true) (hF' : (Nat.ble (F' + 1) F && Nat.ble (8 + (nL' + 11) + Lo') Lo) = true) (hA' : (Nat.ble (k + mc') mc && Nat.ble (n + ms') ms) = true) (hE : AE l y' cc' nL' ret' F' Lo' mc' ms' she' sh σ (vals) (fun r σ' => AW l y cc nL ret F Lo mc ms she Post she' (k + mc') (n + ms') (σ') nx (ls) (r.toList ++ st))) : AW l y cc nL ret F Lo mc ms she Post sh k n (σ) pc (ls) (vals.reverse ++ st) := by
  obtain ⟨hd1, hnx⟩ := hd
  intro B D aC sa sv p e R s m args below meth c H locs lsA C hP hS hL
  obtain ⟨hx, hb, hml, hr, hlk, hnm, hown, hts, hF, hLo, hmc, hms, hK, hBs⟩ := id C
  have hFF := (Bool.and_eq_true _ _).mp hF'
  have hAA := (Bool.and_eq_true _ _).mp hA'
  have g1 := Nat.le_of_ble_eq_true hFF.1
  have g2 := Nat.le_of_ble_eq_true hFF.2
  have g3 := Nat.le_of_ble_eq_true hAA.1
  have g4 := Nat.le_of_ble_eq_true hAA.2
  have hM := aw_met (n := 0) hm.2.2.2 (vals := vals) hcat (Nat.le_of_ble_eq_true hnL) hE B D aC sa sv
  refine aw_back (she' := she') (mc' := mc') (ms' := ms') (st := st) C hS hL (by have := hP.1; omega) hnx (a := (vals.map (aw_m (aw_f B sa))).toArray) ?_
  refine va_runS (As := vals.map (aw_m (aw_f B sa))) ⟨hx, hb, hml, hown, hts⟩ hM ⟨aw_callB hts hm hl (by omega) (by omega), hts _ hmS⟩ ⟨(fun a U g mk q => ⟨q.1, q.2.1, aw_Kn_calling q.2.2⟩), (fun U hU hW => ⟨rfl, by rw [hU]; exact hP, aw_Kn_moved hW (fun q h1 h2 => by rw [hU]; exact hS.2.1 q h1 h2) hK⟩)⟩ rfl (by rw [List.length_map]; exact hn) hL.1 ?_ (aw_restcat hrest) hd1 ⟨by omega, by omega⟩
  show List.map _ _ = _
  rw [List.map_append, List.map_reverse]
theorem a_callSN {vals : List Value} {idx : Nat} {host : String} (hd : aw_d 3 cc pc (.invokestatic idx) nx) (hl : (y.cls, idx, y', host) ∈ aw_nest) (hmS : aw_mS y') (hm : aw_mt y' cc' nL' ret' n') (hn : vals.length = n') (hnL : Nat.ble (vals.length) nL' = true) (hcat : vals.all (fun v => v.category == 1) = true) (hrest : Nat.ble ((st.map Value.category).sum) 8 = true) (hF' : (Nat.ble (F' + 1) F && Nat.ble (8 + (nL' + 11) + Lo') Lo) = true) (hA' : (Nat.ble (k + mc') mc && Nat.ble (n + ms') ms) = true) (hE : AE l y' cc' nL' ret' F' Lo' mc' ms' she' sh σ (vals) (fun r σ' => AW l y cc nL ret F Lo mc ms she Post she' (k + mc') (n + ms') (σ') nx (ls) (r.toList ++ st))) : AW l y cc nL ret F Lo mc ms she Post sh k n (σ) pc (ls) (vals.reverse ++ st) := by
  obtain ⟨hd1, hnx⟩ := hd
  intro B D aC sa sv p e R s m args below meth c H locs lsA C hP hS hL
  obtain ⟨hx, hb, hml, hr, hlk, hnm, hown, hts, hF, hLo, hmc, hms, hK, hBs⟩ := id C
  have hFF := (Bool.and_eq_true _ _).mp hF'
  have hAA := (Bool.and_eq_true _ _).mp hA'
  have g1 := Nat.le_of_ble_eq_true hFF.1
  have g2 := Nat.le_of_ble_eq_true hFF.2
  have g3 := Nat.le_of_ble_eq_true hAA.1
  have g4 := Nat.le_of_ble_eq_true hAA.2
  have hM := aw_met (n := 0) hm.2.2.2 (vals := vals) hcat (Nat.le_of_ble_eq_true hnL) hE B D aC sa sv
  refine aw_back (she' := she') (mc' := mc') (ms' := ms') (st := st) C hS hL (by have := hP.1; omega) hnx (a := (vals.map (aw_m (aw_f B sa))).toArray) ?_
  refine va_runSN (host := host) (As := vals.map (aw_m (aw_f B sa))) ⟨hx, hb, hml, hown, hts⟩ hM ⟨va_cnB n' hts (aw_goodIn hm.2.1) rfl rfl rfl (hK.2.2.2.1 _ hl) (hts _ hm.1) hm.2.2.1 ⟨by show F' + 1 ≤ _; omega, by show 8 + (nL' + 11) + Lo' ≤ _; omega⟩, hts _ hmS, trivial⟩ ⟨(fun a U g mk q => ⟨q.1, q.2.1, aw_Kn_calling q.2.2⟩), (fun U hU hW => ⟨rfl, by rw [hU]; exact hP, aw_Kn_moved hW (fun q h1 h2 => by rw [hU]; exact hS.2.1 q h1 h2) hK⟩)⟩ rfl (by rw [List.length_map]; exact hn) hL.1 ?_ (aw_restcat hrest) hd1 ⟨by omega, by omega⟩
  show List.map _ _ = _
  rw [List.map_append, List.map_reverse]
theorem a_cV0 {b ci idx : Nat} (hd : aw_d 3 cc pc (.invokevirtual idx) nx) (hl : Cond.methodLink y.cls idx y' ∈ aw_tbl) (hmV : aw_mV y') (hs : sh[b]? = some (.inl ci)) (hci : ∃ q : vw_C, vwCl[ci]? = some q ∧ q.1 = y'.cls) (hm : aw_mt y' cc' nL' ret' 0) (hnL : Nat.ble 1 nL' = true) (hrest : Nat.ble ((st.map Value.category).sum) 8 = true) (hF' : (Nat.ble (F' + 1) F && Nat.ble (8 + (nL' + 11) + Lo') Lo) = true) (hA' : (Nat.ble (k + mc') mc && Nat.ble (n + ms') ms) = true) (hE : AE l y' cc' nL' ret' F' Lo' mc' ms' she' sh σ ([.ref b]) (fun r σ' => AW l y cc nL ret F Lo mc ms she Post she' (k + mc') (n + ms') (σ') nx (ls) (r.toList ++ st))) : AW l y cc nL ret F Lo mc ms she Post sh k n (σ) pc (ls) (.ref b :: st) :=
  a_callV (vals := []) hd hl hmV hs hci hm rfl hnL rfl hrest hF' hA' hE
theorem a_cV1 {v1 : Value} {b ci idx : Nat} (hd : aw_d 3 cc pc (.invokevirtual idx) nx) (hl : Cond.methodLink y.cls idx y' ∈ aw_tbl) (hmV : aw_mV y') (hs : sh[b]? = some (.inl ci)) (hci : ∃ q : vw_C, vwCl[ci]? = some q ∧ q.1 = y'.cls) (hm : aw_mt y' cc' nL' ret' 1) (hnL : Nat.ble 2 nL' = true) (c1 : v1.category = 1) (hrest : Nat.ble ((st.map Value.category).sum) 8 = true) (hF' : (Nat.ble (F' + 1) F && Nat.ble (8 + (nL' + 11) + Lo') Lo) = true) (hA' : (Nat.ble (k + mc') mc && Nat.ble (n + ms') ms) = true) (hE : AE l y' cc' nL' ret' F' Lo' mc' ms' she' sh σ ([.ref b, v1]) (fun r σ' => AW l y cc nL ret F Lo mc ms she Post she' (k + mc') (n + ms') (σ') nx (ls) (r.toList ++ st))) : AW l y cc nL ret F Lo mc ms she Post sh k n (σ) pc (ls) (v1 :: .ref b :: st) :=
  a_callV (vals := [v1]) hd hl hmV hs hci hm rfl hnL (by simp [c1]) hrest hF' hA' hE
theorem a_cS1 {v1 : Value} {idx : Nat} (hd : aw_d 3 cc pc (.invokestatic idx) nx) (hl : Cond.methodLink y.cls idx y' ∈ aw_tbl) (hmS : aw_mS y') (hm : aw_mt y' cc' nL' ret' 1) (hnL : Nat.ble 1 nL' = true) (c1 : v1.category = 1) (hrest : Nat.ble ((st.map Value.category).sum) 8 = true) (hF' : (Nat.ble (F' + 1) F && Nat.ble (8 + (nL' + 11) + Lo') Lo) = true) (hA' : (Nat.ble (k + mc') mc && Nat.ble (n + ms') ms) = true) (hE : AE l y' cc' nL' ret' F' Lo' mc' ms' she' sh σ ([v1]) (fun r σ' => AW l y cc nL ret F Lo mc ms she Post she' (k + mc') (n + ms') (σ') nx (ls) (r.toList ++ st))) : AW l y cc nL ret F Lo mc ms she Post sh k n (σ) pc (ls) (v1 :: st) :=
  a_callS (vals := [v1]) hd hl hmS hm rfl hnL (by simp [c1]) hrest hF' hA' hE
theorem a_cN1 {v1 : Value} {idx : Nat} {host : String} (hd : aw_d 3 cc pc (.invokestatic idx) nx) (hl : (y.cls, idx, y', host) ∈ aw_nest) (hmS : aw_mS y') (hm : aw_mt y' cc' nL' ret' 1) (hnL : Nat.ble 1 nL' = true) (c1 : v1.category = 1) (hrest : Nat.ble ((st.map Value.category).sum) 8 = true) (hF' : (Nat.ble (F' + 1) F && Nat.ble (8 + (nL' + 11) + Lo') Lo) = true) (hA' : (Nat.ble (k + mc') mc && Nat.ble (n + ms') ms) = true) (hE : AE l y' cc' nL' ret' F' Lo' mc' ms' she' sh σ ([v1]) (fun r σ' => AW l y cc nL ret F Lo mc ms she Post she' (k + mc') (n + ms') (σ') nx (ls) (r.toList ++ st))) : AW l y cc nL ret F Lo mc ms she Post sh k n (σ) pc (ls) (v1 :: st) :=
  a_callSN (vals := [v1]) hd hl hmS hm rfl hnL (by simp [c1]) hrest hF' hA' hE
theorem a_cV2 {v1 v2 : Value} {b ci idx : Nat} (hd : aw_d 3 cc pc (.invokevirtual idx) nx) (hl : Cond.methodLink y.cls idx y' ∈ aw_tbl) (hmV : aw_mV y') (hs : sh[b]? = some (.inl ci)) (hci : ∃ q : vw_C, vwCl[ci]? = some q ∧ q.1 = y'.cls) (hm : aw_mt y' cc' nL' ret' 2) (hnL : Nat.ble 3 nL' = true) (c1 : v1.category = 1) (c2 : v2.category = 1) (hrest : Nat.ble ((st.map Value.category).sum) 8 = true) (hF' : (Nat.ble (F' + 1) F && Nat.ble (8 + (nL' + 11) + Lo') Lo) = true) (hA' : (Nat.ble (k + mc') mc && Nat.ble (n + ms') ms) = true) (hE : AE l y' cc' nL' ret' F' Lo' mc' ms' she' sh σ ([.ref b, v1, v2]) (fun r σ' => AW l y cc nL ret F Lo mc ms she Post she' (k + mc') (n + ms') (σ') nx (ls) (r.toList ++ st))) : AW l y cc nL ret F Lo mc ms she Post sh k n (σ) pc (ls) (v2 :: v1 :: .ref b :: st) :=
  a_callV (vals := [v1, v2]) hd hl hmV hs hci hm rfl hnL (by simp [c1, c2]) hrest hF' hA' hE
theorem a_cS2 {v1 v2 : Value} {idx : Nat} (hd : aw_d 3 cc pc (.invokestatic idx) nx) (hl : Cond.methodLink y.cls idx y' ∈ aw_tbl) (hmS : aw_mS y') (hm : aw_mt y' cc' nL' ret' 2) (hnL : Nat.ble 2 nL' = true) (c1 : v1.category = 1) (c2 : v2.category = 1) (hrest : Nat.ble ((st.map Value.category).sum) 8 = true) (hF' : (Nat.ble (F' + 1) F && Nat.ble (8 + (nL' + 11) + Lo') Lo) = true) (hA' : (Nat.ble (k + mc') mc && Nat.ble (n + ms') ms) = true) (hE : AE l y' cc' nL' ret' F' Lo' mc' ms' she' sh σ ([v1, v2]) (fun r σ' => AW l y cc nL ret F Lo mc ms she Post she' (k + mc') (n + ms') (σ') nx (ls) (r.toList ++ st))) : AW l y cc nL ret F Lo mc ms she Post sh k n (σ) pc (ls) (v2 :: v1 :: st) :=
  a_callS (vals := [v1, v2]) hd hl hmS hm rfl hnL (by simp [c1, c2]) hrest hF' hA' hE
theorem a_cN2 {v1 v2 : Value} {idx : Nat} {host : String} (hd : aw_d 3 cc pc (.invokestatic idx) nx) (hl : (y.cls, idx, y', host) ∈ aw_nest) (hmS : aw_mS y') (hm : aw_mt y' cc' nL' ret' 2) (hnL : Nat.ble 2 nL' = true) (c1 : v1.category = 1) (c2 : v2.category = 1) (hrest : Nat.ble ((st.map Value.category).sum) 8 = true) (hF' : (Nat.ble (F' + 1) F && Nat.ble (8 + (nL' + 11) + Lo') Lo) = true) (hA' : (Nat.ble (k + mc') mc && Nat.ble (n + ms') ms) = true) (hE : AE l y' cc' nL' ret' F' Lo' mc' ms' she' sh σ ([v1, v2]) (fun r σ' => AW l y cc nL ret F Lo mc ms she Post she' (k + mc') (n + ms') (σ') nx (ls) (r.toList ++ st))) : AW l y cc nL ret F Lo mc ms she Post sh k n (σ) pc (ls) (v2 :: v1 :: st) :=
  a_callSN (vals := [v1, v2]) hd hl hmS hm rfl hnL (by simp [c1, c2]) hrest hF' hA' hE
theorem a_cV3 {v1 v2 v3 : Value} {b ci idx : Nat} (hd : aw_d 3 cc pc (.invokevirtual idx) nx) (hl : Cond.methodLink y.cls idx y' ∈ aw_tbl) (hmV : aw_mV y') (hs : sh[b]? = some (.inl ci)) (hci : ∃ q : vw_C, vwCl[ci]? = some q ∧ q.1 = y'.cls) (hm : aw_mt y' cc' nL' ret' 3) (hnL : Nat.ble 4 nL' = true) (c1 : v1.category = 1) (c2 : v2.category = 1) (c3 : v3.category = 1) (hrest : Nat.ble ((st.map Value.category).sum) 8 = true) (hF' : (Nat.ble (F' + 1) F && Nat.ble (8 + (nL' + 11) + Lo') Lo) = true) (hA' : (Nat.ble (k + mc') mc && Nat.ble (n + ms') ms) = true) (hE : AE l y' cc' nL' ret' F' Lo' mc' ms' she' sh σ ([.ref b, v1, v2, v3]) (fun r σ' => AW l y cc nL ret F Lo mc ms she Post she' (k + mc') (n + ms') (σ') nx (ls) (r.toList ++ st))) : AW l y cc nL ret F Lo mc ms she Post sh k n (σ) pc (ls) (v3 :: v2 :: v1 :: .ref b :: st) :=
  a_callV (vals := [v1, v2, v3]) hd hl hmV hs hci hm rfl hnL (by simp [c1, c2, c3]) hrest hF' hA' hE
theorem a_cS3 {v1 v2 v3 : Value} {idx : Nat} (hd : aw_d 3 cc pc (.invokestatic idx) nx) (hl : Cond.methodLink y.cls idx y' ∈ aw_tbl) (hmS : aw_mS y') (hm : aw_mt y' cc' nL' ret' 3) (hnL : Nat.ble 3 nL' = true) (c1 : v1.category = 1) (c2 : v2.category = 1) (c3 : v3.category = 1) (hrest : Nat.ble ((st.map Value.category).sum) 8 = true) (hF' : (Nat.ble (F' + 1) F && Nat.ble (8 + (nL' + 11) + Lo') Lo) = true) (hA' : (Nat.ble (k + mc') mc && Nat.ble (n + ms') ms) = true) (hE : AE l y' cc' nL' ret' F' Lo' mc' ms' she' sh σ ([v1, v2, v3]) (fun r σ' => AW l y cc nL ret F Lo mc ms she Post she' (k + mc') (n + ms') (σ') nx (ls) (r.toList ++ st))) : AW l y cc nL ret F Lo mc ms she Post sh k n (σ) pc (ls) (v3 :: v2 :: v1 :: st) :=
  a_callS (vals := [v1, v2, v3]) hd hl hmS hm rfl hnL (by simp [c1, c2, c3]) hrest hF' hA' hE
theorem a_cN3 {v1 v2 v3 : Value} {idx : Nat} {host : String} (hd : aw_d 3 cc pc (.invokestatic idx) nx) (hl : (y.cls, idx, y', host) ∈ aw_nest) (hmS : aw_mS y') (hm : aw_mt y' cc' nL' ret' 3) (hnL : Nat.ble 3 nL' = true) (c1 : v1.category = 1) (c2 : v2.category = 1) (c3 : v3.category = 1) (hrest : Nat.ble ((st.map Value.category).sum) 8 = true) (hF' : (Nat.ble (F' + 1) F && Nat.ble (8 + (nL' + 11) + Lo') Lo) = true) (hA' : (Nat.ble (k + mc') mc && Nat.ble (n + ms') ms) = true) (hE : AE l y' cc' nL' ret' F' Lo' mc' ms' she' sh σ ([v1, v2, v3]) (fun r σ' => AW l y cc nL ret F Lo mc ms she Post she' (k + mc') (n + ms') (σ') nx (ls) (r.toList ++ st))) : AW l y cc nL ret F Lo mc ms she Post sh k n (σ) pc (ls) (v3 :: v2 :: v1 :: st) :=
  a_callSN (vals := [v1, v2, v3]) hd hl hmS hm rfl hnL (by simp [c1, c2, c3]) hrest hF' hA' hE
theorem a_cV4 {v1 v2 v3 v4 : Value} {b ci idx : Nat} (hd : aw_d 3 cc pc (.invokevirtual idx) nx) (hl : Cond.methodLink y.cls idx y' ∈ aw_tbl) (hmV : aw_mV y') (hs : sh[b]? = some (.inl ci)) (hci : ∃ q : vw_C, vwCl[ci]? = some q ∧ q.1 = y'.cls) (hm : aw_mt y' cc' nL' ret' 4) (hnL : Nat.ble 5 nL' = true) (c1 : v1.category = 1) (c2 : v2.category = 1) (c3 : v3.category = 1) (c4 : v4.category = 1) (hrest : Nat.ble ((st.map Value.category).sum) 8 = true) (hF' : (Nat.ble (F' + 1) F && Nat.ble (8 + (nL' + 11) + Lo') Lo) = true) (hA' : (Nat.ble (k + mc') mc && Nat.ble (n + ms') ms) = true) (hE : AE l y' cc' nL' ret' F' Lo' mc' ms' she' sh σ ([.ref b, v1, v2, v3, v4]) (fun r σ' => AW l y cc nL ret F Lo mc ms she Post she' (k + mc') (n + ms') (σ') nx (ls) (r.toList ++ st))) : AW l y cc nL ret F Lo mc ms she Post sh k n (σ) pc (ls) (v4 :: v3 :: v2 :: v1 :: .ref b :: st) :=
  a_callV (vals := [v1, v2, v3, v4]) hd hl hmV hs hci hm rfl hnL (by simp [c1, c2, c3, c4]) hrest hF' hA' hE
theorem a_cS4 {v1 v2 v3 v4 : Value} {idx : Nat} (hd : aw_d 3 cc pc (.invokestatic idx) nx) (hl : Cond.methodLink y.cls idx y' ∈ aw_tbl) (hmS : aw_mS y') (hm : aw_mt y' cc' nL' ret' 4) (hnL : Nat.ble 4 nL' = true) (c1 : v1.category = 1) (c2 : v2.category = 1) (c3 : v3.category = 1) (c4 : v4.category = 1) (hrest : Nat.ble ((st.map Value.category).sum) 8 = true) (hF' : (Nat.ble (F' + 1) F && Nat.ble (8 + (nL' + 11) + Lo') Lo) = true) (hA' : (Nat.ble (k + mc') mc && Nat.ble (n + ms') ms) = true) (hE : AE l y' cc' nL' ret' F' Lo' mc' ms' she' sh σ ([v1, v2, v3, v4]) (fun r σ' => AW l y cc nL ret F Lo mc ms she Post she' (k + mc') (n + ms') (σ') nx (ls) (r.toList ++ st))) : AW l y cc nL ret F Lo mc ms she Post sh k n (σ) pc (ls) (v4 :: v3 :: v2 :: v1 :: st) :=
  a_callS (vals := [v1, v2, v3, v4]) hd hl hmS hm rfl hnL (by simp [c1, c2, c3, c4]) hrest hF' hA' hE
theorem a_cN4 {v1 v2 v3 v4 : Value} {idx : Nat} {host : String} (hd : aw_d 3 cc pc (.invokestatic idx) nx) (hl : (y.cls, idx, y', host) ∈ aw_nest) (hmS : aw_mS y') (hm : aw_mt y' cc' nL' ret' 4) (hnL : Nat.ble 4 nL' = true) (c1 : v1.category = 1) (c2 : v2.category = 1) (c3 : v3.category = 1) (c4 : v4.category = 1) (hrest : Nat.ble ((st.map Value.category).sum) 8 = true) (hF' : (Nat.ble (F' + 1) F && Nat.ble (8 + (nL' + 11) + Lo') Lo) = true) (hA' : (Nat.ble (k + mc') mc && Nat.ble (n + ms') ms) = true) (hE : AE l y' cc' nL' ret' F' Lo' mc' ms' she' sh σ ([v1, v2, v3, v4]) (fun r σ' => AW l y cc nL ret F Lo mc ms she Post she' (k + mc') (n + ms') (σ') nx (ls) (r.toList ++ st))) : AW l y cc nL ret F Lo mc ms she Post sh k n (σ) pc (ls) (v4 :: v3 :: v2 :: v1 :: st) :=
  a_callSN (vals := [v1, v2, v3, v4]) hd hl hmS hm rfl hnL (by simp [c1, c2, c3, c4]) hrest hF' hA' hE
theorem a_cV5 {v1 v2 v3 v4 v5 : Value} {b ci idx : Nat} (hd : aw_d 3 cc pc (.invokevirtual idx) nx) (hl : Cond.methodLink y.cls idx y' ∈ aw_tbl) (hmV : aw_mV y') (hs : sh[b]? = some (.inl ci)) (hci : ∃ q : vw_C, vwCl[ci]? = some q ∧ q.1 = y'.cls) (hm : aw_mt y' cc' nL' ret' 5) (hnL : Nat.ble 6 nL' = true) (c1 : v1.category = 1) (c2 : v2.category = 1) (c3 : v3.category = 1) (c4 : v4.category = 1) (c5 : v5.category = 1) (hrest : Nat.ble ((st.map Value.category).sum) 8 = true) (hF' : (Nat.ble (F' + 1) F && Nat.ble (8 + (nL' + 11) + Lo') Lo) = true) (hA' : (Nat.ble (k + mc') mc && Nat.ble (n + ms') ms) = true) (hE : AE l y' cc' nL' ret' F' Lo' mc' ms' she' sh σ ([.ref b, v1, v2, v3, v4, v5]) (fun r σ' => AW l y cc nL ret F Lo mc ms she Post she' (k + mc') (n + ms') (σ') nx (ls) (r.toList ++ st))) : AW l y cc nL ret F Lo mc ms she Post sh k n (σ) pc (ls) (v5 :: v4 :: v3 :: v2 :: v1 :: .ref b :: st) :=
  a_callV (vals := [v1, v2, v3, v4, v5]) hd hl hmV hs hci hm rfl hnL (by simp [c1, c2, c3, c4, c5]) hrest hF' hA' hE
theorem a_cS5 {v1 v2 v3 v4 v5 : Value} {idx : Nat} (hd : aw_d 3 cc pc (.invokestatic idx) nx) (hl : Cond.methodLink y.cls idx y' ∈ aw_tbl) (hmS : aw_mS y') (hm : aw_mt y' cc' nL' ret' 5) (hnL : Nat.ble 5 nL' = true) (c1 : v1.category = 1) (c2 : v2.category = 1) (c3 : v3.category = 1) (c4 : v4.category = 1) (c5 : v5.category = 1) (hrest : Nat.ble ((st.map Value.category).sum) 8 = true) (hF' : (Nat.ble (F' + 1) F && Nat.ble (8 + (nL' + 11) + Lo') Lo) = true) (hA' : (Nat.ble (k + mc') mc && Nat.ble (n + ms') ms) = true) (hE : AE l y' cc' nL' ret' F' Lo' mc' ms' she' sh σ ([v1, v2, v3, v4, v5]) (fun r σ' => AW l y cc nL ret F Lo mc ms she Post she' (k + mc') (n + ms') (σ') nx (ls) (r.toList ++ st))) : AW l y cc nL ret F Lo mc ms she Post sh k n (σ) pc (ls) (v5 :: v4 :: v3 :: v2 :: v1 :: st) :=
  a_callS (vals := [v1, v2, v3, v4, v5]) hd hl hmS hm rfl hnL (by simp [c1, c2, c3, c4, c5]) hrest hF' hA' hE
theorem a_cN5 {v1 v2 v3 v4 v5 : Value} {idx : Nat} {host : String} (hd : aw_d 3 cc pc (.invokestatic idx) nx) (hl : (y.cls, idx, y', host) ∈ aw_nest) (hmS : aw_mS y') (hm : aw_mt y' cc' nL' ret' 5) (hnL : Nat.ble 5 nL' = true) (c1 : v1.category = 1) (c2 : v2.category = 1) (c3 : v3.category = 1) (c4 : v4.category = 1) (c5 : v5.category = 1) (hrest : Nat.ble ((st.map Value.category).sum) 8 = true) (hF' : (Nat.ble (F' + 1) F && Nat.ble (8 + (nL' + 11) + Lo') Lo) = true) (hA' : (Nat.ble (k + mc') mc && Nat.ble (n + ms') ms) = true) (hE : AE l y' cc' nL' ret' F' Lo' mc' ms' she' sh σ ([v1, v2, v3, v4, v5]) (fun r σ' => AW l y cc nL ret F Lo mc ms she Post she' (k + mc') (n + ms') (σ') nx (ls) (r.toList ++ st))) : AW l y cc nL ret F Lo mc ms she Post sh k n (σ) pc (ls) (v5 :: v4 :: v3 :: v2 :: v1 :: st) :=
  a_callSN (vals := [v1, v2, v3, v4, v5]) hd hl hmS hm rfl hnL (by simp [c1, c2, c3, c4, c5]) hrest hF' hA' hE
theorem a_mmax {x y0 : Int} {idx : Nat} (hd : aw_d 3 cc pc (.invokestatic idx) nx) (hl : Cond.methodLink y.cls idx Lib.Math.max.name ∈ aw_tbl) (hrg : (-2147483648 ≤ x ∧ x ≤ 2147483647) ∧ (-2147483648 ≤ y0 ∧ y0 ≤ 2147483647)) (hrest : Nat.ble ((st.map Value.category).sum) 8 = true) (hF' : (Nat.ble 1 F && Nat.ble 21 Lo && (Nat.ble k mc && Nat.ble n ms)) = true) (kk : AW l y cc nL ret F Lo mc ms she Post sh k n (σ) nx (ls) (.int (jI (if x < y0 then y0 else x)) :: st)) : AW l y cc nL ret F Lo mc ms she Post sh k n (σ) pc (ls) (.int (jI y0) :: .int (jI x) :: st) := by
  obtain ⟨hd1, rfl⟩ := hd
  intro B D aC sa sv p e R s m args below meth c H locs lsA C hP hS hL
  obtain ⟨hx, hb, hml, hr, hlk, hnm, hown, hts, hF, hLo, hmc, hms, hK, hBs⟩ := id C
  have hFF := (Bool.and_eq_true _ _).mp hF'
  have hF1 := (Bool.and_eq_true _ _).mp hFF.1
  have hF2 := (Bool.and_eq_true _ _).mp hFF.2
  have g1 := Nat.le_of_ble_eq_true hF1.1
  have g2 := Nat.le_of_ble_eq_true hF1.2
  have g3 := Nat.le_of_ble_eq_true hF2.1
  have g4 := Nat.le_of_ble_eq_true hF2.2
  have g5 := aw_restcat (pc := 0) (φ := aw_f B sa) hrest (m := m) (lsA := lsA) (g := [])
  have g6 : ((st.map (aw_m (aw_f B sa))).map fun v => v.category).sum ≤ 8 := Nat.le_trans (Nat.le_add_left _ _) g5
  refine va_mmax hx hb (hml.trans hL.1.symm) hown (hts _ hl) (hts _ mm_max.1) (hts _ mm_max.2.1) (hts _ mm_max.2.2) (by omega) (by omega) (by omega) (by omega) hd1 ?_
  have e9 : (if jI x < jI y0 then jI y0 else jI x) = jI (if x < y0 then y0 else x) := by
    simp only [jI_lt hrg]; split <;> rfl
  rw [e9]
  exact kk B D aC sa sv p e R s m args below meth c H locs lsA C hP hS hL
theorem a_mmin {x y0 : Int} {idx : Nat} (hd : aw_d 3 cc pc (.invokestatic idx) nx) (hl : Cond.methodLink y.cls idx Lib.Math.min.name ∈ aw_tbl) (hrg : (-2147483648 ≤ x ∧ x ≤ 2147483647) ∧ (-2147483648 ≤ y0 ∧ y0 ≤ 2147483647)) (hrest : Nat.ble ((st.map Value.category).sum) 8 = true) (hF' : (Nat.ble 1 F && Nat.ble 21 Lo && (Nat.ble k mc && Nat.ble n ms)) = true) (kk : AW l y cc nL ret F Lo mc ms she Post sh k n (σ) nx (ls) (.int (jI (if y0 < x then y0 else x)) :: st)) : AW l y cc nL ret F Lo mc ms she Post sh k n (σ) pc (ls) (.int (jI y0) :: .int (jI x) :: st) := by
  obtain ⟨hd1, rfl⟩ := hd
  intro B D aC sa sv p e R s m args below meth c H locs lsA C hP hS hL
  obtain ⟨hx, hb, hml, hr, hlk, hnm, hown, hts, hF, hLo, hmc, hms, hK, hBs⟩ := id C
  have hFF := (Bool.and_eq_true _ _).mp hF'
  have hF1 := (Bool.and_eq_true _ _).mp hFF.1
  have hF2 := (Bool.and_eq_true _ _).mp hFF.2
  have g1 := Nat.le_of_ble_eq_true hF1.1
  have g2 := Nat.le_of_ble_eq_true hF1.2
  have g3 := Nat.le_of_ble_eq_true hF2.1
  have g4 := Nat.le_of_ble_eq_true hF2.2
  have g5 := aw_restcat (pc := 0) (φ := aw_f B sa) hrest (m := m) (lsA := lsA) (g := [])
  have g6 : ((st.map (aw_m (aw_f B sa))).map fun v => v.category).sum ≤ 8 := Nat.le_trans (Nat.le_add_left _ _) g5
  refine va_mmin hx hb (hml.trans hL.1.symm) hown (hts _ hl) (hts _ mm_min.1) (hts _ mm_min.2.1) (hts _ mm_min.2.2) (by omega) (by omega) (by omega) (by omega) hd1 ?_
  have e9 : (if jI y0 < jI x then jI y0 else jI x) = jI (if y0 < x then y0 else x) := by
    simp only [jI_lt ⟨hrg.2, hrg.1⟩]; split <;> rfl
  rw [e9]
  exact kk B D aC sa sv p e R s m args below meth c H locs lsA C hP hS hL
theorem a_mabs {x : Int} {idx : Nat} (hd : aw_d 3 cc pc (.invokestatic idx) nx) (hl : Cond.methodLink y.cls idx Lib.Math.abs.name ∈ aw_tbl) (hrg : -2147483647 ≤ x ∧ x ≤ 2147483647) (hrest : Nat.ble ((st.map Value.category).sum) 8 = true) (hF' : (Nat.ble 1 F && Nat.ble 21 Lo && (Nat.ble k mc && Nat.ble n ms)) = true) (kk : AW l y cc nL ret F Lo mc ms she Post sh k n (σ) nx (ls) (.int (jI (if 0 ≤ x then x else -x)) :: st)) : AW l y cc nL ret F Lo mc ms she Post sh k n (σ) pc (ls) (.int (jI x) :: st) := by
  obtain ⟨hd1, rfl⟩ := hd
  intro B D aC sa sv p e R s m args below meth c H locs lsA C hP hS hL
  obtain ⟨hx, hb, hml, hr, hlk, hnm, hown, hts, hF, hLo, hmc, hms, hK, hBs⟩ := id C
  have hFF := (Bool.and_eq_true _ _).mp hF'
  have hF1 := (Bool.and_eq_true _ _).mp hFF.1
  have hF2 := (Bool.and_eq_true _ _).mp hFF.2
  have g1 := Nat.le_of_ble_eq_true hF1.1
  have g2 := Nat.le_of_ble_eq_true hF1.2
  have g3 := Nat.le_of_ble_eq_true hF2.1
  have g4 := Nat.le_of_ble_eq_true hF2.2
  have g5 := aw_restcat (pc := 0) (φ := aw_f B sa) hrest (m := m) (lsA := lsA) (g := [])
  have g6 : ((st.map (aw_m (aw_f B sa))).map fun v => v.category).sum ≤ 8 := Nat.le_trans (Nat.le_add_left _ _) g5
  refine va_mabs hx hb (hml.trans hL.1.symm) hown (hts _ hl) (hts _ mm_abs.1) (hts _ mm_abs.2.1) (hts _ mm_abs.2.2) (by omega) (by omega) (by omega) (by omega) hd1 ?_
  have e9 : (if 0 ≤ jI x then jI x else 0 - jI x) = jI (if 0 ≤ x then x else -x) := by
    have h9 : (0 ≤ jI x) ↔ 0 ≤ x := jI_le (a := 0) (b := x) ⟨⟨by omega, by omega⟩, ⟨by omega, by omega⟩⟩
    have h8 : 0 - jI x = jI (-x) := by
      rw [show (0 : Int32) = jI 0 from rfl, jI_sub]
      congr 1
      omega
    simp only [h9, h8]; split <;> rfl
  rw [e9]
  exact kk B D aC sa sv p e R s m args below meth c H locs lsA C hP hS hL
end AWC
