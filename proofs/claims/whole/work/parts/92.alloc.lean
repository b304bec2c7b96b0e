/-! ===== what is made new ===== -/
section AWN
variable {l : Launch} {y : MethodName} {cc : ByteArray} {nL : Nat} {ret : Option FieldType} {F Lo mc ms : Nat} {she : aw_Sh} {Post : Option Value → aw_S → Prop} {sh : aw_Sh} {k n : Nat} {σ : aw_S} {pc nx : Nat} {ls : List (Option Value)} {st : List Value}
variable {y' : MethodName} {cc' : ByteArray} {nL' : Nat} {ret' : Option FieldType} {F' Lo' mc' ms' n' : Nat} {she' : aw_Sh}
theorem aw_Pic.push {B : Nat} {φ : Nat → Nat} {D : va_G} {aC : Nat → ClassId} {H H' : Heap} {x : Nat ⊕ (Nat × Nat)} (hP : aw_Pic B φ D aC sh σ H) (hl : sh.length < 1000000) (hz : H'.size = H.size + 1) (ho : ∀ q, q < H.size → H'[q]? = H[q]?)
    (hnew : match x with
      | .inl ci => ∃ r : vw_C, vwCl[ci]? = some r ∧ t_OB (B + sh.length) (D.1 ci) r.2.2 (D.2 ci) H' (fun j => aw_cv φ (aw_fty ci j) σ sh.length (j : Int))
      | .inr (t, n) => t < 7 ∧ H'[B + sh.length]? = some (arrV (aC t) n (fun j => aw_cv φ (aw_ty t) σ sh.length (j : Int)))) : aw_Pic B φ D aC (sh ++ [x]) σ H' := by
  have hs := hP.1
  refine ⟨by rw [hz, List.length_append]; show _ + 1 = _ + (_ + 1); omega, by rw [List.length_append]; show _ + 1 ≤ _; omega, fun k ci hk => ?_, fun k t n hk => ?_⟩
  · by_cases e : k < sh.length
    · rw [List.getElem?_append_left e] at hk
      obtain ⟨r, h1, h2⟩ := hP.2.2.1 k ci hk
      exact ⟨r, h1, h2.kept (ho _ (by omega))⟩
    · rw [List.getElem?_append_right (by omega)] at hk
      have hz1 : k - sh.length < 1 := (List.getElem?_eq_some_iff.mp hk).1
      rw [show k - sh.length = 0 by omega] at hk
      cases hk
      rw [show k = sh.length by omega]
      exact hnew
  · by_cases e : k < sh.length
    · rw [List.getElem?_append_left e] at hk
      obtain ⟨h1, h2⟩ := hP.2.2.2 k t n hk
      exact ⟨h1, by rw [ho _ (by omega)]; exact h2⟩
    · rw [List.getElem?_append_right (by omega)] at hk
      have hz1 : k - sh.length < 1 := (List.getElem?_eq_some_iff.mp hk).1
      rw [show k - sh.length = 0 by omega] at hk
      cases hk
      rw [show k = sh.length by omega]
      exact hnew
/-- a name not yet made holds nothing -/
def aw_Z (σ : aw_S) (L : Nat) : Prop := ∀ j : Int, σ.1 L j = 0 ∧ σ.2.1 L j = 0 ∧ σ.2.2 L j = none
theorem aw_cv_Z {φ : Nat → Nat} {L : Nat} (h : aw_Z σ L) {t : FieldType} (hf : t ≠ .float) (hd : t ≠ .double) (j : Int) : aw_cv φ t σ L j = defaultValue t := by
  obtain ⟨h1, h2, h3⟩ := h j
  unfold aw_cv
  cases t <;> first | exact absurd rfl hf | exact absurd rfl hd | (simp only [aw_kd, aw_cvk, h1, h2, h3]; rfl)
theorem a_newa {t N : Nat} {x : Int} {atype : ArrayType} (hd : aw_d 2 cc pc (.newarray atype) nx) (hat : newarray.typeOf atype = aw_ty t) (ht : Nat.ble t 3 = true) (harr : Cond.arrayClass (aw_ty t) ∈ aw_tbl) (hx : x = (N : Int)) (hN : Nat.ble (N * 8) 536870912 = true) {L : Nat} (hL : sh.length = L) (hL2 : Nat.ble L 1000 = true) (hz : aw_Z σ L) (hA' : (Nat.ble (k + 1) mc && Nat.ble (n + N) ms) = true)
    (kk : AW l y cc nL ret F Lo mc ms she Post (sh ++ [.inr (t, N)]) (k + 1) (n + N) σ nx ls (.ref L :: st)) : AW l y cc nL ret F Lo mc ms she Post sh k n σ pc ls (.int (jI x) :: st) := by
  subst hx
  subst hL
  have ht3 := Nat.le_of_ble_eq_true ht
  have hN8 := Nat.le_of_ble_eq_true hN
  have hL3 := Nat.le_of_ble_eq_true hL2
  have hAA := (Bool.and_eq_true _ _).mp hA'
  have g3 := Nat.le_of_ble_eq_true hAA.1
  have g4 := Nat.le_of_ble_eq_true hAA.2
  obtain ⟨hd1, rfl⟩ := hd
  intro B D aC sa sv p e R s m args below meth c H locs lsA C hP hS hL
  obtain ⟨hx, hb, hml, hr, hlk, hnm, hown, hts, hF, hLo, hmc, hms, hK, hBs⟩ := id C
  have hcb : N * componentBytes (newarray.typeOf atype) ≤ 536870912 := by
    have : componentBytes (newarray.typeOf atype) ≤ 8 := by cases atype <;> decide
    exact Nat.le_trans (Nat.mul_le_mul_left N this) hN8
  refine va_newaK (N := N) hx hb (by rw [hat]; exact hts _ harr) rfl hd1 rfl (show ¬ jI (N : Int) < jI 0 from fun h => by have := (jI_lt (a := (N : Int)) (b := 0) (by omega)).mp h; omega) ((jI_clamp (i := (N : Int)) (N := N + 1) (by omega) (by omega)).trans (Int.toNat_natCast N)) hcb (by omega) (by omega) rfl fun H1 cA e1 z1 o1 hAr hNm => ?_
  have hRA := (hK.2.1 t (by omega)).2
  have hcA : cA = aC t := by
    rw [hat] at hNm
    have h2 : s.vm.findClass ("[" ++ (aw_ty t).toString) = some (aC t) := by
      rcases (show t = 0 ∨ t = 1 ∨ t = 2 ∨ t = 3 by omega) with rfl | rfl | rfl | rfl <;> exact hRA
    exact Option.some.inj (hNm.symm.trans h2)
  have hP1 := hP.1
  have e9 : aw_f B sa sh.length = H.size := by unfold aw_f; rw [if_pos (by omega)]; omega
  have h9 := kk B D aC sa sv p e R s m args below meth c H1 locs lsA C (hP.push (by omega) z1 o1 ⟨by omega, ?_⟩) ⟨by rw [z1]; exact Nat.le_trans hS.1 (by omega), fun q h1 h2 => (o1 q (Nat.lt_of_lt_of_le h1 hS.1)).trans (hS.2.1 q h1 h2), hS.2.2⟩ hL
  · show W p l e R s m args below meth c H1 locs (k + 1) (n + N) _ (F0 m (pc + 2) lsA (.ref H.size :: st.map (aw_m (aw_f B sa))))
    have e8 : ((Value.ref sh.length :: st).map (aw_m (aw_f B sa))) = .ref H.size :: st.map (aw_m (aw_f B sa)) := by
      show Value.ref (aw_f B sa sh.length) :: _ = _
      rw [e9]
    rw [e8] at h9
    exact h9
  · rw [← hP1, e1, hcA, hat]
    congr 1
    congr 1
    funext j
    exact (aw_cv_Z hz (by rcases (show t = 0 ∨ t = 1 ∨ t = 2 ∨ t = 3 by omega) with rfl | rfl | rfl | rfl <;> decide) (by rcases (show t = 0 ∨ t = 1 ∨ t = 2 ∨ t = 3 by omega) with rfl | rfl | rfl | rfl <;> decide) _).symm
theorem a_new {ci : Nat} {C : String} {T : u_T} {N idx : Nat} (hd : aw_d 3 cc pc (.new idx) nx) (hc : vwCl[ci]? = some (C, T, N)) (hcl : Cond.classLink y.cls idx C ∈ aw_tbl) (hin : Cond.instantiable C N ∈ aw_tbl) (hini : Cond.initialized C ∈ aw_tbl) (hty : ∀ j, j < N → parseFieldDescriptor (T j).2.2.1 = some (aw_fty ci j) ∧ aw_fty ci j ≠ .float ∧ aw_fty ci j ≠ .double) {L : Nat} (hL : sh.length = L) (hL2 : Nat.ble L 1000 = true) (hz : aw_Z σ L) (hA' : (Nat.ble (k + 1) mc && Nat.ble (n + N) ms) = true)
    (kk : AW l y cc nL ret F Lo mc ms she Post (sh ++ [.inl ci]) (k + 1) (n + N) σ nx ls (.ref L :: st)) : AW l y cc nL ret F Lo mc ms she Post sh k n σ pc ls st := by
  subst hL
  have hL3 := Nat.le_of_ble_eq_true hL2
  have hAA := (Bool.and_eq_true _ _).mp hA'
  have g3 := Nat.le_of_ble_eq_true hAA.1
  have g4 := Nat.le_of_ble_eq_true hAA.2
  obtain ⟨hd1, rfl⟩ := hd
  intro B D aC sa sv p e R s m args below meth c H locs lsA C0 hP hS hL
  obtain ⟨hx, hb, hml, hr, hlk, hnm, hown, hts, hF, hLo, hmc, hms, hK, hBs⟩ := id C0
  have hKn := hK.1 ci _ hc
  refine W.newcK hx hb hown (hts _ hcl) (hts _ hin) (hts _ hini) rfl hd1 (by omega) (by omega) hKn.2.1 rfl fun H1 kC hkC e1 z1 o1 => ?_
  have hP1 := hP.1
  have e9 : aw_f B sa sh.length = H.size := by unfold aw_f; rw [if_pos (by omega)]; omega
  have h9 := kk B D aC sa sv p e R s m args below meth c H1 locs lsA C0 (hP.push (by omega) z1 o1 ⟨_, hc, ?_⟩) ⟨by rw [z1]; exact Nat.le_trans hS.1 (by omega), fun q h1 h2 => (o1 q (Nat.lt_of_lt_of_le h1 hS.1)).trans (hS.2.1 q h1 h2), hS.2.2⟩ hL
  · have e8 : ((Value.ref sh.length :: st).map (aw_m (aw_f B sa))) = .ref H.size :: st.map (aw_m (aw_f B sa)) := by
      show Value.ref (aw_f B sa sh.length) :: _ = _
      rw [e9]
    rw [e8] at h9
    exact h9
  · rw [← hP1]
    exact (u_born (fun j => aw_fty ci j) hts (aw_wsC hc) hKn hkC e1 (fun j hj => (hty j hj).1)).to (fun j hj => (aw_cv_Z hz (hty j hj).2.1 (hty j hj).2.2 _).symm)
theorem a_anew {t N idx : Nat} {x : Int} {C : String} (hd : aw_d 3 cc pc (.anewarray idx) nx) (ht : (t = 4 ∧ C = "CabRanks$Cab") ∨ (t = 5 ∧ C = "CabRanks$Day")) (hcl : Cond.classLink y.cls idx C ∈ aw_tbl) (hx : x = (N : Int)) (hN : Nat.ble (N * 8) 536870912 = true) {L : Nat} (hL : sh.length = L) (hL2 : Nat.ble L 1000 = true) (hz : aw_Z σ L) (hA' : (Nat.ble (k + 1) mc && Nat.ble (n + N) ms) = true)
    (kk : AW l y cc nL ret F Lo mc ms she Post (sh ++ [.inr (t, N)]) (k + 1) (n + N) σ nx ls (.ref L :: st)) : AW l y cc nL ret F Lo mc ms she Post sh k n σ pc ls (.int (jI x) :: st) := by
  subst hx
  subst hL
  have hN8 := Nat.le_of_ble_eq_true hN
  have hL3 := Nat.le_of_ble_eq_true hL2
  have hAA := (Bool.and_eq_true _ _).mp hA'
  have g3 := Nat.le_of_ble_eq_true hAA.1
  have g4 := Nat.le_of_ble_eq_true hAA.2
  obtain ⟨hd1, rfl⟩ := hd
  intro B D aC sa sv p e R s m args below meth c H locs lsA C0 hP hS hL
  obtain ⟨hx, hb, hml, hr, hlk, hnm, hown, hts, hF, hLo, hmc, hms, hK, hBs⟩ := id C0
  have hover : va_AO C s := by
    rcases ht with ⟨-, rfl⟩ | ⟨-, rfl⟩
    · exact hK.2.2.2.2.1
    · exact hK.2.2.2.2.2.1
  have hclN : (jI (N : Int)).toNatClampNeg = N := (jI_clamp (i := (N : Int)) (N := N + 1) (by omega) (by omega)).trans (Int.toNat_natCast N)
  refine W.anew hx hb hown (hts _ hcl) (va_AO.use hover) rfl hd1 rfl (show ¬ jI (N : Int) < jI 0 from fun h => by have := (jI_lt (a := (N : Int)) (b := 0) (by omega)).mp h; omega) (by rw [hclN]; omega) (by omega) (by rw [hclN]; omega) fun cA kA comp f1 f2 f3 f4 => ?_
  rw [hclN]
  generalize hH1 : H.push ({ cls := cA, slots := Array.replicate N .null, vm := .none } : Cell) = H1
  have z1 : H1.size = H.size + 1 := by rw [← hH1, Array.size_push]
  have e1 : H1[H.size]? = some (arrV cA N (fun _ => .null)) := by rw [← hH1, Array.getElem?_push_size, ← arrV_new]
  have o1 : ∀ q : Nat, q < H.size → H1[q]? = H[q]? := fun q hq => by rw [← hH1, Array.getElem?_push, if_neg (Nat.ne_of_lt hq)]
  have hcA : cA = aC t := by
    rcases ht with ⟨rfl, rfl⟩ | ⟨rfl, rfl⟩
    · obtain ⟨_, _, _, _, _, h5⟩ := (hK.2.1 4 (by decide)).2
      exact Option.some.inj (f1.symm.trans h5)
    · obtain ⟨_, _, _, _, _, h5⟩ := (hK.2.1 5 (by decide)).2
      exact Option.some.inj (f1.symm.trans h5)
  have hP1 := hP.1
  have e9 : aw_f B sa sh.length = H.size := by unfold aw_f; rw [if_pos (by omega)]; omega
  have h9 := kk B D aC sa sv p e R s m args below meth c H1 locs lsA C0 (hP.push (by omega) z1 o1 ⟨by omega, ?_⟩) ⟨by rw [z1]; exact Nat.le_trans hS.1 (by omega), fun q h1 h2 => (o1 q (Nat.lt_of_lt_of_le h1 hS.1)).trans (hS.2.1 q h1 h2), hS.2.2⟩ hL
  · have e8 : ((Value.ref sh.length :: st).map (aw_m (aw_f B sa))) = .ref H.size :: st.map (aw_m (aw_f B sa)) := by
      show Value.ref (aw_f B sa sh.length) :: _ = _
      rw [e9]
    rw [e8] at h9
    exact h9
  · rw [← hP1, e1, hcA]
    congr 1
    congr 1
    funext j
    rcases ht with ⟨rfl, rfl⟩ | ⟨rfl, rfl⟩
    · exact (aw_cv_Z (t := aw_ty 4) hz (by intro h; cases h) (by intro h; cases h) _).symm
    · exact (aw_cv_Z (t := aw_ty 5) hz (by intro h; cases h) (by intro h; cases h) _).symm
theorem a_oi {b idx : Nat} (hd : aw_d 3 cc pc (.invokespecial idx) nx) (hl : Cond.methodLink y.cls idx objectInit ∈ aw_tbl) (hrest : Nat.ble ((st.map Value.category).sum) 8 = true) (hF' : (Nat.ble 1 F && Nat.ble 21 Lo) = true) (kk : AW l y cc nL ret F Lo mc ms she Post sh k n σ nx ls st) : AW l y cc nL ret F Lo mc ms she Post sh k n σ pc ls (.ref b :: st) := by
  have hFF := (Bool.and_eq_true _ _).mp hF'
  have g1 := Nat.le_of_ble_eq_true hFF.1
  have g2 := Nat.le_of_ble_eq_true hFF.2
  obtain ⟨hd1, rfl⟩ := hd
  intro B D aC sa sv p e R s m args below meth c H locs lsA C0 hP hS hL
  obtain ⟨hx, hb, hml, hr, hlk, hnm, hown, hts, hF, hLo, hmc, hms, hK, hBs⟩ := id C0
  have hrc := aw_restcat (φ := aw_f B sa) (m := m) (lsA := lsA) (pc := pc) (g := List.map (aw_m (aw_f B sa)) (Value.ref b :: st)) hrest
  refine W.objInit hx hb hown (hts _ hl) (hts _ mm_oi.1) (hts _ mm_oi.2) rfl (by rw [hml]; exact hL.1) rfl hd1 (by omega) (by omega) ?_
  exact kk B D aC sa sv p e R s m args below meth c H locs lsA C0 hP hS hL
theorem a_callI {b idx : Nat} (hd : aw_d 3 cc pc (.invokespecial idx) nx) (hl : Cond.methodLink y.cls idx y' ∈ aw_tbl) (hmI : aw_mI y') (hs : ∃ x, sh[b]? = some x) (hm : aw_mt y' cc' nL' none 0) (hnL : Nat.ble 1 nL' = true) (hrest : Nat.ble ((st.map Value.category).sum) 8 = true) (hF' : (Nat.ble (F' + 1) F && Nat.ble (8 + (nL' + 11) + Lo') Lo) = true) (hA' : (Nat.ble (k + mc') mc && Nat.ble (n + ms') ms) = true) (hE : AE l y' cc' nL' none F' Lo' mc' ms' she' sh σ ([.ref b]) (fun r σ' => AW l y cc nL ret F Lo mc ms she Post she' (k + mc') (n + ms') (σ') nx (ls) (r.toList ++ st))) : AW l y cc nL ret F Lo mc ms she Post sh k n (σ) pc (ls) (.ref b :: st) := by
  obtain ⟨hd1, hnx⟩ := hd
  intro B D aC sa sv p e R s m args below meth c H locs lsA C hP hS hL
  obtain ⟨hx, hb, hml, hr, hlk, hnm, hown, hts, hF, hLo, hmc, hms, hK, hBs⟩ := id C
  have hFF := (Bool.and_eq_true _ _).mp hF'
  have hAA := (Bool.and_eq_true _ _).mp hA'
  have g1 := Nat.le_of_ble_eq_true hFF.1
  have g2 := Nat.le_of_ble_eq_true hFF.2
  have g3 := Nat.le_of_ble_eq_true hAA.1
  have g4 := Nat.le_of_ble_eq_true hAA.2
  have hM := aw_met (n := 0) hm.2.2.2 (vals := [.ref b]) rfl (Nat.le_of_ble_eq_true hnL) hE B D aC sa sv
  refine aw_back (she' := she') (mc' := mc') (ms' := ms') (st := st) C hS hL (by have := hP.1; omega) hnx (a := (Value.ref (aw_f B sa b) :: []).toArray) ?_
  exact va_runI (As := []) (b := aw_f B sa b) ⟨hx, hb, hml, hown, hts⟩ hM ⟨aw_callB hts hm hl (by omega) (by omega), hmI.1, hts _ hmI.2⟩ ⟨(fun a U g mk q => ⟨q.1, q.2.1, aw_Kn_calling q.2.2⟩), (fun U hU hW => ⟨rfl, by rw [hU]; exact hP, aw_Kn_moved hW (fun q h1 h2 => by rw [hU]; exact hS.2.1 q h1 h2) hK⟩)⟩ rfl rfl hL.1 rfl (aw_restcat hrest) hd1 ⟨by omega, by omega⟩
theorem a_callIN {b idx : Nat} {host : String} (hd : aw_d 3 cc pc (.invokespecial idx) nx) (hl : (y.cls, idx, y', host) ∈ aw_nest) (hmI : aw_mI y') (hm : aw_mt y' cc' nL' none 0) (hnL : Nat.ble 1 nL' = true) (hrest : Nat.ble ((st.map Value.category).sum) 8 = true) (hF' : (Nat.ble (F' + 1) F && Nat.ble (8 + (nL' + 11) + Lo') Lo) = true) (hA' : (Nat.ble (k + mc') mc && Nat.ble (n + ms') ms) = true) (hE : AE l y' cc' nL' none F' Lo' mc' ms' she' sh σ ([.ref b]) (fun r σ' => AW l y cc nL ret F Lo mc ms she Post she' (k + mc') (n + ms') (σ') nx (ls) (r.toList ++ st))) : AW l y cc nL ret F Lo mc ms she Post sh k n (σ) pc (ls) (.ref b :: st) := by
  obtain ⟨hd1, hnx⟩ := hd
  intro B D aC sa sv p e R s m args below meth c H locs lsA C hP hS hL
  obtain ⟨hx, hb, hml, hr, hlk, hnm, hown, hts, hF, hLo, hmc, hms, hK, hBs⟩ := id C
  have hFF := (Bool.and_eq_true _ _).mp hF'
  have hAA := (Bool.and_eq_true _ _).mp hA'
  have g1 := Nat.le_of_ble_eq_true hFF.1
  have g2 := Nat.le_of_ble_eq_true hFF.2
  have g3 := Nat.le_of_ble_eq_true hAA.1
  have g4 := Nat.le_of_ble_eq_true hAA.2
  have hM := aw_met (n := 0) hm.2.2.2 (vals := [.ref b]) rfl (Nat.le_of_ble_eq_true hnL) hE B D aC sa sv
  refine aw_back (she' := she') (mc' := mc') (ms' := ms') (st := st) C hS hL (by have := hP.1; omega) hnx (a := (Value.ref (aw_f B sa b) :: []).toArray) ?_
  exact va_runIN (host := host) (As := []) (b := aw_f B sa b) ⟨hx, hb, hml, hown, hts⟩ hM ⟨va_cnB 0 hts (aw_goodIn hm.2.1) rfl rfl rfl (hK.2.2.2.1 _ hl) (hts _ hm.1) hm.2.2.1 ⟨by show F' + 1 ≤ _; omega, by show 8 + (nL' + 11) + Lo' ≤ _; omega⟩, hmI.1, hts _ hmI.2⟩ ⟨(fun a U g mk q => ⟨q.1, q.2.1, aw_Kn_calling q.2.2⟩), (fun U hU hW => ⟨rfl, by rw [hU]; exact hP, aw_Kn_moved hW (fun q h1 h2 => by rw [hU]; exact hS.2.1 q h1 h2) hK⟩)⟩ rfl rfl hL.1 rfl (aw_restcat hrest) hd1 ⟨by omega, by omega⟩
end AWN
