section AWH
variable {l : Launch} {y : MethodName} {cc : ByteArray} {nL : Nat} {ret : Option FieldType} {F Lo mc ms : Nat} {she : aw_Sh} {Post : Option Value → aw_S → Prop} {sh : aw_Sh} {k n : Nat} {σ : aw_S} {pc nx : Nat} {ls : List (Option Value)} {st : List Value}
theorem aw_f_lt {B : Nat} {sa : Nat → Nat} {a : Nat} {x : Nat ⊕ (Nat × Nat)} (hl : sh.length ≤ 1000000) (h : sh[a]? = some x) : aw_f B sa a = B + a := by
  have h1 : a < sh.length := (List.getElem?_eq_some_iff.mp h).1
  exact if_pos (by omega)
theorem aw_wsC {ci : Nat} {q : vw_C} (h : vwCl[ci]? = some q) : ∀ w ∈ u_ws q.1 q.2.1 q.2.2, w ∈ aw_tbl := by
  match ci, h with
  | 0, h => cases h; exact ws_X0
  | 1, h => cases h; exact ws_X1
  | 2, h => cases h; exact ws_X2
  | 3, h => cases h; exact ws_X3
  | 4, h => cases h; exact ws_X4
  | 5, h => cases h; exact ws_X5
  | 6, h => cases h; exact ws_X6
  | 7, h => cases h; exact ws_X7
  | 8, h => cases h; exact ws_X8
  | 9, h => cases h; exact ws_X9
  | 10, h => cases h; exact ws_X10
  | i + 11, h => simp [vwCl] at h
theorem aw_nmC {ci : Nat} {q : vw_C} (h : vwCl[ci]? = some q) : ∀ a, a < q.2.2 → ∀ b, b < q.2.2 → a ≠ b → (q.2.1 a).2.1 ≠ (q.2.1 b).2.1 := by
  match ci, h with
  | 0, h => cases h; exact nmX0
  | 1, h => cases h; exact nmX1
  | 2, h => cases h; exact nmX2
  | 3, h => cases h; exact nmX3
  | 4, h => cases h; exact nmX4
  | 5, h => cases h; exact nmX5
  | 6, h => cases h; exact nmX6
  | 7, h => cases h; exact nmX7
  | 8, h => cases h; exact nmX8
  | 9, h => cases h; exact nmX9
  | 10, h => cases h; exact nmX10
  | i + 11, h => simp [vwCl] at h
theorem aw_tyC {ci : Nat} {q : vw_C} (h : vwCl[ci]? = some q) : ∀ k, k < q.2.2 → parseFieldDescriptor (q.2.1 k).2.2.1 = some (aw_fty ci k) := by
  match ci, h with
  | 0, h => cases h; exact tyX0_ok
  | 1, h => cases h; exact tyX1_ok
  | 2, h => cases h; exact tyX2_ok
  | 3, h => cases h; exact tyX3_ok
  | 4, h => cases h; exact tyX4_ok
  | 5, h => cases h; exact tyX5_ok
  | 6, h => cases h; exact tyX6_ok
  | 7, h => cases h; exact tyX7_ok
  | 8, h => cases h; exact tyX8_ok
  | 9, h => cases h; exact tyX9_ok
  | 10, h => cases h; exact tyX10_ok
  | i + 11, h => simp [vwCl] at h
theorem aw_vaK {B : Nat} {D : va_G} {aC : Nat → ClassId} {sa sv : Nat → Nat} {s : State} (h : aw_Kn B D aC sa sv s) : va_K D vwCl [] s := ⟨h.1, fun k q h => by simp at h⟩
theorem a_get {idx ci j a : Nat} (hd : aw_d 3 cc pc (.getfield idx) nx) (hf : aw_fl y.cls idx ci j) (hs : sh[a]? = some (.inl ci)) {v : Value} (hv : ∀ φ, aw_m φ v = aw_cv φ (aw_fty ci j) σ a (j : Int)) (kk : AW l y cc nL ret F Lo mc ms she Post sh k n (σ) nx (ls) (v :: st)) : AW l y cc nL ret F Lo mc ms she Post sh k n (σ) pc (ls) (.ref a :: st) := by
  obtain ⟨hd1, rfl⟩ := hd
  intro B D aC sa sv p e R s m args below meth c H locs lsA C hP hS hL
  obtain ⟨hx, hb, hml, hr, hlk, hnm, hown, hts, hF, hLo, hmc, hms, hK, hBs⟩ := id C
  obtain ⟨q, hq, hj, hw⟩ := hf
  obtain ⟨r, hr1, cell, q1, q2, q3, q4⟩ := hP.2.2.1 a ci hs
  have e0 : r = q := Option.some.inj (hr1.symm.trans hq)
  subst e0
  obtain ⟨hSl, hfc, kC, hkC, hkind⟩ := hK.1 ci _ hq
  obtain ⟨cf, kf, fi, f, hi, hsl⟩ := hSl j hj
  have hst := (u_facts hfc hkC (u_lays hts (aw_wsC hq) hj) hi).1
  have e1 : aw_f B sa a = B + a := aw_f_lt hP.2.1 hs
  refine W.getf (v := aw_m (aw_f B sa) v) hx hb hown (hts _ hw) hi hst (a := aw_f B sa a) (cell := cell) (by rw [e1]; exact q1) (fun e => by rw [q3] at e; cases e) (by rw [hsl, hv]; exact q4 j hj) rfl rfl hd1 ?_
  exact kk B D aC sa sv p e R s m args below meth c H locs lsA C hP hS hL
theorem a_getI {idx ci j a : Nat} (j' : Int) (hd : aw_d 3 cc pc (.getfield idx) nx) (hf : aw_fl y.cls idx ci j) (hj : ((j : Nat) : Int) = j') (ht : aw_kd (aw_fty ci j) = 0) (hs : sh[a]? = some (.inl ci)) (kk : AW l y cc nL ret F Lo mc ms she Post sh k n (σ) nx (ls) (.int (jI (σ.1 a j')) :: st)) : AW l y cc nL ret F Lo mc ms she Post sh k n (σ) pc (ls) (.ref a :: st) :=
  a_get hd hf hs (v := .int (jI (σ.1 a j'))) (fun φ => by unfold aw_cv; rw [ht, hj]; rfl) kk
theorem a_getL {idx ci j a : Nat} (j' : Int) (hd : aw_d 3 cc pc (.getfield idx) nx) (hf : aw_fl y.cls idx ci j) (hj : ((j : Nat) : Int) = j') (ht : aw_kd (aw_fty ci j) = 1) (hs : sh[a]? = some (.inl ci)) (kk : AW l y cc nL ret F Lo mc ms she Post sh k n (σ) nx (ls) (.long (jL (σ.2.1 a j')) :: st)) : AW l y cc nL ret F Lo mc ms she Post sh k n (σ) pc (ls) (.ref a :: st) :=
  a_get hd hf hs (v := .long (jL (σ.2.1 a j'))) (fun φ => by unfold aw_cv; rw [ht, hj]; rfl) kk
theorem a_getR {idx ci j a : Nat} (j' : Int) (b : Nat) (hd : aw_d 3 cc pc (.getfield idx) nx) (hf : aw_fl y.cls idx ci j) (hj : ((j : Nat) : Int) = j') (ht : aw_kd (aw_fty ci j) = 2) (hs : sh[a]? = some (.inl ci)) (hb : σ.2.2 a j' = some b) (kk : AW l y cc nL ret F Lo mc ms she Post sh k n (σ) nx (ls) (.ref b :: st)) : AW l y cc nL ret F Lo mc ms she Post sh k n (σ) pc (ls) (.ref a :: st) :=
  a_get hd hf hs (v := .ref b) (fun φ => by unfold aw_cv; rw [ht, hj]; show _ = va_rf ((σ.2.2 a j').map φ); rw [hb]; rfl) kk
theorem aw_Pic.put {B : Nat} {φ : Nat → Nat} {D : va_G} {aC : Nat → ClassId} {σ' : aw_S} {H H' : Heap} {a : Nat} {x : Nat ⊕ (Nat × Nat)} (hP : aw_Pic B φ D aC sh σ H) (hs : sh[a]? = some x) (hz : H'.size = H.size) (ho : ∀ q, q ≠ B + a → H'[q]? = H[q]?)
    (hsame : ∀ (b : Nat) (j : Int) (t : FieldType), b ≠ a → aw_cv φ t σ' b j = aw_cv φ t σ b j)
    (hnew : match x with
      | .inl ci => ∃ r : vw_C, vwCl[ci]? = some r ∧ t_OB (B + a) (D.1 ci) r.2.2 (D.2 ci) H' (fun j => aw_cv φ (aw_fty ci j) σ' a (j : Int))
      | .inr (t, n) => t < 7 ∧ H'[B + a]? = some (arrV (aC t) n (fun j => aw_cv φ (aw_ty t) σ' a (j : Int)))) : aw_Pic B φ D aC sh σ' H' := by
  refine ⟨by rw [hz]; exact hP.1, hP.2.1, fun k ci hk => ?_, fun k t n hk => ?_⟩
  · by_cases e : k = a
    · subst e
      cases hs.symm.trans hk
      exact hnew
    · obtain ⟨r, h1, h2⟩ := hP.2.2.1 k ci hk
      exact ⟨r, h1, (h2.kept (ho _ (by omega))).to (fun j _ => (hsame k j _ e).symm)⟩
  · by_cases e : k = a
    · subst e
      cases hs.symm.trans hk
      exact hnew
    · obtain ⟨h1, h2⟩ := hP.2.2.2 k t n hk
      refine ⟨h1, ?_⟩
      rw [ho _ (by omega), h2]
      congr 1
      congr 1
      funext j
      exact (hsame k j _ e).symm
theorem a_put {idx ci j a : Nat} {σ' : aw_S} (hd : aw_d 3 cc pc (.putfield idx) nx) (hf : aw_fl y.cls idx ci j) (hs : sh[a]? = some (.inl ci)) (hfin : ∀ q, vwCl[ci]? = some q → (q.2.1 j).2.2.2 = false ∨ ((q.2.1 j).2.2.2 = true ∧ y.name = "<init>" ∧ (q.2.1 j).1 = y.cls)) {v : Value} (hn : ∀ φ, narrow (aw_fty ci j) (aw_m φ v) = aw_m φ v) (hfit : ∀ φ, fits (aw_fty ci j) (aw_m φ v) = true)
    (hsame : ∀ (φ : Nat → Nat) (b : Nat) (i : Int) (t : FieldType), b ≠ a → aw_cv φ t σ' b i = aw_cv φ t σ b i) (hsame2 : ∀ (φ : Nat → Nat) (i : Nat), i ≠ j → aw_cv φ (aw_fty ci i) σ' a (i : Int) = aw_cv φ (aw_fty ci i) σ a (i : Int)) (hv : ∀ φ, aw_cv φ (aw_fty ci j) σ' a (j : Int) = aw_m φ v) (kk : AW l y cc nL ret F Lo mc ms she Post sh k n (σ') nx (ls) (st)) : AW l y cc nL ret F Lo mc ms she Post sh k n (σ) pc (ls) (v :: .ref a :: st) := by
  obtain ⟨hd1, rfl⟩ := hd
  intro B D aC sa sv p e R s m args below meth c H locs lsA C hP hS hL
  obtain ⟨hx, hb, hml, hr, hlk, hnm, hown, hts, hF, hLo, hmc, hms, hK, hBs⟩ := id C
  obtain ⟨q, hq, hj, hw⟩ := hf
  obtain ⟨r, hr1, cell, q1, q2, q3, q4⟩ := hP.2.2.1 a ci hs
  have e0 : r = q := Option.some.inj (hr1.symm.trans hq)
  subst e0
  have hap := va_apart (own := y.cls) hts (aw_wsC hq) (aw_fty ci) (aw_tyC hq) (aw_nmC hq) (aw_vaK hK) hq
  obtain ⟨hSl, hfc, kC, hkC, hkind⟩ := hK.1 ci _ hq
  obtain ⟨cf, kf, fi, f, hi, hsl⟩ := hSl j hj
  have hst := (u_facts hfc hkC (u_lays hts (aw_wsC hq) hj) hi).1
  have e1 : aw_f B sa a = B + a := aw_f_lt hP.2.1 hs
  have hlay := hts _ (aw_wsC hq _ (u_in_lay hj))
  have key : ∀ (H' : Heap), H'[B + a]? = some (cell.setSlot f.slot (aw_m (aw_f B sa) v)) → H'.size = H.size → (∀ x, x ≠ B + a → H'[x]? = H[x]?) → W p l e R s m args below meth c H' (locs ++ [⟨B + a, f.slot⟩]) k n (MQ below (aw_Q B D aC sa she Post) args s mc ms (fun q => B ≤ q)) (F0 m (pc + 3) lsA (st.map (aw_m (aw_f B sa)))) := by
    intro H' g1 g2 g3
    refine kk B D aC sa sv p e R s m args below meth c H' _ lsA C (hP.put hs g2 g3 (hsame _) ?_) (hS.put g2 g3 (by omega)) hL
    rw [hsl] at g1
    refine ⟨r, hq, t_OB.to (V := updV (fun i => aw_cv (aw_f B sa) (aw_fty ci i) σ a (i : Int)) j (aw_m (aw_f B sa) v)) ⟨_, g1, q2, q3, t_set q4 hap hj _⟩ (fun i _ => ?_)⟩
    unfold updV
    by_cases e9 : i = j
    · subst e9
      rw [if_pos rfl]; exact (hv _).symm
    · rw [if_neg e9]; exact (hsame2 _ _ e9).symm
  show W p l e R s m args below meth c H locs k n _ (F0 m pc lsA (aw_m (aw_f B sa) v :: .ref (aw_f B sa a) :: st.map (aw_m (aw_f B sa))))
  rw [e1]
  unfold u_lay at hlay
  rcases hfin r hq with h0 | ⟨h0, h00, h01⟩
  · rw [if_neg (by rw [h0]; decide)] at hlay
    have h6 := u_store hfc hkC hkind hlay hi (aw_tyC hq j hj) (hn (aw_f B sa)) (hfit (aw_f B sa))
    exact W.putK hx hb (f := f) ⟨hown, hts _ hw, ⟨_, _, _, hi⟩, hst⟩ (by rw [q2]; exact h6) q1 q3 (by rw [hsl]; exact k2_hasslot (q4 j hj)) rfl rfl hd1 key
  · rw [if_pos h0] at hlay
    have hcf : m.cls = cf := by
      obtain ⟨_, _, c', _, _, _, -, -, hf', -, -, -, hown2, -⟩ := Cond.laysFinal_spec hlay
      have e1 : c' = cf := by have := hi.symm.trans hf'; simp at this; exact this.1.symm
      rw [h01] at hown2
      rw [← e1]; exact Option.some.inj (hown.symm.trans hown2)
    have h6 := u_fits hfc hkC hkind (Or.inr hlay) hi (aw_tyC hq j hj) (hn (aw_f B sa)) (hfit (aw_f B sa))
    exact W.putFinK hx hb hown (hts _ hw) hi hst hcf (hnm.trans h00) (by rw [q2]; exact h6) q1 q3 (by rw [hsl]; exact k2_hasslot (q4 j hj)) rfl rfl hd1 key
theorem aw_cv_si {φ : Nat → Nat} {t : FieldType} {a b : Nat} {j i : Int} {v : Int} (h : ¬ (b = a ∧ i = j)) : aw_cv φ t (aw_si σ a j v) b i = aw_cv φ t σ b i := by
  have e : (aw_si σ a j v).1 b i = σ.1 b i := if_neg h
  unfold aw_cv
  match aw_kd t with
  | 0 => show Value.int _ = Value.int _; rw [e]
  | 1 => rfl
  | n + 2 => rfl
theorem aw_cv_sl {φ : Nat → Nat} {t : FieldType} {a b : Nat} {j i : Int} {v : Int} (h : ¬ (b = a ∧ i = j)) : aw_cv φ t (aw_sl σ a j v) b i = aw_cv φ t σ b i := by
  have e : (aw_sl σ a j v).2.1 b i = σ.2.1 b i := if_neg h
  unfold aw_cv
  match aw_kd t with
  | 0 => rfl
  | 1 => show Value.long _ = Value.long _; rw [e]
  | n + 2 => rfl
theorem aw_cv_sr {φ : Nat → Nat} {t : FieldType} {a b : Nat} {j i : Int} {v : Option Nat} (h : ¬ (b = a ∧ i = j)) : aw_cv φ t (aw_sr σ a j v) b i = aw_cv φ t σ b i := by
  have e : (aw_sr σ a j v).2.2 b i = σ.2.2 b i := if_neg h
  unfold aw_cv
  match aw_kd t with
  | 0 => rfl
  | 1 => rfl
  | n + 2 => show va_rf _ = va_rf _; rw [e]
theorem a_putI {idx ci j a : Nat} {v : Int} (j' : Int) (hd : aw_d 3 cc pc (.putfield idx) nx) (hf : aw_fl y.cls idx ci j) (hj : ((j : Nat) : Int) = j') (ht : aw_fty ci j = .int) (hs : sh[a]? = some (.inl ci)) (hfin : ∀ q, vwCl[ci]? = some q → (q.2.1 j).2.2.2 = false ∨ ((q.2.1 j).2.2.2 = true ∧ y.name = "<init>" ∧ (q.2.1 j).1 = y.cls)) (kk : AW l y cc nL ret F Lo mc ms she Post sh k n (aw_si σ a j' v) nx (ls) (st)) : AW l y cc nL ret F Lo mc ms she Post sh k n (σ) pc (ls) (.int (jI v) :: .ref a :: st) :=
  a_put hd hf hs hfin (v := .int (jI v)) (fun φ => by rw [ht]; rfl) (fun φ => by rw [ht]; rfl) (fun φ b i t h => aw_cv_si (fun e => h e.1)) (fun φ i h => aw_cv_si (fun e => h (by have := e.2; omega))) (fun φ => by unfold aw_cv; rw [ht, hj]; show Value.int _ = Value.int (jI v); rw [show (aw_si σ a j' v).1 a j' = v from if_pos ⟨rfl, rfl⟩]) kk
theorem a_putZ {idx ci j a : Nat} {v : Int} (j' : Int) (hd : aw_d 3 cc pc (.putfield idx) nx) (hf : aw_fl y.cls idx ci j) (hj : ((j : Nat) : Int) = j') (ht : aw_fty ci j = .boolean) (hv : v = 0 ∨ v = 1) (hs : sh[a]? = some (.inl ci)) (hfin : ∀ q, vwCl[ci]? = some q → (q.2.1 j).2.2.2 = false ∨ ((q.2.1 j).2.2.2 = true ∧ y.name = "<init>" ∧ (q.2.1 j).1 = y.cls)) (kk : AW l y cc nL ret F Lo mc ms she Post sh k n (aw_si σ a j' v) nx (ls) (st)) : AW l y cc nL ret F Lo mc ms she Post sh k n (σ) pc (ls) (.int (jI v) :: .ref a :: st) :=
  a_put hd hf hs hfin (v := .int (jI v)) (fun φ => by rw [ht]; rcases hv with rfl | rfl <;> rfl) (fun φ => by rw [ht]; rcases hv with rfl | rfl <;> rfl) (fun φ b i t h => aw_cv_si (fun e => h e.1)) (fun φ i h => aw_cv_si (fun e => h (by have := e.2; omega))) (fun φ => by unfold aw_cv; rw [ht, hj]; show Value.int _ = Value.int (jI v); rw [show (aw_si σ a j' v).1 a j' = v from if_pos ⟨rfl, rfl⟩]) kk
theorem a_putL {idx ci j a : Nat} {v : Int} (j' : Int) (hd : aw_d 3 cc pc (.putfield idx) nx) (hf : aw_fl y.cls idx ci j) (hj : ((j : Nat) : Int) = j') (ht : aw_fty ci j = .long) (hs : sh[a]? = some (.inl ci)) (hfin : ∀ q, vwCl[ci]? = some q → (q.2.1 j).2.2.2 = false ∨ ((q.2.1 j).2.2.2 = true ∧ y.name = "<init>" ∧ (q.2.1 j).1 = y.cls)) (kk : AW l y cc nL ret F Lo mc ms she Post sh k n (aw_sl σ a j' v) nx (ls) (st)) : AW l y cc nL ret F Lo mc ms she Post sh k n (σ) pc (ls) (.long (jL v) :: .ref a :: st) :=
  a_put hd hf hs hfin (v := .long (jL v)) (fun φ => by rw [ht]; rfl) (fun φ => by rw [ht]; rfl) (fun φ b i t h => aw_cv_sl (fun e => h e.1)) (fun φ i h => aw_cv_sl (fun e => h (by have := e.2; omega))) (fun φ => by unfold aw_cv; rw [ht, hj]; show Value.long _ = Value.long (jL v); rw [show (aw_sl σ a j' v).2.1 a j' = v from if_pos ⟨rfl, rfl⟩]) kk
theorem a_putR {idx ci j a b : Nat} (j' : Int) (hd : aw_d 3 cc pc (.putfield idx) nx) (hf : aw_fl y.cls idx ci j) (hj : ((j : Nat) : Int) = j') (ht : (∃ C, aw_fty ci j = .object C) ∨ ∃ t, aw_fty ci j = .array t) (hs : sh[a]? = some (.inl ci)) (hfin : ∀ q, vwCl[ci]? = some q → (q.2.1 j).2.2.2 = false ∨ ((q.2.1 j).2.2.2 = true ∧ y.name = "<init>" ∧ (q.2.1 j).1 = y.cls)) (kk : AW l y cc nL ret F Lo mc ms she Post sh k n (aw_sr σ a j' (some b)) nx (ls) (st)) : AW l y cc nL ret F Lo mc ms she Post sh k n (σ) pc (ls) (.ref b :: .ref a :: st) :=
  a_put hd hf hs hfin (v := .ref b) (fun φ => by rcases ht with ⟨C, ht⟩ | ⟨t, ht⟩ <;> rw [ht] <;> rfl) (fun φ => by rcases ht with ⟨C, ht⟩ | ⟨t, ht⟩ <;> rw [ht] <;> rfl) (fun φ b i t h => aw_cv_sr (fun e => h e.1)) (fun φ i h => aw_cv_sr (fun e => h (by have := e.2; omega))) (fun φ => by
    have e : (aw_sr σ a j' (some b)).2.2 a j' = some b := if_pos ⟨rfl, rfl⟩
    unfold aw_cv
    rcases ht with ⟨C, ht⟩ | ⟨t, ht⟩ <;> rw [ht, hj] <;> show va_rf (((aw_sr σ a j' (some b)).2.2 a j').map φ) = _ <;> rw [e] <;> rfl) kk
theorem a_iald {a N : Nat} {i : Int} (hd : aw_d 1 cc pc (.iaload) nx) (hs : sh[a]? = some (.inr (0, N))) (hN : Nat.ble N 2147483647 = true) (hi : 0 ≤ i ∧ i < (N : Int)) (kk : AW l y cc nL ret F Lo mc ms she Post sh k n (σ) nx (ls) (.int (jI (σ.1 a i)) :: st)) : AW l y cc nL ret F Lo mc ms she Post sh k n (σ) pc (ls) (.int (jI i) :: .ref a :: st) := by
  have hin : vp_in (jI i) N := jI_in hi (Nat.le_of_ble_eq_true hN)
  have hcl : (jI i).toNatClampNeg = i.toNat := jI_clamp hi (Nat.le_of_ble_eq_true hN)
  have hcc : ((i.toNat : Nat) : Int) = i := Int.toNat_of_nonneg hi.1
  obtain ⟨hd1, rfl⟩ := hd
  intro B D aC sa sv p e R s m args below meth c H locs lsA C hP hS hL
  obtain ⟨hx, hb, hml, hr, hlk, hnm, hown, hts, hF, hLo, hmc, hms, hK, hBs⟩ := id C
  obtain ⟨-, h2⟩ := hP.2.2.2 a _ _ hs
  have e1 : aw_f B sa a = B + a := aw_f_lt hP.2.1 hs
  have hlt : i.toNat < N := by omega
  refine W.iald (v := .int (jI (σ.1 a i))) hx hb (a := aw_f B sa a) (by rw [e1]; exact h2) ((hK.2.1 0 (by decide)).1 N _) (fun q => by cases q) (by show ¬ (jI i < 0 ∨ (arrV _ _ _).slots.size ≤ _); rw [arrV_size]; exact hin) (by show (arrV _ _ _).slots[_]? = _; rw [hcl, arrV_read _ _ hlt]; show some (aw_cv _ _ _ _ ((i.toNat : Nat) : Int)) = _; rw [hcc]; rfl) rfl rfl hd1 ?_
  exact kk B D aC sa sv p e R s m args below meth c H locs lsA C hP hS hL
theorem a_bald {a N : Nat} {i : Int} (hd : aw_d 1 cc pc (.baload) nx) (hs : sh[a]? = some (.inr (1, N))) (hN : Nat.ble N 2147483647 = true) (hi : 0 ≤ i ∧ i < (N : Int)) (kk : AW l y cc nL ret F Lo mc ms she Post sh k n (σ) nx (ls) (.int (jI (σ.1 a i)) :: st)) : AW l y cc nL ret F Lo mc ms she Post sh k n (σ) pc (ls) (.int (jI i) :: .ref a :: st) := by
  have hin : vp_in (jI i) N := jI_in hi (Nat.le_of_ble_eq_true hN)
  have hcl : (jI i).toNatClampNeg = i.toNat := jI_clamp hi (Nat.le_of_ble_eq_true hN)
  have hcc : ((i.toNat : Nat) : Int) = i := Int.toNat_of_nonneg hi.1
  obtain ⟨hd1, rfl⟩ := hd
  intro B D aC sa sv p e R s m args below meth c H locs lsA C hP hS hL
  obtain ⟨hx, hb, hml, hr, hlk, hnm, hown, hts, hF, hLo, hmc, hms, hK, hBs⟩ := id C
  obtain ⟨-, h2⟩ := hP.2.2.2 a _ _ hs
  have e1 : aw_f B sa a = B + a := aw_f_lt hP.2.1 hs
  have hlt : i.toNat < N := by omega
  refine W.bald (v := .int (jI (σ.1 a i))) hx hb (a := aw_f B sa a) (by rw [e1]; exact h2) ((hK.2.1 1 (by decide)).1 N _) (fun q => by cases q) (by show ¬ (jI i < 0 ∨ (arrV _ _ _).slots.size ≤ _); rw [arrV_size]; exact hin) (by show (arrV _ _ _).slots[_]? = _; rw [hcl, arrV_read _ _ hlt]; show some (aw_cv _ _ _ _ ((i.toNat : Nat) : Int)) = _; rw [hcc]; rfl) rfl rfl hd1 ?_
  exact kk B D aC sa sv p e R s m args below meth c H locs lsA C hP hS hL
theorem a_zald {a N : Nat} {i : Int} (hd : aw_d 1 cc pc (.baload) nx) (hs : sh[a]? = some (.inr (2, N))) (hN : Nat.ble N 2147483647 = true) (hi : 0 ≤ i ∧ i < (N : Int)) (kk : AW l y cc nL ret F Lo mc ms she Post sh k n (σ) nx (ls) (.int (jI (σ.1 a i)) :: st)) : AW l y cc nL ret F Lo mc ms she Post sh k n (σ) pc (ls) (.int (jI i) :: .ref a :: st) := by
  have hin : vp_in (jI i) N := jI_in hi (Nat.le_of_ble_eq_true hN)
  have hcl : (jI i).toNatClampNeg = i.toNat := jI_clamp hi (Nat.le_of_ble_eq_true hN)
  have hcc : ((i.toNat : Nat) : Int) = i := Int.toNat_of_nonneg hi.1
  obtain ⟨hd1, rfl⟩ := hd
  intro B D aC sa sv p e R s m args below meth c H locs lsA C hP hS hL
  obtain ⟨hx, hb, hml, hr, hlk, hnm, hown, hts, hF, hLo, hmc, hms, hK, hBs⟩ := id C
  obtain ⟨-, h2⟩ := hP.2.2.2 a _ _ hs
  have e1 : aw_f B sa a = B + a := aw_f_lt hP.2.1 hs
  have hlt : i.toNat < N := by omega
  refine W.zald (v := .int (jI (σ.1 a i))) hx hb (a := aw_f B sa a) (by rw [e1]; exact h2) ((hK.2.1 2 (by decide)).1 N _) (fun q => by cases q) (by show ¬ (jI i < 0 ∨ (arrV _ _ _).slots.size ≤ _); rw [arrV_size]; exact hin) (by show (arrV _ _ _).slots[_]? = _; rw [hcl, arrV_read _ _ hlt]; show some (aw_cv _ _ _ _ ((i.toNat : Nat) : Int)) = _; rw [hcc]; rfl) rfl rfl hd1 ?_
  exact kk B D aC sa sv p e R s m args below meth c H locs lsA C hP hS hL
theorem a_lald {a N : Nat} {i : Int} (hd : aw_d 1 cc pc (.laload) nx) (hs : sh[a]? = some (.inr (3, N))) (hN : Nat.ble N 2147483647 = true) (hi : 0 ≤ i ∧ i < (N : Int)) (kk : AW l y cc nL ret F Lo mc ms she Post sh k n (σ) nx (ls) (.long (jL (σ.2.1 a i)) :: st)) : AW l y cc nL ret F Lo mc ms she Post sh k n (σ) pc (ls) (.int (jI i) :: .ref a :: st) := by
  have hin : vp_in (jI i) N := jI_in hi (Nat.le_of_ble_eq_true hN)
  have hcl : (jI i).toNatClampNeg = i.toNat := jI_clamp hi (Nat.le_of_ble_eq_true hN)
  have hcc : ((i.toNat : Nat) : Int) = i := Int.toNat_of_nonneg hi.1
  obtain ⟨hd1, rfl⟩ := hd
  intro B D aC sa sv p e R s m args below meth c H locs lsA C hP hS hL
  obtain ⟨hx, hb, hml, hr, hlk, hnm, hown, hts, hF, hLo, hmc, hms, hK, hBs⟩ := id C
  obtain ⟨-, h2⟩ := hP.2.2.2 a _ _ hs
  have e1 : aw_f B sa a = B + a := aw_f_lt hP.2.1 hs
  have hlt : i.toNat < N := by omega
  refine W.lald (v := .long (jL (σ.2.1 a i))) hx hb (a := aw_f B sa a) (by rw [e1]; exact h2) ((hK.2.1 3 (by decide)).1 N _) (fun q => by cases q) (by show ¬ (jI i < 0 ∨ (arrV _ _ _).slots.size ≤ _); rw [arrV_size]; exact hin) (by show (arrV _ _ _).slots[_]? = _; rw [hcl, arrV_read _ _ hlt]; show some (aw_cv _ _ _ _ ((i.toNat : Nat) : Int)) = _; rw [hcc]; rfl) rfl rfl hd1 ?_
  exact kk B D aC sa sv p e R s m args below meth c H locs lsA C hP hS hL
theorem a_aald {a N T : Nat} {i : Int} (b : Nat) (hd : aw_d 1 cc pc (.aaload) nx) (hs : sh[a]? = some (.inr (T, N))) (hT : aw_kd (aw_ty T) = 2) (hT2 : (aw_ty T).isReference = true) (hN : Nat.ble N 2147483647 = true) (hi : 0 ≤ i ∧ i < (N : Int)) (hbb : σ.2.2 a i = some b) (kk : AW l y cc nL ret F Lo mc ms she Post sh k n (σ) nx (ls) (.ref b :: st)) : AW l y cc nL ret F Lo mc ms she Post sh k n (σ) pc (ls) (.int (jI i) :: .ref a :: st) := by
  have hin : vp_in (jI i) N := jI_in hi (Nat.le_of_ble_eq_true hN)
  have hcl : (jI i).toNatClampNeg = i.toNat := jI_clamp hi (Nat.le_of_ble_eq_true hN)
  have hcc : ((i.toNat : Nat) : Int) = i := Int.toNat_of_nonneg hi.1
  obtain ⟨hd1, rfl⟩ := hd
  intro B D aC sa sv p e R s m args below meth c H locs lsA C hP hS hL
  obtain ⟨hx, hb, hml, hr, hlk, hnm, hown, hts, hF, hLo, hmc, hms, hK, hBs⟩ := id C
  obtain ⟨h7, h2⟩ := hP.2.2.2 a _ _ hs
  have e1 : aw_f B sa a = B + a := aw_f_lt hP.2.1 hs
  have hlt : i.toNat < N := by omega
  refine W.aald (v := .ref (aw_f B sa b)) (ty := aw_ty T) hx hb (a := aw_f B sa a) (by rw [e1]; exact h2) ((hK.2.1 T h7).1 N _) hT2 (fun q => by cases q) (by show ¬ (jI i < 0 ∨ (arrV _ _ _).slots.size ≤ _); rw [arrV_size]; exact hin) (by show (arrV _ _ _).slots[_]? = _; rw [hcl, arrV_read _ _ hlt]; show some (aw_cv _ _ _ _ ((i.toNat : Nat) : Int)) = _; rw [hcc]; unfold aw_cv; rw [hT]; show some (va_rf ((σ.2.2 a i).map (aw_f B sa))) = _; rw [hbb]; rfl) rfl rfl hd1 ?_
  exact kk B D aC sa sv p e R s m args below meth c H locs lsA C hP hS hL
theorem a_iast {a N : Nat} {i : Int} {x : Int} (hd : aw_d 1 cc pc (.iastore) nx) (hs : sh[a]? = some (.inr (0, N))) (hN : Nat.ble N 2147483647 = true) (hi : 0 ≤ i ∧ i < (N : Int)) (kk : AW l y cc nL ret F Lo mc ms she Post sh k n (aw_si σ a i x) nx (ls) (st)) : AW l y cc nL ret F Lo mc ms she Post sh k n (σ) pc (ls) (.int (jI x) :: .int (jI i) :: .ref a :: st) := by
  have hin : vp_in (jI i) N := jI_in hi (Nat.le_of_ble_eq_true hN)
  have hcl : (jI i).toNatClampNeg = i.toNat := jI_clamp hi (Nat.le_of_ble_eq_true hN)
  have hcc : ((i.toNat : Nat) : Int) = i := Int.toNat_of_nonneg hi.1
  obtain ⟨hd1, rfl⟩ := hd
  intro B D aC sa sv p e R s m args below meth c H locs lsA C hP hS hL
  obtain ⟨hx, hb, hml, hr, hlk, hnm, hown, hts, hF, hLo, hmc, hms, hK, hBs⟩ := id C
  obtain ⟨-, h2⟩ := hP.2.2.2 a _ _ hs
  have e1 : aw_f B sa a = B + a := aw_f_lt hP.2.1 hs
  show W p l e R s m args below meth c H locs k n _ (F0 m pc lsA (.int (jI x) :: .int (jI i) :: .ref (aw_f B sa a) :: st.map (aw_m (aw_f B sa))))
  rw [e1]
  refine W.iast hx hb h2 ((hK.2.1 0 (by decide)).1 N _) (fun q => by cases q) (by show ¬ (jI i < 0 ∨ (arrV _ _ _).slots.size ≤ _); rw [arrV_size]; exact hin) rfl rfl hd1 fun H' g1 g2 g3 => ?_
  refine kk B D aC sa sv p e R s m args below meth c H' _ lsA C (hP.put hs g2 g3 (fun b j t h => aw_cv_si (fun e => h e.1)) ⟨by decide, ?_⟩) (hS.put g2 g3 (by omega)) hL
  rw [g1, hcl, arrV_store]
  congr 1
  congr 1
  funext j
  unfold updV
  by_cases e9 : j = i.toNat
  · rw [if_pos e9, e9, hcc]
    show _ = Value.int (jI ((aw_si σ a i x).1 a i))
    rw [show (aw_si σ a i x).1 a i = x from if_pos ⟨rfl, rfl⟩]
    first | done | (rw [jI_self]; done) | (rw [jI_self]; rfl) | rfl
  · rw [if_neg e9]
    exact (aw_cv_si (fun e => e9 (by have := e.2; omega))).symm
theorem a_bast {a N : Nat} {i : Int} {x : Int} (hd : aw_d 1 cc pc (.bastore) nx) (hs : sh[a]? = some (.inr (1, N))) (hN : Nat.ble N 2147483647 = true) (hi : 0 ≤ i ∧ i < (N : Int)) (kk : AW l y cc nL ret F Lo mc ms she Post sh k n (aw_si σ a i (vp_nar .byte (jI x)).toInt) nx (ls) (st)) : AW l y cc nL ret F Lo mc ms she Post sh k n (σ) pc (ls) (.int (jI x) :: .int (jI i) :: .ref a :: st) := by
  have hin : vp_in (jI i) N := jI_in hi (Nat.le_of_ble_eq_true hN)
  have hcl : (jI i).toNatClampNeg = i.toNat := jI_clamp hi (Nat.le_of_ble_eq_true hN)
  have hcc : ((i.toNat : Nat) : Int) = i := Int.toNat_of_nonneg hi.1
  obtain ⟨hd1, rfl⟩ := hd
  intro B D aC sa sv p e R s m args below meth c H locs lsA C hP hS hL
  obtain ⟨hx, hb, hml, hr, hlk, hnm, hown, hts, hF, hLo, hmc, hms, hK, hBs⟩ := id C
  obtain ⟨-, h2⟩ := hP.2.2.2 a _ _ hs
  have e1 : aw_f B sa a = B + a := aw_f_lt hP.2.1 hs
  show W p l e R s m args below meth c H locs k n _ (F0 m pc lsA (.int (jI x) :: .int (jI i) :: .ref (aw_f B sa a) :: st.map (aw_m (aw_f B sa))))
  rw [e1]
  refine W.bast hx hb h2 ((hK.2.1 1 (by decide)).1 N _) (fun q => by cases q) (by show ¬ (jI i < 0 ∨ (arrV _ _ _).slots.size ≤ _); rw [arrV_size]; exact hin) rfl rfl hd1 fun H' g1 g2 g3 => ?_
  refine kk B D aC sa sv p e R s m args below meth c H' _ lsA C (hP.put hs g2 g3 (fun b j t h => aw_cv_si (fun e => h e.1)) ⟨by decide, ?_⟩) (hS.put g2 g3 (by omega)) hL
  rw [g1, hcl, arrV_store]
  congr 1
  congr 1
  funext j
  unfold updV
  by_cases e9 : j = i.toNat
  · rw [if_pos e9, e9, hcc]
    show _ = Value.int (jI ((aw_si σ a i (vp_nar .byte (jI x)).toInt).1 a i))
    rw [show (aw_si σ a i (vp_nar .byte (jI x)).toInt).1 a i = (vp_nar .byte (jI x)).toInt from if_pos ⟨rfl, rfl⟩]
    first | done | (rw [jI_self]; done) | (rw [jI_self]; rfl) | rfl
  · rw [if_neg e9]
    exact (aw_cv_si (fun e => e9 (by have := e.2; omega))).symm
theorem a_zast {a N : Nat} {i : Int} {x : Int} (hd : aw_d 1 cc pc (.bastore) nx) (hs : sh[a]? = some (.inr (2, N))) (hN : Nat.ble N 2147483647 = true) (hi : 0 ≤ i ∧ i < (N : Int)) (kk : AW l y cc nL ret F Lo mc ms she Post sh k n (aw_si σ a i (vp_nar .boolean (jI x)).toInt) nx (ls) (st)) : AW l y cc nL ret F Lo mc ms she Post sh k n (σ) pc (ls) (.int (jI x) :: .int (jI i) :: .ref a :: st) := by
  have hin : vp_in (jI i) N := jI_in hi (Nat.le_of_ble_eq_true hN)
  have hcl : (jI i).toNatClampNeg = i.toNat := jI_clamp hi (Nat.le_of_ble_eq_true hN)
  have hcc : ((i.toNat : Nat) : Int) = i := Int.toNat_of_nonneg hi.1
  obtain ⟨hd1, rfl⟩ := hd
  intro B D aC sa sv p e R s m args below meth c H locs lsA C hP hS hL
  obtain ⟨hx, hb, hml, hr, hlk, hnm, hown, hts, hF, hLo, hmc, hms, hK, hBs⟩ := id C
  obtain ⟨-, h2⟩ := hP.2.2.2 a _ _ hs
  have e1 : aw_f B sa a = B + a := aw_f_lt hP.2.1 hs
  show W p l e R s m args below meth c H locs k n _ (F0 m pc lsA (.int (jI x) :: .int (jI i) :: .ref (aw_f B sa a) :: st.map (aw_m (aw_f B sa))))
  rw [e1]
  refine W.zast hx hb h2 ((hK.2.1 2 (by decide)).1 N _) (fun q => by cases q) (by show ¬ (jI i < 0 ∨ (arrV _ _ _).slots.size ≤ _); rw [arrV_size]; exact hin) rfl rfl hd1 fun H' g1 g2 g3 => ?_
  refine kk B D aC sa sv p e R s m args below meth c H' _ lsA C (hP.put hs g2 g3 (fun b j t h => aw_cv_si (fun e => h e.1)) ⟨by decide, ?_⟩) (hS.put g2 g3 (by omega)) hL
  rw [g1, hcl, arrV_store]
  congr 1
  congr 1
  funext j
  unfold updV
  by_cases e9 : j = i.toNat
  · rw [if_pos e9, e9, hcc]
    show _ = Value.int (jI ((aw_si σ a i (vp_nar .boolean (jI x)).toInt).1 a i))
    rw [show (aw_si σ a i (vp_nar .boolean (jI x)).toInt).1 a i = (vp_nar .boolean (jI x)).toInt from if_pos ⟨rfl, rfl⟩]
    first | done | (rw [jI_self]; done) | (rw [jI_self]; rfl) | rfl
  · rw [if_neg e9]
    exact (aw_cv_si (fun e => e9 (by have := e.2; omega))).symm
theorem a_last {a N : Nat} {i : Int} {x : Int} (hd : aw_d 1 cc pc (.lastore) nx) (hs : sh[a]? = some (.inr (3, N))) (hN : Nat.ble N 2147483647 = true) (hi : 0 ≤ i ∧ i < (N : Int)) (kk : AW l y cc nL ret F Lo mc ms she Post sh k n (aw_sl σ a i x) nx (ls) (st)) : AW l y cc nL ret F Lo mc ms she Post sh k n (σ) pc (ls) (.long (jL x) :: .int (jI i) :: .ref a :: st) := by
  have hin : vp_in (jI i) N := jI_in hi (Nat.le_of_ble_eq_true hN)
  have hcl : (jI i).toNatClampNeg = i.toNat := jI_clamp hi (Nat.le_of_ble_eq_true hN)
  have hcc : ((i.toNat : Nat) : Int) = i := Int.toNat_of_nonneg hi.1
  obtain ⟨hd1, rfl⟩ := hd
  intro B D aC sa sv p e R s m args below meth c H locs lsA C hP hS hL
  obtain ⟨hx, hb, hml, hr, hlk, hnm, hown, hts, hF, hLo, hmc, hms, hK, hBs⟩ := id C
  obtain ⟨-, h2⟩ := hP.2.2.2 a _ _ hs
  have e1 : aw_f B sa a = B + a := aw_f_lt hP.2.1 hs
  show W p l e R s m args below meth c H locs k n _ (F0 m pc lsA (.long (jL x) :: .int (jI i) :: .ref (aw_f B sa a) :: st.map (aw_m (aw_f B sa))))
  rw [e1]
  refine W.last hx hb h2 ((hK.2.1 3 (by decide)).1 N _) (fun q => by cases q) (by show ¬ (jI i < 0 ∨ (arrV _ _ _).slots.size ≤ _); rw [arrV_size]; exact hin) rfl rfl hd1 fun H' g1 g2 g3 => ?_
  refine kk B D aC sa sv p e R s m args below meth c H' _ lsA C (hP.put hs g2 g3 (fun b j t h => aw_cv_sl (fun e => h e.1)) ⟨by decide, ?_⟩) (hS.put g2 g3 (by omega)) hL
  rw [g1, hcl, arrV_store]
  congr 1
  congr 1
  funext j
  unfold updV
  by_cases e9 : j = i.toNat
  · rw [if_pos e9, e9, hcc]
    show _ = Value.long (jL ((aw_sl σ a i x).2.1 a i))
    rw [show (aw_sl σ a i x).2.1 a i = x from if_pos ⟨rfl, rfl⟩]
    first | done | (rw [jI_self]; done) | (rw [jI_self]; rfl) | rfl
  · rw [if_neg e9]
    exact (aw_cv_sl (fun e => e9 (by have := e.2; omega))).symm
theorem a_alen {a N T : Nat} (hd : aw_d 1 cc pc (.arraylength) nx) (hs : sh[a]? = some (.inr (T, N))) (kk : AW l y cc nL ret F Lo mc ms she Post sh k n (σ) nx (ls) (.int (jI (N : Int)) :: st)) : AW l y cc nL ret F Lo mc ms she Post sh k n (σ) pc (ls) (.ref a :: st) := by
  obtain ⟨hd1, rfl⟩ := hd
  intro B D aC sa sv p e R s m args below meth c H locs lsA C hP hS hL
  obtain ⟨hx, hb, hml, hr, hlk, hnm, hown, hts, hF, hLo, hmc, hms, hK, hBs⟩ := id C
  obtain ⟨h7, h2⟩ := hP.2.2.2 a _ _ hs
  have e1 : aw_f B sa a = B + a := aw_f_lt hP.2.1 hs
  refine W.alen (n := jI (N : Int)) hx hb (a := aw_f B sa a) (by rw [e1]; exact h2) ((hK.2.1 T h7).1 N _) (by rw [arrV_size]; exact Int32.ofInt_eq_ofNat.symm) rfl rfl hd1 ?_
  exact kk B D aC sa sv p e R s m args below meth c H locs lsA C hP hS hL
theorem a_iret {v : Int} (hd : aw_d 1 cc pc (.ireturn) nx) (hrt : ret = some .int) (hsh : sh = she) (hk : k ≤ mc ∧ n ≤ ms) (kk : Post (some (.int (jI v))) σ) : AW l y cc nL ret F Lo mc ms she Post sh k n (σ) pc (ls) ([.int (jI v)]) := by
  obtain ⟨hd1, rfl⟩ := hd
  subst hsh
  intro B D aC sa sv p e R s m args below meth c H locs lsA C hP hS hL
  obtain ⟨hx, hb, hml, hr, hlk, hnm, hown, hts, hF, hLo, hmc, hms, hK, hBs⟩ := id C
  refine W.widen hk.1 hk.2 ?_
  exact W.iret (v := jI v) hx hb (hr.trans hrt) (fun t ht hW => ⟨some (.int (jI v)), σ, rfl, kk, by rw [ht]; exact hP, hS.F ht⟩) hS.2.2 hd1 hlk
theorem a_zret {v : Int} (hd : aw_d 1 cc pc (.ireturn) nx) (hrt : ret = some .boolean) (hv : v = 0 ∨ v = 1) (hsh : sh = she) (hk : k ≤ mc ∧ n ≤ ms) (kk : Post (some (.int (jI v))) σ) : AW l y cc nL ret F Lo mc ms she Post sh k n (σ) pc (ls) ([.int (jI v)]) := by
  obtain ⟨hd1, rfl⟩ := hd
  subst hsh
  intro B D aC sa sv p e R s m args below meth c H locs lsA C hP hS hL
  obtain ⟨hx, hb, hml, hr, hlk, hnm, hown, hts, hF, hLo, hmc, hms, hK, hBs⟩ := id C
  refine W.widen hk.1 hk.2 ?_
  exact W.zret (v := jI v) hx hb (hr.trans hrt) (by rcases hv with rfl | rfl <;> rfl) (fun t ht hW => ⟨some (.int (jI v)), σ, rfl, kk, by rw [ht]; exact hP, hS.F ht⟩) hS.2.2 hd1 hlk
theorem a_lret {v : Int} (hd : aw_d 1 cc pc (.lreturn) nx) (hrt : ret = some .long) (hsh : sh = she) (hk : k ≤ mc ∧ n ≤ ms) (kk : Post (some (.long (jL v))) σ) : AW l y cc nL ret F Lo mc ms she Post sh k n (σ) pc (ls) ([.long (jL v)]) := by
  obtain ⟨hd1, rfl⟩ := hd
  subst hsh
  intro B D aC sa sv p e R s m args below meth c H locs lsA C hP hS hL
  obtain ⟨hx, hb, hml, hr, hlk, hnm, hown, hts, hF, hLo, hmc, hms, hK, hBs⟩ := id C
  refine W.widen hk.1 hk.2 ?_
  exact W.lret (v := jL v) hx hb (hr.trans hrt) (fun t ht hW => ⟨some (.long (jL v)), σ, rfl, kk, by rw [ht]; exact hP, hS.F ht⟩) hS.2.2 hd1 hlk
theorem a_vret (hd : aw_d 1 cc pc (.return_) nx) (hrt : ret = none) (hsh : sh = she) (hk : k ≤ mc ∧ n ≤ ms) (kk : Post (none) σ) : AW l y cc nL ret F Lo mc ms she Post sh k n (σ) pc (ls) ([]) := by
  obtain ⟨hd1, rfl⟩ := hd
  subst hsh
  intro B D aC sa sv p e R s m args below meth c H locs lsA C hP hS hL
  obtain ⟨hx, hb, hml, hr, hlk, hnm, hown, hts, hF, hLo, hmc, hms, hK, hBs⟩ := id C
  refine W.widen hk.1 hk.2 ?_
  exact W.vret hx hb (hr.trans hrt) (fun t ht hW => ⟨none, σ, rfl, kk, by rw [ht]; exact hP, hS.F ht⟩) hS.2.2 hd1 hlk
end AWH
