/-! ===== the law's entry ===== -/
theorem aw_AA_of {args : Array Value} {s : State} (h : (Cond.arrayOver (.array .int)).before args s = true) : aw_AA s := by
  unfold Cond.before at h
  simp only [Cond.holds, Cond.value, beq_iff_eq] at h
  unfold aw_AA
  cases hc : s.vm.findClass "[I" with
  | none =>
    have hc2 : s.vm.findClass (FieldType.array FieldType.int).toString = none := hc
    simp [hc2] at h
  | some comp =>
    have hc2 : s.vm.findClass (FieldType.array FieldType.int).toString = some comp := hc
    simp only [hc2, Option.bind_some, Option.bind_eq_some_iff, Option.map_eq_some_iff] at h
    obtain ⟨cc, hi, k, hk, hb⟩ := h
    obtain ⟨hlt, hp, -⟩ := Array.findIdx?_eq_some_iff_getElem.mp hi
    have hkk : s.vm.classes[cc] = k := (Array.getElem?_eq_some_iff.mp hk).2
    rw [hkk] at hp
    cases hkind : k.kind with
    | array component ty =>
      rw [hkind] at hb hp
      simp at hb hp
      exact ⟨comp, cc, k, rfl, hi, hk, by rw [hkind, hp, hb.1], hb.2⟩
    | _ => rw [hkind] at hb; simp at hb
def tmS (i : Nat) : Term := .string "CabRanks$CityText" ([69, 78, 83, 88, 93].getD i 0)
theorem lt5 {i : Nat} (h : i < 5) : i = 0 ∨ i = 1 ∨ i = 2 ∨ i = 3 ∨ i = 4 := by omega
section ENT
variable {s : State} {b : Nat}
set_option maxRecDepth 100000 in
theorem ent_D (hts : ∀ w ∈ aw_tbl, w.before #[Value.ref b] s = true) : ∃ D : va_G, ∀ (c : Nat) (q : vw_C), vwCl[c]? = some q → u_Kn s q.1 q.2.1 q.2.2 (D.1 c) (D.2 c) := by
  have h : ∀ c : Nat, ∃ d : ClassId × (Nat → Nat), ∀ q : vw_C, vwCl[c]? = some q → u_Kn s q.1 q.2.1 q.2.2 d.1 d.2 := by
    intro c
    match c with
    | 0 =>
      obtain ⟨cC, iS, hK⟩ := u_known (C := RX0) (T := TX0) (N := 11) hts (aw_wsC (ci := 0) rfl) (hts _ ki_X0)
      exact ⟨(cC, iS), fun q hq => by cases hq; exact hK⟩
    | 1 =>
      obtain ⟨cC, iS, hK⟩ := u_known (C := RX1) (T := TX1) (N := 6) hts (aw_wsC (ci := 1) rfl) (hts _ ki_X1)
      exact ⟨(cC, iS), fun q hq => by cases hq; exact hK⟩
    | 2 =>
      obtain ⟨cC, iS, hK⟩ := u_known (C := RX2) (T := TX2) (N := 11) hts (aw_wsC (ci := 2) rfl) (hts _ ki_X2)
      exact ⟨(cC, iS), fun q hq => by cases hq; exact hK⟩
    | 3 =>
      obtain ⟨cC, iS, hK⟩ := u_known (C := RX3) (T := TX3) (N := 16) hts (aw_wsC (ci := 3) rfl) (hts _ ki_X3)
      exact ⟨(cC, iS), fun q hq => by cases hq; exact hK⟩
    | 4 =>
      obtain ⟨cC, iS, hK⟩ := u_known (C := RX4) (T := TX4) (N := 12) hts (aw_wsC (ci := 4) rfl) (hts _ ki_X4)
      exact ⟨(cC, iS), fun q hq => by cases hq; exact hK⟩
    | 5 =>
      obtain ⟨cC, iS, hK⟩ := u_known (C := RX5) (T := TX5) (N := 8) hts (aw_wsC (ci := 5) rfl) (hts _ ki_X5)
      exact ⟨(cC, iS), fun q hq => by cases hq; exact hK⟩
    | 6 =>
      obtain ⟨cC, iS, hK⟩ := u_known (C := RX6) (T := TX6) (N := 1) hts (aw_wsC (ci := 6) rfl) (hts _ ki_X6)
      exact ⟨(cC, iS), fun q hq => by cases hq; exact hK⟩
    | 7 =>
      obtain ⟨cC, iS, hK⟩ := u_known (C := RX7) (T := TX7) (N := 3) hts (aw_wsC (ci := 7) rfl) (hts _ ki_X7)
      exact ⟨(cC, iS), fun q hq => by cases hq; exact hK⟩
    | 8 =>
      obtain ⟨cC, iS, hK⟩ := u_known (C := RX8) (T := TX8) (N := 6) hts (aw_wsC (ci := 8) rfl) (hts _ ki_X8)
      exact ⟨(cC, iS), fun q hq => by cases hq; exact hK⟩
    | 9 =>
      obtain ⟨cC, iS, hK⟩ := u_known (C := RX9) (T := TX9) (N := 10) hts (aw_wsC (ci := 9) rfl) (hts _ ki_X9)
      exact ⟨(cC, iS), fun q hq => by cases hq; exact hK⟩
    | 10 =>
      obtain ⟨cC, iS, hK⟩ := u_known (C := RX10) (T := TX10) (N := 54) hts (aw_wsC (ci := 10) rfl) (hts _ ki_X10)
      exact ⟨(cC, iS), fun q hq => by cases hq; exact hK⟩
    | n + 11 => exact ⟨(0, fun _ => 0), fun q hq => by cases hq⟩
  obtain ⟨f, hf⟩ := Classical.axiomOfChoice h
  exact ⟨(fun c => (f c).1, fun c => (f c).2), fun c q hq => hf c q hq⟩
theorem ent_p {ty : FieldType} (h : (Cond.arrayClass ty).before #[Value.ref b] s = true) : ∃ cA : ClassId, ArrOfT s cA ty ∧ s.vm.findClass ("[" ++ ty.toString) = some cA := by
  obtain ⟨c, k, comp, h1, h2, h3⟩ := Cond.arrayClass_spec h
  exact ⟨c, fun n z => ⟨fun k h => (by cases h), k, h2, comp, h3⟩, h1⟩
theorem ent_o {C : String} (h : (Cond.arrayOver (.object C)).before #[Value.ref b] s = true) : ∃ cA : ClassId, ArrOfT s cA (.object C) ∧ va_RA s cA (.object C) := by
  obtain ⟨comp, c, k, h1, h2, h3, h4, h5⟩ := Cond.arrayOver_spec h
  exact ⟨c, fun n z => ⟨fun k h => (by cases h), k, h3, comp, h4⟩, k, comp, h3, h4, h1, h5⟩
set_option maxRecDepth 100000 in
theorem ent_A (hts : ∀ w ∈ lw_tbl, w.before #[Value.ref b] s = true) : ∃ aC : Nat → ClassId, ∀ t : Nat, t < 7 → ArrOfT s (aC t) (aw_ty t) ∧ va_RA s (aC t) (aw_ty t) := by
  have h : ∀ t : Nat, ∃ cA : ClassId, t < 7 → ArrOfT s cA (aw_ty t) ∧ va_RA s cA (aw_ty t) := by
    intro t
    match t with
    | 0 =>
      obtain ⟨cA, h1, h2⟩ := ent_p (ty := .int) (hts _ (by decide +kernel))
      exact ⟨cA, fun _ => ⟨h1, h2⟩⟩
    | 1 =>
      obtain ⟨cA, h1, h2⟩ := ent_p (ty := .byte) (hts _ (by decide +kernel))
      exact ⟨cA, fun _ => ⟨h1, h2⟩⟩
    | 2 =>
      obtain ⟨cA, h1, h2⟩ := ent_p (ty := .boolean) (hts _ (by decide +kernel))
      exact ⟨cA, fun _ => ⟨h1, h2⟩⟩
    | 3 =>
      obtain ⟨cA, h1, h2⟩ := ent_p (ty := .long) (hts _ (by decide +kernel))
      exact ⟨cA, fun _ => ⟨h1, h2⟩⟩
    | 4 =>
      obtain ⟨cA, h1, h2⟩ := ent_o (C := "CabRanks$Cab") (hts _ (by decide +kernel))
      exact ⟨cA, fun _ => ⟨h1, h2⟩⟩
    | 5 =>
      obtain ⟨cA, h1, h2⟩ := ent_o (C := "CabRanks$Day") (hts _ (by decide +kernel))
      exact ⟨cA, fun _ => ⟨h1, h2⟩⟩
    | 6 =>
      obtain ⟨comp, c, k, h1, h2, h3, h4, h5⟩ := aw_AA_of (hts (.arrayOver (.array .int)) (by decide +kernel))
      exact ⟨c, fun _ => ⟨fun n z => ⟨fun k h => (by cases h), k, h3, comp, h4⟩, h5⟩⟩
    | n + 7 => exact ⟨0, fun z => absurd z (by omega)⟩
  exact Classical.axiomOfChoice h
set_option maxRecDepth 100000 in
set_option maxHeartbeats 4000000 in
theorem ent_S (hs : (Jvm.Cond.and given_1 narrow_1).before #[Value.ref b] s = true) : ∃ adK adV : Nat → Nat, vk_S 5 [4, 3, 4, 5, 4] [[114, 97, 110, 107], [108, 101, 116], [102, 97, 114, 101], [115, 104, 111, 114, 116], [99, 111, 105, 110]] adK adV (fun q => s.heap.size ≤ q) s s.heap ∧ ∀ i : Nat, i < 5 → (tmS i).eval #[Value.ref b] s none [] s = some (.ref (adK i)) := by
  have hq := flat_of_before _ hs
  refine vk_Sof (tm := tmS) (fun i hi => by rcases lt5 hi with rfl | rfl | rfl | rfl | rfl <;> decide) (fun i hi => by rcases lt5 hi with rfl | rfl | rfl | rfl | rfl <;> exact hq _ (by decide +kernel)) (fun i hi => by rcases lt5 hi with rfl | rfl | rfl | rfl | rfl <;> exact hq _ (by decide +kernel)) (fun i hi => by rcases lt5 hi with rfl | rfl | rfl | rfl | rfl <;> exact hq _ (by decide +kernel)) (fun i hi => by rcases lt5 hi with rfl | rfl | rfl | rfl | rfl <;> exact hq _ (by decide +kernel)) ?_ ?_ (fun a h1 h2 => by omega)
  · intro i hi j hj
    rcases lt5 hi with rfl | rfl | rfl | rfl | rfl
    · have hj2 : j = 0 ∨ j = 1 ∨ j = 2 ∨ j = 3 := by have hj3 : j < 4 := hj; omega
      rcases hj2 with rfl | rfl | rfl | rfl <;> exact hq _ (by decide +kernel)
    · have hj2 : j = 0 ∨ j = 1 ∨ j = 2 := by have hj3 : j < 3 := hj; omega
      rcases hj2 with rfl | rfl | rfl <;> exact hq _ (by decide +kernel)
    · have hj2 : j = 0 ∨ j = 1 ∨ j = 2 ∨ j = 3 := by have hj3 : j < 4 := hj; omega
      rcases hj2 with rfl | rfl | rfl | rfl <;> exact hq _ (by decide +kernel)
    · have hj2 : j = 0 ∨ j = 1 ∨ j = 2 ∨ j = 3 ∨ j = 4 := by have hj3 : j < 5 := hj; omega
      rcases hj2 with rfl | rfl | rfl | rfl | rfl <;> exact hq _ (by decide +kernel)
    · have hj2 : j = 0 ∨ j = 1 ∨ j = 2 ∨ j = 3 := by have hj3 : j < 4 := hj; omega
      rcases hj2 with rfl | rfl | rfl | rfl <;> exact hq _ (by decide +kernel)
  · intro i j hi hj hn
    rcases lt5 hi with rfl | rfl | rfl | rfl | rfl <;> rcases lt5 hj with rfl | rfl | rfl | rfl | rfl <;> first | exact absurd rfl hn | exact Or.inl (hq _ (by decide +kernel)) | exact Or.inr (hq _ (by decide +kernel))
set_option maxRecDepth 100000 in
set_option maxHeartbeats 4000000 in
theorem ent_str (hts : ∀ w ∈ lw_tbl, w.before #[Value.ref b] s = true) (hs : (Jvm.Cond.and given_1 narrow_1).before #[Value.ref b] s = true) : ∃ sa sv : Nat → Nat, sa 30 = b ∧ aw_Str s.heap.size sa sv s := by
  have hq := flat_of_before _ hs
  obtain ⟨adK, adV, hS, hE⟩ := ent_S hs
  have hZq := va_Zqof (C := "jdk/internal/util/Preconditions") (n := "SIOOBE_FORMATTER") (d := "Ljava/util/function/BiFunction;") (A := fun q => s.heap.size ≤ q) (hts _ (by decide +kernel)) (hts _ (by decide +kernel)) (hq _ (by decide +kernel)) (fun a h1 h2 => by omega)
  have hZ : ∃ fm : Nat, va_Z "jdk/internal/util/Preconditions" "SIOOBE_FORMATTER" "Ljava/util/function/BiFunction;" .null (fun q => s.heap.size ≤ q) s s.heap ∨ va_Z "jdk/internal/util/Preconditions" "SIOOBE_FORMATTER" "Ljava/util/function/BiFunction;" (.ref fm) (fun q => s.heap.size ≤ q) s s.heap := by
    rcases hZq with h | ⟨t, h⟩
    · exact ⟨0, Or.inl h⟩
    · exact ⟨t, Or.inr h⟩
  obtain ⟨fm, hfm⟩ := hZ
  refine ⟨fun j => if j < 5 then adK j else if j < 15 then adV (j - 10) else if j = 20 then fm else b, adV, rfl, ⟨fun i hi => ?_, fun i j hi hj => ?_⟩, ?_, ?_, ?_, ?_⟩
  · show va_O "java/lang/String" (if i < 5 then adK i else _) _ s s.heap ∧ va_OF "java/lang/String" "coder" "B" (.int 0) (if i < 5 then adK i else _) _ s s.heap ∧ va_OF "java/lang/String" "value" "[B" (.ref (adV i)) (if i < 5 then adK i else _) _ s s.heap ∧ _
    rw [if_pos hi]
    exact hS.1 i hi
  · show (if i < 5 then adK i else _) = (if j < 5 then adK j else _) → i = j
    rw [if_pos hi, if_pos hj]
    exact hS.2 i j hi hj
  · exact List.forall_mem_cons.mpr ⟨vk_R.of (hts _ (by decide +kernel)) (hE 0 (by decide)), List.forall_mem_cons.mpr ⟨vk_R.of (hts _ (by decide +kernel)) (hE 1 (by decide)), List.forall_mem_cons.mpr ⟨vk_R.of (hts _ (by decide +kernel)) (hE 2 (by decide)), List.forall_mem_cons.mpr ⟨vk_R.of (hts _ (by decide +kernel)) (hE 3 (by decide)), List.forall_mem_cons.mpr ⟨vk_R.of (hts _ (by decide +kernel)) (hE 4 (by decide)), List.forall_mem_cons.mpr ⟨vk_R.of (hts _ (by decide +kernel)) (va_eqR (t := tmS 0) (hq _ (by decide +kernel)) (hE 0 (by decide))), List.forall_mem_cons.mpr ⟨vk_R.of (hts _ (by decide +kernel)) (va_eqR (t := tmS 1) (hq _ (by decide +kernel)) (hE 1 (by decide))), List.forall_mem_cons.mpr ⟨vk_R.of (hts _ (by decide +kernel)) (va_eqR (t := tmS 2) (hq _ (by decide +kernel)) (hE 2 (by decide))), List.forall_mem_cons.mpr ⟨vk_R.of (hts _ (by decide +kernel)) (va_eqR (t := tmS 3) (hq _ (by decide +kernel)) (hE 3 (by decide))), List.forall_mem_cons.mpr ⟨vk_R.of (hts _ (by decide +kernel)) (va_eqR (t := tmS 4) (hq _ (by decide +kernel)) (hE 4 (by decide))), fun _ h => (by cases h)⟩⟩⟩⟩⟩⟩⟩⟩⟩⟩
  · exact va_Zof (hts _ (by decide +kernel)) (hts _ (by decide +kernel)) (va_eqi (hq _ (by decide +kernel))) (fun a h1 h2 => by omega)
  · exact hfm
  · intro i hi
    show (if 10 + i < 5 then adK (10 + i) else if 10 + i < 15 then adV (10 + i - 10) else if 10 + i = 20 then fm else b) = adV i
    rw [if_neg (by omega), if_pos (by omega), show 10 + i - 10 = i by omega]
set_option maxRecDepth 100000 in
theorem ent_N (hts : ∀ w ∈ lw_tbl, w.before #[Value.ref b] s = true) : ∀ q ∈ aw_nest, va_Nw (.methodLinkNest q.1 q.2.1 q.2.2.1 q.2.2.2) s :=
  List.forall_mem_cons.mpr ⟨va_Nw.of rfl (hts _ (by decide +kernel)), List.forall_mem_cons.mpr ⟨va_Nw.of rfl (hts _ (by decide +kernel)), List.forall_mem_cons.mpr ⟨va_Nw.of rfl (hts _ (by decide +kernel)), List.forall_mem_cons.mpr ⟨va_Nw.of rfl (hts _ (by decide +kernel)), List.forall_mem_cons.mpr ⟨va_Nw.of rfl (hts _ (by decide +kernel)), List.forall_mem_cons.mpr ⟨va_Nw.of rfl (hts _ (by decide +kernel)), List.forall_mem_cons.mpr ⟨va_Nw.of rfl (hts _ (by decide +kernel)), List.forall_mem_cons.mpr ⟨va_Nw.of rfl (hts _ (by decide +kernel)), List.forall_mem_cons.mpr ⟨va_Nw.of rfl (hts _ (by decide +kernel)), List.forall_mem_cons.mpr ⟨va_Nw.of rfl (hts _ (by decide +kernel)), List.forall_mem_cons.mpr ⟨va_Nw.of rfl (hts _ (by decide +kernel)), List.forall_mem_cons.mpr ⟨va_Nw.of rfl (hts _ (by decide +kernel)), List.forall_mem_cons.mpr ⟨va_Nw.of rfl (hts _ (by decide +kernel)), List.forall_mem_cons.mpr ⟨va_Nw.of rfl (hts _ (by decide +kernel)), fun _ h => (by cases h)⟩⟩⟩⟩⟩⟩⟩⟩⟩⟩⟩⟩⟩⟩
end ENT
set_option maxRecDepth 100000 in
set_option maxHeartbeats 4000000 in
/-- YOUR PART: from the entry, for every script of at most 3072 ints, the law comes to its end with true -/
theorem whole_start {p : Program} {e : Env} {s : State} {m : MethodId} {below : List Frame} {meth : Method} {c : Code} (l : Launch) {b L : Nat} {xs : Nat → Int32} (hL : L ≤ 3072) (C0 : lw_At p s m meth c b L xs) : W p l e room_1 s m #[Value.ref b] below meth c s.heap [] 0 0 (lw_Z below #[Value.ref b] s) (entryFrame m ([Value.ref b] : List Value).toArray 4) := by
  obtain ⟨hx, hb, hr, hml, hown, hts, hX, hbl, hlk, hgv⟩ := C0
  have hts2 : ∀ w ∈ aw_tbl, w.before #[Value.ref b] s = true := fun w hw => hts w (List.mem_filter.mp hw).1
  obtain ⟨D, hD⟩ := ent_D hts2
  obtain ⟨aC, hA⟩ := ent_A hts
  obtain ⟨sa, sv, h30, hstr⟩ := ent_str hts hgv
  have hK : aw_Kn s.heap.size D aC sa sv s := ⟨hD, hA, hstr, ent_N hts, va_AO.of (hts _ (by decide +kernel)), va_AO.of (hts _ (by decide +kernel)), aw_AA_of (hts _ (by decide +kernel))⟩
  have e1 : aw_f s.heap.size sa 1000030 = b := by unfold aw_f; rw [if_neg (by omega)]; exact h30
  have e2 : [Value.ref b] = [Value.ref 1000030].map (aw_m (aw_f s.heap.size sa)) := by
    show [Value.ref b] = [Value.ref (aw_f s.heap.size sa 1000030)]
    rw [e1]
  have hent := aw_entry (φ := aw_f s.heap.size sa) (nL := 4) (vals := [Value.ref 1000030]) rfl (by decide)
  have hpic : aw_Pic s.heap.size (aw_f s.heap.size sa) D aC (SH.take 0) (sN 0 0) s.heap := by
    rw [List.take_zero]
    exact ⟨rfl, by decide, fun k ci h => (by simp at h), fun k t n h => (by simp at h)⟩
  have h9 := lw_all (nm := meth.name) (l := l) (b := b) (L := L) (xs := xs) hL s.heap.size D aC sa sv p e room_1 s m #[Value.ref b] below meth c s.heap [] _ ⟨hx, hb, hml, hr, hlk, rfl, hown, hts2, by decide, by decide, by decide, by decide, hK, Nat.le_refl _⟩ hpic va_S.rf hent ⟨⟨h30, hX, hbl, hL⟩, rfl, rfl, rfl⟩
  rw [← e2] at h9
  rw [lg_entry_eq]
  exact h9
set_option maxHeartbeats 4000000 in
theorem lw_walk (l : Launch) (b : Addr) (xs : List Int32) : MetFree l x (headSpec (Jvm.Cond.code x code maxLocals ret :: tables_1) room_1) (lw_P b xs) (fun _ _ _ _ _ => True) lw_Q := by
  refine MetFree.of_bodyS (code := code) (maxLocals := maxLocals) (ret := ret) (by decide) ?_ ?_
  · intro args s m h hn
    obtain ⟨meth, c, h1, h2, h3, h4, h5, h6, -, -⟩ := Cond.code_spec hn (atoms_spec (ws := Jvm.Cond.code x code maxLocals ret :: tables_1) h _ List.mem_cons_self)
    exact ⟨meth, c, h1, h2, h3, h4, h5, h6⟩
  · intro p e s m args below meth c s₁ B hml0 hP _
    obtain ⟨rfl, hx, hbd, hgv⟩ := hP
    obtain ⟨scr, harrAt, hlist, hof, hsmall⟩ := hx
    obtain ⟨hcb, hkn, -, -⟩ := State.arrayAt?_spec harrAt
    have hown : s.vm.findClass R_law = some m.cls := findClass_of_methodNamed B.named
    have hts0 : ∀ c ∈ (Jvm.Cond.code x code maxLocals ret :: tables_1), c.before #[Value.ref b] s = true := atoms_spec (ws := Jvm.Cond.code x code maxLocals ret :: tables_1) B.pre
    have hts : ∀ w ∈ lw_tbl, w.before #[Value.ref b] s = true := k2_hts_sels lw_privs (fun w hw => hts0 w (List.mem_cons_of_mem _ hw)) lw_privs_ok
    have hml : c.maxLocals = 4 := B.maxLocals_eq (hts0 _ List.mem_cons_self)
    have X₀ : Stand p l e room_1 s m #[Value.ref b] below meth c s₁ [] 0 0 := Stand.of_body B
    have hh0 : s₁.heap = s.heap := by rw [B.state]; rfl
    have hsz : scr.slots.size = xs.length := by rw [← Array.length_toList, hlist, List.length_map]
    have hval : ∀ j : Nat, j < xs.length → scr.slots[j]? = some (.int (xs.getD j 0)) := fun j hj => by
      rw [← Array.getElem?_toList, hlist]
      simp [hj]
    have hbl : b < s.heap.size := (Array.getElem?_eq_some_iff.mp hcb).1
    have hX : va_X b xs.length (fun j => xs.getD j 0) s s.heap := ⟨scr, hcb, hof, hkn, hsz, hval⟩
    have K : W p l e room_1 s m #[Value.ref b] below meth c s₁.heap [] 0 0 (lw_Z below #[Value.ref b] s) (entryFrame m ([Value.ref b] : List Value).toArray 4) := by
      rw [hh0]
      exact whole_start l hbd ⟨B.exec, B.bytes, B.returns, hml, hown, hts, hX, hbl, B.notSynchronized, hgv⟩
    obtain ⟨t, a1, o, b1, b2, b3⟩ := K s₁ rfl X₀
    exact ⟨t, o, a1, b1, b2, b3⟩
theorem lw_pre_spec {args : Array Value} {s : State} (h : (Jvm.Cond.and given_1 narrow_1).before args s = true) (hr : rest_1_c.before args s = true) : ∃ (b : Addr) (xs : List Int32), lw_P b xs args s := by
  have hs := flat_of_before _ h
  have hq := flat_of_before _ hr
  have hc : (Cond.count 1).before args s = true := hs _ (by decide +kernel)
  have harr : (Cond.arrayOf (.arg 0) .int).before args s = true := hs _ (by decide +kernel)
  have hle : (Cond.le (.length (.arg 0)) (.int 3072)).before args s = true := hs _ (by decide +kernel)
  have hlen : (Cond.isInt (.length (.arg 0))).before args s = true := hq _ (by decide +kernel)
  have hall : (Cond.all (.arg 0) (.isInt (.elem (.arg 0) (.index 0)))).before args s = true := hq _ (by decide +kernel)
  obtain ⟨b, xs, hb, hx⟩ := State.ints_of_pre rfl harr hlen hall
  have hsm : xs.length < 2 ^ 31 := hx.choose_spec.2.2.2
  have hev : (Term.length (.arg 0)).eval args s none [] s = some (.int xs.length.toInt32) := hx.length_eval hb
  have hv := Cond.le_ints hev (show (Term.int 3072).eval args s none [] s = some (.int 3072) from rfl)
  have hd : xs.length.toInt32 ≤ 3072 := by
    simpa [Cond.before, Cond.holds, hv] using hle
  have hN : xs.length ≤ 3072 := (Int32.ofNat_le_ofNat hsm (by decide)).mp (show Int32.ofNat xs.length ≤ Int32.ofNat 3072 from hd)
  exact ⟨b, xs, Cond.one_arg hc (show args[0]? = some (.ref b) from hb), hx, hN, h⟩
theorem lw_comes (l : Launch) : Comes l x (Jvm.Cond.code x code maxLocals ret :: tables_1) room_1 (fun tb e args s => Calls_1 tb e args s ∧ rest_1 tb e args s ∧ Pre_1 tb e args s)
    (fun _ _ args s o t => lw_Q args s o t) := by
  intro p e ha hc hk s m args below hf hfit hheap happ hpre
  obtain ⟨b, xs, hP⟩ := lw_pre_spec hpre.2.2 hpre.2.1
  obtain ⟨k, o, h1, h2, h3, hQ⟩ := lw_walk l b xs p e ha hc hk s m args below hf ((Spec.applies_iff_loose hf).mp happ).1 hP trivial
  exact ⟨k, o, h1, h2, h3, hQ⟩
theorem lw_frame {s t : State} {o : Outcome} {args : Array Value} (h : Framed s o t [] 600000 7302250) :
    Framed s o t (fieldLocs frame_1_writes args s ++ arrayLocs frame_1_arrays args s ++ staticLocs frame_1_statics s) 600000 7302250 := h
theorem lw_limb (L : Cond) (hL : ∀ (args : Array Value) (s t : State), L.after args s (.returned (some (.int 1))) t = true) :
    ArmFor flags0 classFile x code maxLocals ret World_1 tables_1 room_1 Calls_1 rest_1 Pre_1
      (fun tb e a s o t => postC L tb e a s o t ∧ Framed s o t (fieldLocs frame_1_writes a s ++ arrayLocs frame_1_arrays a s ++ staticLocs frame_1_statics s) 600000 7302250) := by
  intro l _ _ _ p e ha hc hk s m args below hf hfit hheap happ hpre
  obtain ⟨k, o, h1, h2, h3, rfl, hF⟩ := lw_comes l p e ha hc hk s m args below hf hfit hheap happ hpre
  exact ⟨k, _, h1, h2, h3, hL args s _, lw_frame hF⟩
theorem i_vc : Claimed_1_1 ∧ Claimed_1_2 := ⟨lw_limb limb_1_1 (fun args s t => by simp [limb_1_1, Cond.after, Cond.holds, Cond.value]), lw_limb limb_1_2 (fun args s t => Cond.after_iff.mpr (by
  first | (rw [show limb_1_2 = Cond.eq .result (.int 1) from rfl, Cond.eq_ints (x := 1) (y := 1) rfl rfl]; simp; done) | (simp [limb_1_2, Cond.value, Term.eval]; done)))⟩
