/-! ===== rows of rows made new, and references put into rows: over the machine ===== -/
/-- a row of rows, i of its N rows made -/
def mnT (T : State) (cA comp : ClassId) (N M : Nat) : Nat → State
  | 0 => T.pushCell (arrV cA N (fun _ => .null))
  | i + 1 => ((mnT T cA comp N M i).pushCell (arrV comp M (fun _ => .int 0))).setCell T.heap.size (arrV cA N (fun j => if j < i + 1 then .ref (T.heap.size + 1 + j) else .null))
theorem mnT_f (T : State) (cA comp : ClassId) (N M : Nat) : ∀ i, (mnT T cA comp N M i).heap.size = T.heap.size + 1 + i ∧ (mnT T cA comp N M i).heap[T.heap.size]? = some (arrV cA N (fun j => if j < i then .ref (T.heap.size + 1 + j) else .null)) ∧ (mnT T cA comp N M i).vm = T.vm
  | 0 => by
    refine ⟨by simp [mnT], ?_, rfl⟩
    rw [mnT, State.heap_pushCell_size]
    congr 2
  | i + 1 => by
    obtain ⟨a, b, d⟩ := mnT_f T cA comp N M i
    have hlt : T.heap.size < (mnT T cA comp N M i).heap.size := by omega
    have hb : ((mnT T cA comp N M i).pushCell (arrV comp M (fun _ => .int 0))).heap[T.heap.size]? = some (arrV cA N (fun j => if j < i then .ref (T.heap.size + 1 + j) else .null)) := by rw [State.heap_pushCell_of_lt (h := hlt)]; exact b
    refine ⟨?_, State.heap_setCell_self hb, by rw [← d]; rfl⟩
    rw [mnT, size_setCell]
    simp [a]
    omega
theorem mnT_o (T : State) (cA comp : ClassId) (N M : Nat) {q : Nat} (hq : q < T.heap.size) : ∀ i, (mnT T cA comp N M i).heap[q]? = T.heap[q]?
  | 0 => State.heap_pushCell_of_lt _ _ hq
  | i + 1 => by
    have a := (mnT_f T cA comp N M i).1
    have hlt : q < (mnT T cA comp N M i).heap.size := by omega
    rw [mnT, State.heap_setCell_other (Nat.ne_of_gt hq), State.heap_pushCell_of_lt (h := hlt)]
    exact mnT_o T cA comp N M hq i
theorem mnT_i (T : State) (cA comp : ClassId) (N M : Nat) : ∀ i j, j < i → (mnT T cA comp N M i).heap[T.heap.size + 1 + j]? = some (arrV comp M (fun _ => .int 0))
  | 0, _, h => absurd h (Nat.not_lt_zero _)
  | i + 1, j, h => by
    have a := (mnT_f T cA comp N M i).1
    rw [mnT, State.heap_setCell_other (show T.heap.size ≠ T.heap.size + 1 + j by omega)]
    by_cases e : j < i
    · have hlt : T.heap.size + 1 + j < (mnT T cA comp N M i).heap.size := by omega
      rw [State.heap_pushCell_of_lt (h := hlt)]
      exact mnT_i T cA comp N M i j e
    · rw [show T.heap.size + 1 + j = (mnT T cA comp N M i).heap.size by omega]
      exact State.heap_pushCell_size _ _
theorem mnT_t (T : State) (f : JFrame) (cA comp : ClassId) (N M : Nat) : ∀ i, mnT (T.setTop f) cA comp N M i = (mnT T cA comp N M i).setTop f
  | 0 => rfl
  | i + 1 => by simp only [mnT, mnT_t T f cA comp N M i, State.heap_setTop, State.pushCell_setTop, State.setCell_setTop]
theorem mn_arr {E : CtlPost} {e : Env} {d : Bool} {acts : List Action} {s : State} {c comp : ClassId} {k : Class} {type : FieldType} {len : Nat} {init : Value} (hk : s.vm.classes[c]? = some k) (hkind : k.kind = .array comp type)
    (hlimit : ¬ len > e.platform.arrayLengthLimit) (hheap : ¬ len * componentBytes type > e.platform.maxHeapBytes) (hfit : fits type init = true) (hdef : init.isDefault = true) {Q : Addr → Pre}
    (h1 : s.heap.size < e.platform.maxCells) (h2 : s.slotsUsed + len ≤ e.platform.maxSlots) (hq : Q s.heap.size d acts (s.pushCell (arrV c len (fun _ => init)))) : wp (Jvm.newArray c len init) Q E e d acts s := by
  have hall : ((Array.replicate len init).all (·.isDefault)) = true := by
    rw [Array.all_replicate]
    split <;> simp [hdef]
  have hda : allocActs (Array.replicate len init) s.heap.size acts = acts := by
    unfold allocActs
    rw [if_pos hall]
  rw [← arrV_new] at hq
  simp only [Jvm.newArray, Jvm.arrayFits, wp_bind', W.ask, W.ite, hlimit, if_false, wp_pure', W.theClass, hk, hkind, hheap, W.alloc, W.stop, Option.some.injEq, exists_eq_left', Array.size_replicate, hda]
  rw [if_neg (by omega)]
  refine ⟨h1, h2, fun i v hv => ?_, hq⟩
  rw [Array.getElem?_replicate] at hv
  split at hv
  · cases hv
    simp [State.fitsSlot, State.slotType?, hk, hkind, hfit]
  · cases hv
section MN
variable {p : Program} {l : Launch} {e : Env} {R : Room} {s : State} {m : MethodId} {args : Array Value} {below : List Frame} {meth : Method} {c : Code} {locs : List Loc} {cells slots : Nat} {H : Heap} {Q : State → Prop}
theorem mn_stand {T : State} (X : Stand p l e R s m args below meth c T locs cells slots) (cA comp : ClassId) (N M : Nat) : ∀ i, Stand p l e R s m args below meth c (mnT T cA comp N M i) (locs ++ (List.range i).map fun j => ⟨T.heap.size, j⟩) (cells + 1 + i) (slots + N + i * M)
  | 0 => by
    have h := X.pushed (arrV cA N (fun _ => .null))
    rw [arrV_size] at h
    simpa [mnT] using h
  | i + 1 => by
    have Xi := mn_stand X cA comp N M i
    obtain ⟨f1, f2, f3⟩ := mnT_f T cA comp N M i
    have hlt0 : T.heap.size < (mnT T cA comp N M i).heap.size := by omega
    have hcell : ((mnT T cA comp N M i).pushCell (arrV comp M (fun _ => .int 0))).heap[T.heap.size]? = some (arrV cA N (fun j => if j < i then .ref (T.heap.size + 1 + j) else .null)) := by rw [State.heap_pushCell_of_lt (h := hlt0)]; exact f2
    have h := (Xi.pushed (arrV comp M (fun _ => .int 0))).stored hcell i (.ref (T.heap.size + 1 + i))
    rw [arrV_size, arrV_store] at h
    have e2 : (locs ++ (List.range (i + 1)).map fun j => (⟨T.heap.size, j⟩ : Loc)) = (locs ++ (List.range i).map fun j => (⟨T.heap.size, j⟩ : Loc)) ++ [⟨T.heap.size, i⟩] := by simp [List.range_succ, List.append_assoc]
    have e3 : slots + N + (i + 1) * M = slots + N + i * M + M := by rw [Nat.succ_mul]; omega
    have e4 : updV (fun j => if j < i then Value.ref (T.heap.size + 1 + j) else .null) i (.ref (T.heap.size + 1 + i)) = fun j => if j < i + 1 then Value.ref (T.heap.size + 1 + j) else .null := by
      funext j
      unfold updV
      by_cases q : j = i
      · rw [if_pos q, if_pos (by omega), q]
      · rw [if_neg q]
        show (if j < i then Value.ref (T.heap.size + 1 + j) else .null) = _
        by_cases q2 : j < i
        · rw [if_pos q2, if_pos (by omega)]
        · rw [if_neg q2, if_neg (by omega)]
    rw [e4] at h
    rw [e2, e3]
    exact h
theorem mn_make {T : State} (X : Stand p l e R s m args below meth c T locs cells slots) {cA comp ccp : ClassId} {kA kC : Class} (hkA : T.vm.classes[cA]? = some kA) (hkindA : kA.kind = .array comp (.array .int)) (hkC : T.vm.classes[comp]? = some kC) (hkindC : kC.kind = .array ccp .int)
    {n k : Int32} (hn : ¬ n < 0) (hk : ¬ k < 0) {N M : Nat} (eN : n.toNatClampNeg = N) (eM : k.toNatClampNeg = M) (hN : N ≤ 1000) (hM : M ≤ 1000) (hcells : cells + (1 + N) ≤ R.cells) (hslots : slots + (N + N * M) ≤ R.slots) {f : JFrame} {E : CtlPost} {d : Bool} {acts : List Action} {Q : Addr → Pre} (hq : ∀ d' acts', Q T.heap.size d' acts' ((mnT T cA comp N M N).setTop f)) :
    wp (multianewarray.make cA [n, k]) Q E e d acts (T.setTop f) := by
  have hl1 : ¬ N > e.platform.arrayLengthLimit := by rw [Launch.admits_arrayLengthLimit X.admits]; omega
  have hl2 : ¬ M > e.platform.arrayLengthLimit := by rw [Launch.admits_arrayLengthLimit X.admits]; omega
  have hh1 : ¬ N * componentBytes (.array .int) > e.platform.maxHeapBytes := by rw [Launch.admits_maxHeapBytes X.admits]; show ¬ N * 4 > 536870912; omega
  have hh2 : ¬ M * componentBytes .int > e.platform.maxHeapBytes := by rw [Launch.admits_maxHeapBytes X.admits]; show ¬ M * 4 > 536870912; omega
  have hfind : ([k].find? (· < 0)) = none := by simp [hk]
  obtain ⟨r1, r2⟩ := X.roomAbove hcells hslots
  rw [multianewarray.make]
  have hkA' : (T.setTop f).vm.classes[cA]? = some kA := hkA
  simp only [wp_bind', W.ite, hn, if_false, wp_pure', W.theClass, hkA', hkindA, Option.some.injEq, exists_eq_left']
  rw [eN]
  refine mn_arr hkA' hkindA hl1 hh1 rfl rfl (by show T.heap.size < _; omega) (by show T.slotsUsed + N ≤ _; omega) ?_
  simp only [hfind]
  rw [ite_self, wp_bind', Std.Legacy.Range.forIn_eq_forIn_range']
  have hsz : ([:N] : Std.Legacy.Range).size = N := by simp [Std.Legacy.Range.size]
  rw [hsz]
  show wp (forIn (List.range' 0 N 1) PUnit.unit _) _ E e d acts _
  refine wp_forIn_inv (fun rest s' => ∃ i, i ≤ N ∧ rest = List.range' i (N - i) ∧ s' = mnT (T.setTop f) cA comp N M i) _ _ ⟨0, Nat.zero_le _, rfl, rfl⟩ ?_ ?_
  · rintro x rest s' d' acts' Q' ⟨i, hi, hl, rfl⟩ hnext
    have hlt : i < N := by
      rcases Nat.lt_or_ge i N with h | h
      · exact h
      · rw [show N - i = 0 by omega] at hl
        simp at hl
    rw [show N - i = (N - (i + 1)) + 1 by omega, List.range'_succ] at hl
    obtain ⟨rfl, hrest⟩ := List.cons.inj hl
    have Xi := mn_stand X cA comp N M x
    have hmul : x * M + M ≤ N * M := by
      have h := Nat.mul_le_mul_right M (show x + 1 ≤ N from hlt)
      rw [Nat.succ_mul] at h
      exact h
    obtain ⟨q1, q2⟩ := Xi.roomAbove (a := 1) (b := M) (by omega) (by omega)
    obtain ⟨f1, f2, f3⟩ := mnT_f T cA comp N M x
    have hlt0 : T.heap.size < (mnT T cA comp N M x).heap.size := by omega
    rw [mnT_t]
    simp only [wp_bind']
    rw [multianewarray.make]
    have hkC' : ((mnT T cA comp N M x).setTop f).vm.classes[comp]? = some kC := by show (mnT T cA comp N M x).vm.classes[comp]? = _; rw [f3]; exact hkC
    simp only [wp_bind', W.ite, hk, if_false, wp_pure', W.theClass, hkC', hkindC, Option.some.injEq, exists_eq_left']
    rw [eM]
    refine mn_arr hkC' hkindC hl2 hh2 rfl rfl (by show (mnT T cA comp N M x).heap.size < _; omega) (by show (mnT T cA comp N M x).slotsUsed + M ≤ _; omega) ?_
    simp only [wp_bind', W.writeLoc, wp_pure']
    have hcell : (((mnT T cA comp N M x).setTop f).pushCell (arrV comp M (fun _ => .int 0))).heap[T.heap.size]? = some (arrV cA N (fun j => if j < x then .ref (T.heap.size + 1 + j) else .null)) := (State.heap_pushCell_of_lt ((mnT T cA comp N M x).setTop f) _ hlt0).trans f2
    have hkA2 : (((mnT T cA comp N M x).setTop f).pushCell (arrV comp M (fun _ => .int 0))).vm.classes[cA]? = some kA := by show (mnT T cA comp N M x).vm.classes[cA]? = _; rw [f3]; exact hkA
    refine ⟨_, hcell, by simp [arrV], by rw [arrV_size]; exact hlt, ?_, hnext _ _ _ ⟨x + 1, hlt, hrest, ?_⟩⟩
    · show State.fitsSlot _ cA .none x _ = true
      have hkA3 : (((mnT T cA comp N M x).setTop f).pushCell (arrV comp M (fun _ => defaultValue .int))).vm.classes[cA]? = some kA := hkA2
      unfold State.fitsSlot State.slotType?
      rw [hkA3]
      show (match (match kA.kind with
          | .array component type => some type
          | _ => kA.instanceTypes[x]?) with
        | some t => fits t (Value.ref _)
        | none => false) = true
      rw [hkindA]
      rfl
    · rw [arrV_store, mnT_t, mnT]
      have e4 : updV (fun j => if j < x then Value.ref (T.heap.size + 1 + j) else .null) x (.ref ((mnT T cA comp N M x).setTop f).heap.size) = fun j => if j < x + 1 then Value.ref (T.heap.size + 1 + j) else .null := by
        funext j
        unfold updV
        by_cases q : j = x
        · rw [if_pos q, if_pos (by omega), q]
          show Value.ref (mnT T cA comp N M x).heap.size = _
          rw [f1]
        · rw [if_neg q]
          show (if j < x then Value.ref (T.heap.size + 1 + j) else .null) = _
          by_cases q2 : j < x
          · rw [if_pos q2, if_pos (by omega)]
          · rw [if_neg q2, if_neg (by omega)]
      rw [e4]
      simp only [State.pushCell_setTop, State.setCell_setTop, State.heap_setTop]
      rfl
  · rintro s' d' acts' ⟨i, hi, hl, rfl⟩
    have hiN : i = N := by
      rcases Nat.lt_or_ge i N with h | h
      · rw [show N - i = (N - (i + 1)) + 1 by omega, List.range'_succ] at hl
        cases hl
      · omega
    subst hiN
    simp only [wp_pure']
    rw [mnT_t]
    exact hq _ _
end MN
section MW
variable {p : Program} {l : Launch} {e : Env} {R : Room} {s : State} {m : MethodId} {args : Array Value} {below : List Frame} {meth : Method} {c : Code} {locs : List Loc} {cells slots : Nat} {H : Heap} {Q : State → Prop}
theorem mn_W {cc : ByteArray} (hexec : p.tables.exec = Jvm.exec) (hb : c.code = cc) {own : String} {index : Nat} (hown : s.vm.findClass own = some m.cls) (hclink : (Cond.classLink own index "[[I").before args s = true)
    {cA comp ccp : ClassId} {kA kC : Class} (hnA : s.vm.findClass "[[I" = some cA) (hkA : s.vm.classes[cA]? = some kA) (hkindA : kA.kind = .array comp (.array .int)) (hkC : s.vm.classes[comp]? = some kC) (hkindC : kC.kind = .array ccp .int)
    {g : JFrame} (hg : g.method = m) (hdg : decode cc g.pc = .ok (.multianewarray index 2, 4)) {n k : Int32} {rest : List Value} (hstack : g.stack = .int k :: .int n :: rest) (hn : ¬ n < 0) (hk : ¬ k < 0) {N M : Nat} (eN : n.toNatClampNeg = N) (eM : k.toNatClampNeg = M) (hN : N ≤ 1000) (hM : M ≤ 1000)
    (hcells : cells + (1 + N) ≤ R.cells) (hslots : slots + (N + N * M) ≤ R.slots)
    (kk : ∀ (H' : Heap) (lc : List Loc), H'.size = H.size + 1 + N → (∀ q, q < H.size → H'[q]? = H[q]?) → H'[H.size]? = some (arrV cA N (fun j => if j < N then .ref (H.size + 1 + j) else .null)) → (∀ j, j < N → H'[H.size + 1 + j]? = some (arrV comp M (fun _ => .int 0))) → (∀ q ∈ lc, q ∈ locs ∨ q.base = H.size) →
      W p l e R s m args below meth c H' lc (cells + 1 + N) (slots + N + N * M) Q { g with pc := g.pc + 4, stack := .ref H.size :: rest }) : W p l e R s m args below meth c H locs cells slots Q g := by
  intro T hT X
  subst hT; subst hb; subst hg
  have hpl : e.platform.magicAccessors = ({} : Platform).magicAccessors := by rw [X.admits.platform]
  obtain ⟨c0, hfc0, hcl⟩ := Cond.classLink_spec hown hclink e.platform hpl
  cases hnA.symm.trans hfc0
  obtain ⟨hg₁, hwarm₁, hready₁⟩ := State.classEntry (e := e) X.warmed hcl
  generalize T.vm.noted g.method.cls index (.cls cA) = vm₁ at hg₁ hwarm₁ hready₁
  have hal : s.vm.Alike vm₁ := hwarm₁.alike
  obtain ⟨kA₁, hkA₁, heA⟩ := hal.2.2 _ _ hkA
  obtain ⟨kC₁, hkC₁, heC⟩ := hal.2.2 _ _ hkC
  have hkindA₁ : kA₁.kind = .array comp (.array .int) := by rw [heA]; exact hkindA
  have hkindC₁ : kC₁.kind = .array ccp .int := by rw [heC]; exact hkindC
  have X₁ := X.noted hwarm₁
  have XF := mn_stand X₁ cA comp N M N
  obtain ⟨f1, f2, f3⟩ := mnT_f (T.setVm vm₁) cA comp N M N
  obtain ⟨t, a1, b1⟩ := kk (mnT (T.setVm vm₁) cA comp N M N).heap _ f1 (fun q hq => mnT_o (T.setVm vm₁) cA comp N M hq N) f2 (fun j hj => mnT_i (T.setVm vm₁) cA comp N M N j hj) (fun q hq => by
    rcases List.mem_append.mp hq with h | h
    · exact Or.inl h
    · obtain ⟨j, -, rfl⟩ := List.mem_map.mp h
      exact Or.inr rfl) _ rfl XF
  refine ⟨t, ?_, b1⟩
  jvm_step X.here [hexec, hdg]
  simp only [multianewarray.sem, wp_bind', W.resolveClassAt_links (State.method?_setTop g X.here.top) hg₁]
  rw [W.popN, if_neg (by decide)]
  refine ⟨g, State.topJava?_setTop' (s := T.setVm vm₁) g X.here.top, [.int n, .int k], rest, rfl, hstack, ?_⟩
  simp only [List.mapM_cons, List.mapM_nil, wp_bind', wp_pure']
  have eS : ((T.setTop g).setVm vm₁).setTop { g with stack := rest } = (T.setVm vm₁).setTop { g with stack := rest } := by
    show ((T.setVm vm₁).setTop g).setTop _ = _
    rw [State.setTop_setTop]
  rw [eS]
  refine mn_make X₁ hkA₁ hkindA₁ hkC₁ hkindC₁ hn hk eN eM hN hM hcells hslots (fun d' acts' => ?_)
  simp only [wp_bind', W.mark, W.pushRef, State.topJava?_setTop' _ XF.here.top, Option.some.injEq, exists_eq_left', State.setTop_setTop, State.heap_setTop]
  intro acts
  simp [jvm, XF.here.top]
  exact a1
end MW
section AWN2
variable {l : Launch} {y : MethodName} {cc : ByteArray} {nL : Nat} {ret : Option FieldType} {F Lo mc ms : Nat} {she : aw_Sh} {Post : Option Value → aw_S → Prop} {sh : aw_Sh} {k n : Nat} {σ : aw_S} {pc nx : Nat} {ls : List (Option Value)} {st : List Value}
theorem a_aast {a b N t ci : Nat} {i : Int} (hd : aw_d 1 cc pc (.aastore) nx) (hs : sh[a]? = some (.inr (t, N))) (ht : (t = 4 ∧ ci = 2) ∨ (t = 5 ∧ ci = 5)) (hsb : sh[b]? = some (.inl ci)) (hN : Nat.ble N 2147483647 = true) (hi : 0 ≤ i ∧ i < (N : Int)) (kk : AW l y cc nL ret F Lo mc ms she Post sh k n (aw_sr σ a i (some b)) nx ls st) : AW l y cc nL ret F Lo mc ms she Post sh k n σ pc ls (.ref b :: .int (jI i) :: .ref a :: st) := by
  have hin : vp_in (jI i) N := jI_in hi (Nat.le_of_ble_eq_true hN)
  have hcl : (jI i).toNatClampNeg = i.toNat := jI_clamp hi (Nat.le_of_ble_eq_true hN)
  have hcc : ((i.toNat : Nat) : Int) = i := Int.toNat_of_nonneg hi.1
  obtain ⟨hd1, rfl⟩ := hd
  intro B D aC sa sv p e R s m args below meth c H locs lsA C hP hS hL
  obtain ⟨hx, hb, hml, hr, hlk, hnm, hown, hts, hF, hLo, hmc, hms, hK, hBs⟩ := id C
  obtain ⟨h7, h2⟩ := hP.2.2.2 a _ _ hs
  obtain ⟨r, hr1, cellV, q1, q2, q3, -⟩ := hP.2.2.1 b ci hsb
  have e1 : aw_f B sa a = B + a := aw_f_lt hP.2.1 hs
  have e2 : aw_f B sa b = B + b := aw_f_lt hP.2.1 hsb
  have hcls := (hK.1 ci r hr1).2
  have hRA := (hK.2.1 t h7).2
  have hex : ∃ (kA : Class) (comp : ClassId), s.vm.classes[aC t]? = some kA ∧ kA.kind = .array comp (aw_ty t) ∧ s.vm.findClass r.1 = some comp := by
    rcases ht with ⟨rfl, rfl⟩ | ⟨rfl, rfl⟩
    · cases hr1
      obtain ⟨kA, comp, k1, k2, k3, -⟩ := hRA
      exact ⟨kA, comp, k1, k2, k3⟩
    · cases hr1
      obtain ⟨kA, comp, k1, k2, k3, -⟩ := hRA
      exact ⟨kA, comp, k1, k2, k3⟩
  obtain ⟨kA, comp, k1, k2, k3⟩ := hex
  have hcomp : comp = D.1 ci := Option.some.inj (k3.symm.trans hcls.1)
  subst hcomp
  obtain ⟨kC, hkC, -⟩ := id hcls.2
  show W p l e R s m args below meth c H locs k n _ (F0 m pc lsA (.ref (aw_f B sa b) :: .int (jI i) :: .ref (aw_f B sa a) :: st.map (aw_m (aw_f B sa))))
  rw [e1, e2]
  have h0 : ¬ jI i < 0 := fun q => hin (Or.inl q)
  have hlt : (jI i).toNatClampNeg < N := Nat.not_le.mp fun q => hin (Or.inr q)
  refine W.aast hx hb h2 (fun q h => by cases h) (fun h => by cases h) k1 k2 (by rcases ht with ⟨rfl, -⟩ | ⟨rfl, -⟩ <;> rfl) hkC ⟨h0, by show _ < (arrV _ _ _).slots.size; rw [arrV_size]; exact hlt⟩ q1 (fun q h => by rw [q3] at h; cases h) (by rw [q2]; exact hkC) (by rw [q2]; exact va_assign hcls) rfl rfl hd1 fun H' g1 g2 g3 => ?_
  refine kk B D aC sa sv p e R s m args below meth c H' _ lsA C (hP.put hs g2 g3 (fun b j t h => aw_cv_sr (fun e => h e.1)) ⟨h7, ?_⟩) (hS.put g2 g3 (by omega)) hL
  rw [g1, hcl, arrV_store]
  congr 1
  congr 1
  funext j
  unfold updV
  by_cases e9 : j = i.toNat
  · rw [if_pos e9, e9, hcc]
    unfold aw_cv
    rw [show aw_kd (aw_ty t) = 2 by rcases ht with ⟨rfl, -⟩ | ⟨rfl, -⟩ <;> rfl]
    show _ = va_rf (((aw_sr σ a i (some b)).2.2 a i).map (aw_f B sa))
    rw [show (aw_sr σ a i (some b)).2.2 a i = some b from if_pos ⟨rfl, rfl⟩]
    show _ = Value.ref (aw_f B sa b)
    rw [e2]
  · rw [if_neg e9]
    exact (aw_cv_sr (fun e => e9 (by omega))).symm
theorem aw_Pic_re {B : Nat} {φ : Nat → Nat} {D : va_G} {aC : Nat → ClassId} {σ' : aw_S} {H : Heap} {L : Nat} (hl : sh.length = L) (h : ∀ (a : Nat) (j : Int) (t : FieldType), a < L → aw_cv φ t σ' a j = aw_cv φ t σ a j) (hP : aw_Pic B φ D aC sh σ H) : aw_Pic B φ D aC sh σ' H := by
  refine ⟨hP.1, hP.2.1, fun k ci hk => ?_, fun k t n hk => ?_⟩
  · obtain ⟨r, h1, h2⟩ := hP.2.2.1 k ci hk
    have hlt := (List.getElem?_eq_some_iff.mp hk).1
    exact ⟨r, h1, h2.to (fun j _ => (h k _ _ (by omega)).symm)⟩
  · obtain ⟨h1, h2⟩ := hP.2.2.2 k t n hk
    have hlt := (List.getElem?_eq_some_iff.mp hk).1
    refine ⟨h1, ?_⟩
    rw [h2]
    congr 1
    congr 1
    funext j
    exact (h k _ _ (by omega)).symm
theorem aw_Pic_app {B : Nat} {φ : Nat → Nat} {D : va_G} {aC : Nat → ClassId} {M : Nat} {H' : Heap} : ∀ (N : Nat) {sh : aw_Sh} {H : Heap}, aw_Pic B φ D aC sh σ H → sh.length + N ≤ 1000000 → H'.size = H.size + N → (∀ q, q < H.size → H'[q]? = H[q]?) →
    (∀ j, j < N → H'[H.size + j]? = some (arrV (aC 0) M (fun _ => .int 0))) → (∀ j, j < N → ∀ i : Int, σ.1 (sh.length + j) i = 0) → aw_Pic B φ D aC (sh ++ List.replicate N (.inr (0, M))) σ H' := by
  intro N sh H hP hN hz ho hnew hzz
  have hs := hP.1
  refine ⟨by rw [List.length_append, List.length_replicate]; omega, by rw [List.length_append, List.length_replicate]; omega, fun k ci hk => ?_, fun k t n hk => ?_⟩
  · by_cases e : k < sh.length
    · rw [List.getElem?_append_left e] at hk
      obtain ⟨r, h1, h2⟩ := hP.2.2.1 k ci hk
      exact ⟨r, h1, h2.kept (ho _ (by omega))⟩
    · rw [List.getElem?_append_right (by omega)] at hk
      have := List.eq_of_mem_replicate (List.mem_of_getElem? hk)
      cases this
  · by_cases e : k < sh.length
    · rw [List.getElem?_append_left e] at hk
      obtain ⟨h1, h2⟩ := hP.2.2.2 k t n hk
      exact ⟨h1, by rw [ho _ (by omega)]; exact h2⟩
    · rw [List.getElem?_append_right (by omega)] at hk
      have h9 := (List.getElem?_eq_some_iff.mp hk).1
      rw [List.length_replicate] at h9
      have := List.eq_of_mem_replicate (List.mem_of_getElem? hk)
      cases this
      refine ⟨by decide, ?_⟩
      have h8 := hnew (k - sh.length) h9
      rw [show H.size + (k - sh.length) = B + k by omega] at h8
      rw [h8]
      congr 1
      congr 1
      funext j
      show _ = Value.int (jI (σ.1 k (j : Int)))
      have h7 := hzz (k - sh.length) h9 (j : Int)
      rw [show sh.length + (k - sh.length) = k by omega] at h7
      rw [h7]
      rfl
theorem a_mna {N M idx : Nat} {x y0 : Int} {σ' : aw_S} (hd : aw_d 4 cc pc (.multianewarray idx 2) nx) (hcl : Cond.classLink y.cls idx "[[I" ∈ aw_tbl) (hx : x = (N : Int)) (hy : y0 = (M : Int)) (hN : Nat.ble N 1000 = true) (hM : Nat.ble M 1000 = true) {L : Nat} (hL : sh.length = L) (hL2 : Nat.ble L 1000 = true) (h1 : σ'.1 = σ.1) (h2 : σ'.2.1 = σ.2.1) (h3 : ∀ (b : Nat) (j : Int), b < L → σ'.2.2 b j = σ.2.2 b j) (h4 : ∀ j : Nat, j < N → σ'.2.2 L (j : Int) = some (L + 1 + j)) (hz : ∀ (j : Nat) (i : Int), σ.1 (L + 1 + j) i = 0) (hA' : (Nat.ble (k + 1 + N) mc && Nat.ble (n + N + N * M) ms) = true)
    (kk : AW l y cc nL ret F Lo mc ms she Post (sh ++ .inr (6, N) :: List.replicate N (.inr (0, M))) (k + 1 + N) (n + N + N * M) σ' nx ls (.ref L :: st)) : AW l y cc nL ret F Lo mc ms she Post sh k n σ pc ls (.int (jI y0) :: .int (jI x) :: st) := by
  subst hx
  subst hy
  subst hL
  have hN8 := Nat.le_of_ble_eq_true hN
  have hM8 := Nat.le_of_ble_eq_true hM
  have hL3 := Nat.le_of_ble_eq_true hL2
  have hAA := (Bool.and_eq_true _ _).mp hA'
  have g3 := Nat.le_of_ble_eq_true hAA.1
  have g4 := Nat.le_of_ble_eq_true hAA.2
  obtain ⟨hd1, rfl⟩ := hd
  intro B D aC sa sv p e R s m args below meth c H locs lsA C hP hS hL
  obtain ⟨hx, hb, hml, hr, hlk, hnm, hown, hts, hF, hLo, hmc, hms, hK, hBs⟩ := id C
  have hP1 := hP.1
  obtain ⟨comp, cA, kA, a1, a2, a3, a4, a5⟩ := hK.2.2.2.2.2.2
  have r0 : s.vm.findClass "[I" = some (aC 0) := (hK.2.1 0 (by decide)).2
  have r6 : s.vm.findClass "[[I" = some (aC 6) := (hK.2.1 6 (by decide)).2
  have ec : comp = aC 0 := Option.some.inj (a1.symm.trans r0)
  have eA : cA = aC 6 := Option.some.inj (a5.symm.trans r6)
  subst ec
  subst eA
  obtain ⟨-, kC, c1, ccp, c2⟩ := (hK.2.1 0 (by decide)).1 0 (fun _ => .null)
  have hclN : ∀ z : Nat, z ≤ 1000 → (jI (z : Int)).toNatClampNeg = z := fun z hz => (jI_clamp (i := (z : Int)) (N := z + 1) (by omega) (by omega)).trans (Int.toNat_natCast z)
  have hneg : ∀ z : Nat, z ≤ 1000 → ¬ jI (z : Int) < 0 := fun z hz h => by
    have := (jI_lt (a := (z : Int)) (b := 0) (by omega)).mp h
    omega
  refine mn_W hx hb hown (hts _ hcl) a5 a3 a4 c1 c2 rfl hd1 rfl (hneg N hN8) (hneg M hM8) (hclN N hN8) (hclN M hM8) hN8 hM8 (by omega) (by omega) fun H' lc z1 o1 e1 e2 hlc => ?_
  have e9 : aw_f B sa sh.length = H.size := by unfold aw_f; rw [if_pos (by omega)]; omega
  have hP2 : aw_Pic B (aw_f B sa) D aC sh σ' H := aw_Pic_re (σ := σ) rfl (fun a j t ha => by
    unfold aw_cv
    rcases (show aw_kd t = 0 ∨ aw_kd t = 1 ∨ aw_kd t = 2 by cases t <;> simp [aw_kd]) with q | q | q
    · rw [q]; show Value.int (jI (σ'.1 a j)) = Value.int (jI (σ.1 a j)); rw [h1]
    · rw [q]; show Value.long (jL (σ'.2.1 a j)) = Value.long (jL (σ.2.1 a j)); rw [h2]
    · rw [q]; show va_rf ((σ'.2.2 a j).map _) = va_rf ((σ.2.2 a j).map _); rw [h3 a j ha]) hP
  have hP3 : aw_Pic B (aw_f B sa) D aC (sh ++ [.inr (6, N)]) σ' (H'.extract 0 (H.size + 1)) := by
    refine hP2.push (by omega) (by simp [z1]; try omega) (fun q hq => ?_) ⟨by decide, ?_⟩
    · rw [← o1 q hq]
      simp [Array.getElem?_extract]
      omega
    · rw [show B + sh.length = H.size by omega]
      have h8 : (H'.extract 0 (H.size + 1))[H.size]? = H'[H.size]? := by
        simp [Array.getElem?_extract]
        omega
      rw [h8, e1]
      congr 1
      unfold arrV
      congr 1
      congr 1
      funext j
      show (if j.val < N then Value.ref (H.size + 1 + j.val) else .null) = va_rf ((σ'.2.2 sh.length ((j.val : Nat) : Int)).map (aw_f B sa))
      rw [if_pos j.isLt, h4 j.val j.isLt]
      show Value.ref (H.size + 1 + j.val) = Value.ref (aw_f B sa (sh.length + 1 + j.val))
      have := j.isLt
      unfold aw_f
      rw [if_pos (show sh.length + 1 + j.val < 1000000 by omega), show B + (sh.length + 1 + j.val) = H.size + 1 + j.val by omega]
  have hP4 : aw_Pic B (aw_f B sa) D aC ((sh ++ [.inr (6, N)]) ++ List.replicate N (.inr (0, M))) σ' H' := by
    refine aw_Pic_app (H := H'.extract 0 (H.size + 1)) N hP3 (by rw [List.length_append]; show sh.length + 1 + N ≤ _; omega) (by simp [z1]; try omega) (fun q hq => ?_) (fun j hj => ?_) (fun j hj i => ?_)
    · simp [z1] at hq
      simp [Array.getElem?_extract]
      omega
    · have hz2 : (H'.extract 0 (H.size + 1)).size = H.size + 1 := by simp [z1]; try omega
      rw [hz2]
      exact e2 j hj
    · rw [h1, List.length_append]
      exact hz j i
  rw [List.append_assoc] at hP4
  have h9 := kk B D aC sa sv p e R s m args below meth c H' lc lsA C hP4 ⟨by rw [z1]; exact Nat.le_trans hS.1 (by omega), fun q h1 h2 => (o1 q (Nat.lt_of_lt_of_le h1 hS.1)).trans (hS.2.1 q h1 h2), fun q hq => by
    rcases hlc q hq with h | h
    · exact hS.2.2 q h
    · show B ≤ q.base
      rw [h]; omega⟩ hL
  have e8 : ((Value.ref sh.length :: st).map (aw_m (aw_f B sa))) = .ref H.size :: st.map (aw_m (aw_f B sa)) := by
    show Value.ref (aw_f B sa sh.length) :: _ = _
    rw [e9]
  rw [e8] at h9
  exact h9
end AWN2
