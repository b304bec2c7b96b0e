/-! ===== rows of rows made new, and references put into rows: over the machine ===== -/
/-- a row of rows, i of its N rows made -/
def mnT (T : State) (cA comp : ClassId) (N M : Nat) : Nat → State
  | 0 => T.pushCell (arrV cA N (fun _ => .null))
  | i + 1 => ((mnT T cA comp N M i).pushCell (arrV comp M (fun _ => .int 0))).setCell T.heap.size (arrV cA N (fun j => if j < i + 1 then .ref (T.heap.size + 1 + j) else .null))
theorem mnT_f (T : State) (cA comp : ClassId) (N M : Nat) : ∀ i, (mnT T cA comp N M i).heap.size = T.heap.size + 1 + i ∧ (mnT T cA comp N M i).heap[T.heap.size]? = some (arrV cA N (fun j => if j < i then .ref (T.heap.size + 1 + j) else .null)) ∧ (mnT T cA comp N M i).vm = T.vm
  | 0 => by
    refine ⟨by simp [mnT], ?_, rfl⟩
    rw [mnT, State.heap_pushCell_size]
    congr 2
  | i + 1 => by
    obtain ⟨a, b, d⟩ := mnT_f T cA comp N M i
    have hlt : T.heap.size < (mnT T cA comp N M i).heap.size := by omega
    have hb : ((mnT T cA comp N M i).pushCell (arrV comp M (fun _ => .int 0))).heap[T.heap.size]? = some (arrV cA N (fun j => if j < i then .ref (T.heap.size + 1 + j) else .null)) := by rw [State.heap_pushCell_of_lt (h := hlt)]; exact b
    refine ⟨?_, State.heap_setCell_self hb, by rw [← d]; rfl⟩
    rw [mnT, size_setCell]
    simp [a]
    omega
theorem mnT_o (T : State) (cA comp : ClassId) (N M : Nat) {q : Nat} (hq : q < T.heap.size) : ∀ i, (mnT T cA comp N M i).heap[q]? = T.heap[q]?
  | 0 => State.heap_pushCell_of_lt _ _ hq
  | i + 1 => by
    have a := (mnT_f T cA comp N M i).1
    have hlt : q < (mnT T cA comp N M i).heap.size := by omega
    rw [mnT, State.heap_setCell_other (Nat.ne_of_gt hq), State.heap_pushCell_of_lt (h := hlt)]
    exact mnT_o T cA comp N M hq i
theorem mnT_i (T : State) (cA comp : ClassId) (N M : Nat) : ∀ i j, j < i → (mnT T cA comp N M i).heap[T.heap.size + 1 + j]? = some (arrV comp M (fun _ => .int 0))
  | 0, _, h => absurd h (Nat.not_lt_zero _)
  | i + 1, j, h => by
    have a := (mnT_f T cA comp N M i).1
    rw [mnT, State.heap_setCell_other (show T.heap.size ≠ T.heap.size + 1 + j by omega)]
    by_cases e : j < i
    · have hlt : T.heap.size + 1 + j < (mnT T cA comp N M i).heap.size := by omega
      rw [State.heap_pushCell_of_lt (h := hlt)]
      exact mnT_i T cA comp N M i j e
    · rw [show T.heap.size + 1 + j = (mnT T cA comp N M i).heap.size by omega]
      exact State.heap_pushCell_size _ _
theorem mnT_t (T : State) (f : JFrame) (cA comp : ClassId) (N M : Nat) : ∀ i, mnT (T.setTop f) cA comp N M i = (mnT T cA comp N M i).setTop f
  | 0 => rfl
  | i + 1 => by simp only [mnT, mnT_t T f cA comp N M i, State.heap_setTop, State.pushCell_setTop, State.setCell_setTop]
theorem mn_arr {E : CtlPost} {e : Env} {d : Bool} {acts : List Action} {s : State} {c comp : ClassId} {k : Class} {type : FieldType} {len : Nat} {init : Value} (hk : s.vm.classes[c]? = some k) (hkind : k.kind = .array comp type)
    (hlimit : ¬ len > e.platform.arrayLengthLimit) (hheap : ¬ len * componentBytes type > e.platform.maxHeapBytes) (hfit : fits type init = true) (hdef : init.isDefault = true) {Q : Addr → Pre}
    (h1 : s.heap.size < e.platform.maxCells) (h2 : s.slotsUsed + len ≤ e.platform.maxSlots) (hq : Q s.heap.size d acts (s.pushCell (arrV c len (fun _ => init)))) : wp (Jvm.newArray c len init) Q E e d acts s := by
  have hall : ((Array.replicate len init).all (·.isDefault)) = true := by
    rw [Array.all_replicate]
    split <;> simp [hdef]
  have hda : allocActs (Array.replicate len init) s.heap.size acts = acts := by
    unfold allocActs
    rw [if_pos hall]
  rw [← arrV_new] at hq
  simp only [Jvm.newArray, Jvm.arrayFits, wp_bind', W.ask, W.ite, hlimit, if_false, wp_pure', W.theClass, hk, hkind, hheap, W.alloc, W.stop, Option.some.injEq, exists_eq_left', Array.size_replicate, hda]
  rw [if_neg (by omega)]
  refine ⟨h1, h2, fun i v hv => ?_, hq⟩
  rw [Array.getElem?_replicate] at hv
  split at hv
  · cases hv
    simp [State.fitsSlot, State.slotType?, hk, hkind, hfit]
  · cases hv
section MN
variable {p : Program} {l : Launch} {e : Env} {R : Room} {s : State} {m : MethodId} {args : Array Value} {below : List Frame} {meth : Method} {c : Code} {locs : List Loc} {cells slots : Nat} {H : Heap} {Q : State → Prop}
theorem mn_stand {T : State} (X : Stand p l e R s m args below meth c T locs cells slots) (cA comp : ClassId) (N M : Nat) : ∀ i, Stand p l e R s m args below meth c (mnT T cA comp N M i) (locs ++ (List.range i).map fun j => ⟨T.heap.size, j⟩) (cells + 1 + i) (slots + N + i * M)
  | 0 => by
    have h := X.pushed (arrV cA N (fun _ => .null))
    rw [arrV_size] at h
    simpa [mnT] using h
  | i + 1 => by
    have Xi := mn_stand X cA comp N M i
    obtain ⟨f1, f2, f3⟩ := mnT_f T cA comp N M i
    have hlt0 : T.heap.size < (mnT T cA comp N M i).heap.size := by omega
    have hcell : ((mnT T cA comp N M i).pushCell (arrV comp M (fun _ => .int 0))).heap[T.heap.size]? = some (arrV cA N (fun j => if j < i then .ref (T.heap.size + 1 + j) else .null)) := by rw [State.heap_pushCell_of_lt (h := hlt0)]; exact f2
    have h := (Xi.pushed (arrV comp M (fun _ => .int 0))).stored hcell i (.ref (T.heap.size + 1 + i))
    rw [arrV_size, arrV_store] at h
    have e2 : (locs ++ (List.range (i + 1)).map fun j => (⟨T.heap.size, j⟩ : Loc)) = (locs ++ (List.range i).map fun j => (⟨T.heap.size, j⟩ : Loc)) ++ [⟨T.heap.size, i⟩] := by simp [List.range_succ, List.append_assoc]
    have e3 : slots + N + (i + 1) * M = slots + N + i * M + M := by rw [Nat.succ_mul]; omega
    have e4 : updV (fun j => if j < i then Value.ref (T.heap.size + 1 + j) else .null) i (.ref (T.heap.size + 1 + i)) = fun j => if j < i + 1 then Value.ref (T.heap.size + 1 + j) else .null := by
      funext j
      unfold updV
      by_cases q : j = i
      · rw [if_pos q, if_pos (by omega), q]
      · rw [if_neg q]
        by_cases q2 : j < i
        · rw [if_pos q2, if_pos (by omega)]
        · rw [if_neg q2, if_neg (by omega)]
    rw [e4] at h
    rw [e2, e3]
    exact h
theorem mn_make {T : State} (X : Stand p l e R s m args below meth c T locs cells slots) {cA comp ccp : ClassId} {kA kC : Class} (hkA : T.vm.classes[cA]? = some kA) (hkindA : kA.kind = .array comp (.array .int)) (hkC : T.vm.classes[comp]? = some kC) (hkindC : kC.kind = .array ccp .int)
    {n k : Int32} (hn : ¬ n < 0) (hk : ¬ k < 0) {N M : Nat} (eN : n.toNatClampNeg = N) (eM : k.toNatClampNeg = M) (hN : N ≤ 1000) (hM : M ≤ 1000) (hcells : cells + (1 + N) ≤ R.cells) (hslots : slots + (N + N * M) ≤ R.slots) {f : JFrame} {E : CtlPost} {d : Bool} {acts : List Action} {Q : Addr → Pre} (hq : ∀ d' acts', Q T.heap.size d' acts' ((mnT T cA comp N M N).setTop f)) :
    wp (multianewarray.make cA [n, k]) Q E e d acts (T.setTop f) := by
  have hl1 : ¬ N > e.platform.arrayLengthLimit := by rw [Launch.admits_arrayLengthLimit X.admits]; omega
  have hl2 : ¬ M > e.platform.arrayLengthLimit := by rw [Launch.admits_arrayLengthLimit X.admits]; omega
  have hh1 : ¬ N * componentBytes (.array .int) > e.platform.maxHeapBytes := by rw [Launch.admits_maxHeapBytes X.admits]; show ¬ N * 4 > 536870912; omega
  have hh2 : ¬ M * componentBytes .int > e.platform.maxHeapBytes := by rw [Launch.admits_maxHeapBytes X.admits]; show ¬ M * 4 > 536870912; omega
  have hfind : ([k].find? (· < 0)) = none := by simp [hk]
  obtain ⟨r1, r2⟩ := X.roomAbove hcells hslots
  rw [multianewarray.make]
  have hkA' : (T.setTop f).vm.classes[cA]? = some kA := hkA
  simp only [wp_bind', W.ite, hn, if_false, wp_pure', W.theClass, hkA', hkindA, Option.some.injEq, exists_eq_left']
  rw [eN]
  refine mn_arr hkA' hkindA hl1 hh1 rfl rfl (by show T.heap.size < _; omega) (by show T.slotsUsed + N ≤ _; omega) ?_
  simp only [hfind]
  rw [ite_self, wp_bind', Std.Legacy.Range.forIn_eq_forIn_range']
  have hsz : ([:N] : Std.Legacy.Range).size = N := by simp [Std.Legacy.Range.size]
  rw [hsz]
  show wp (forIn (List.range' 0 N 1) PUnit.unit _) _ E e d acts _
  refine wp_forIn_inv (fun rest s' => ∃ i, i ≤ N ∧ rest = List.range' i (N - i) ∧ s' = mnT (T.setTop f) cA comp N M i) _ _ ⟨0, Nat.zero_le _, rfl, rfl⟩ ?_ ?_
  · rintro x rest s' d' acts' Q' ⟨i, hi, hl, rfl⟩ hnext
    have hlt : i < N := by
      rcases Nat.lt_or_ge i N with h | h
      · exact h
      · rw [show N - i = 0 by omega] at hl
        simp at hl
    rw [show N - i = (N - (i + 1)) + 1 by omega, List.range'_succ] at hl
    obtain ⟨rfl, hrest⟩ := List.cons.inj hl
    have Xi := mn_stand X cA comp N M x
    have hmul : x * M + M ≤ N * M := by
      have h := Nat.mul_le_mul_right M (show x + 1 ≤ N from hlt)
      rw [Nat.succ_mul] at h
      exact h
    obtain ⟨q1, q2⟩ := Xi.roomAbove (a := 1) (b := M) (by omega) (by omega)
    obtain ⟨f1, f2, f3⟩ := mnT_f T cA comp N M x
    have hlt0 : T.heap.size < (mnT T cA comp N M x).heap.size := by omega
    rw [mnT_t]
    simp only [wp_bind']
    rw [multianewarray.make]
    have hkC' : ((mnT T cA comp N M x).setTop f).vm.classes[comp]? = some kC := by show (mnT T cA comp N M x).vm.classes[comp]? = _; rw [f3]; exact hkC
    simp only [wp_bind', W.ite, hk, if_false, wp_pure', W.theClass, hkC', hkindC, Option.some.injEq, exists_eq_left']
    rw [eM]
    refine mn_arr hkC' hkindC hl2 hh2 rfl rfl (by show (mnT T cA comp N M x).heap.size < _; omega) (by show (mnT T cA comp N M x).slotsUsed + M ≤ _; omega) ?_
    simp only [wp_bind', W.writeLoc, wp_pure']
    have hcell : (((mnT T cA comp N M x).setTop f).pushCell (arrV comp M (fun _ => .int 0))).heap[T.heap.size]? = some (arrV cA N (fun j => if j < x then .ref (T.heap.size + 1 + j) else .null)) := by rw [State.heap_pushCell_of_lt (h := hlt0)]; exact f2
    have hkA2 : (((mnT T cA comp N M x).setTop f).pushCell (arrV comp M (fun _ => .int 0))).vm.classes[cA]? = some kA := by show (mnT T cA comp N M x).vm.classes[cA]? = _; rw [f3]; exact hkA
    refine ⟨_, hcell, by simp [arrV], by rw [arrV_size]; exact hlt, ?_, hnext _ _ _ ⟨x + 1, hlt, hrest, ?_⟩⟩
    · simp [State.fitsSlot, State.slotType?, arrV, hkA2, hkindA, fits]
    · rw [arrV_store, mnT_t, mnT]
      sorry
  · rintro s' d' acts' ⟨i, hi, hl, rfl⟩
    have hiN : i = N := by
      rcases Nat.lt_or_ge i N with h | h
      · rw [show N - i = (N - (i + 1)) + 1 by omega, List.range'_succ] at hl
        cases hl
      · omega
    subst hiN
    simp only [wp_pure']
    rw [mnT_t]
    exact hq _ _
end MN
