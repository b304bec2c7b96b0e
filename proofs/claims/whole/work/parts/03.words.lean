/-- the words of the tables that a call hands on -/
def aw_tbl : List Cond := lw_tbl.filter goodWord
set_option maxRecDepth 100000 in
theorem aw_in0 {w : Cond} (h : w ∈ tables_1) (hg : goodWord w = true) : w ∈ aw_tbl := List.mem_filter.mpr ⟨List.mem_append_right _ h, hg⟩
set_option maxRecDepth 100000 in
theorem aw_in1 {w : Cond} (i : Nat) (h : tables_1_1[i]? = some w) (hg : goodWord w = true) : w ∈ aw_tbl := aw_in0 (List.mem_append_left _ (List.mem_of_getElem? h)) hg
set_option maxRecDepth 100000 in
theorem aw_in2 {w : Cond} (i : Nat) (h : tables_1_2[i]? = some w) (hg : goodWord w = true) : w ∈ aw_tbl := aw_in0 (List.mem_append_right _ (List.mem_append_left _ (List.mem_of_getElem? h))) hg
set_option maxRecDepth 100000 in
theorem aw_in3 {w : Cond} (i : Nat) (h : tables_1_3[i]? = some w) (hg : goodWord w = true) : w ∈ aw_tbl := aw_in0 (List.mem_append_right _ (List.mem_append_right _ (List.mem_append_left _ (List.mem_of_getElem? h)))) hg
set_option maxRecDepth 100000 in
theorem aw_in4 {w : Cond} (i : Nat) (h : tables_1_4[i]? = some w) (hg : goodWord w = true) : w ∈ aw_tbl := aw_in0 (List.mem_append_right _ (List.mem_append_right _ (List.mem_append_right _ (List.mem_append_left _ (List.mem_of_getElem? h))))) hg
set_option maxRecDepth 100000 in
theorem aw_in5 {w : Cond} (i : Nat) (h : tables_1_5[i]? = some w) (hg : goodWord w = true) : w ∈ aw_tbl := aw_in0 (List.mem_append_right _ (List.mem_append_right _ (List.mem_append_right _ (List.mem_append_right _ (List.mem_append_left _ (List.mem_of_getElem? h)))))) hg
set_option maxRecDepth 100000 in
theorem aw_in6 {w : Cond} (i : Nat) (h : tables_1_6[i]? = some w) (hg : goodWord w = true) : w ∈ aw_tbl := aw_in0 (List.mem_append_right _ (List.mem_append_right _ (List.mem_append_right _ (List.mem_append_right _ (List.mem_append_right _ (List.mem_append_left _ (List.mem_of_getElem? h))))))) hg
set_option maxRecDepth 100000 in
theorem aw_in7 {w : Cond} (i : Nat) (h : tables_1_7[i]? = some w) (hg : goodWord w = true) : w ∈ aw_tbl := aw_in0 (List.mem_append_right _ (List.mem_append_right _ (List.mem_append_right _ (List.mem_append_right _ (List.mem_append_right _ (List.mem_append_right _ (List.mem_of_getElem? h))))))) hg
set_option maxRecDepth 100000 in
theorem aw_sel {y : MethodName} (i : Nat) {n : Nat} (h : lw_privs[i]? = some (y, n)) : Cond.selects y.cls y y ∈ aw_tbl := List.mem_filter.mpr ⟨List.mem_append_left _ (List.mem_map.mpr ⟨(y, n), List.mem_of_getElem? h, rfl⟩), rfl⟩
/-- an instruction, its length, the next one's place -/
def aw_d (len : Nat) (cc : ByteArray) (pc : Nat) (i : Instr) (nx : Nat) : Prop := decode cc pc = .ok (i, len) ∧ pc + len = nx
/-- the field k of class number ci, as the pool entry idx of class own links it -/
def aw_fl (own : String) (idx ci k : Nat) : Prop := ∃ q : vw_C, vwCl[ci]? = some q ∧ k < q.2.2 ∧ Cond.fieldLink own idx (q.2.1 k).1 (q.2.1 k).2.1 (q.2.1 k).2.2.1 ∈ aw_tbl
/-- a method with its code; how it is found; how many parameters -/
def aw_mt (y : MethodName) (cc : ByteArray) (nL : Nat) (ret : Option FieldType) (n : Nat) : Prop := Cond.initialized y.cls ∈ aw_tbl ∧ Cond.code y cc nL ret ∈ aw_tbl ∧ (y.cls ≠ "java/lang/invoke/MethodHandle" ∧ y.cls ≠ "java/lang/invoke/VarHandle" ∧ (parseMethodDescriptor y.desc).map (fun d => d.parameters.length) = some n) ∧ plainName y.cls = true
def aw_mV (y : MethodName) : Prop := Cond.instanceMethod y ∈ aw_tbl ∧ Cond.selects y.cls y y ∈ aw_tbl
def aw_mS (y : MethodName) : Prop := Cond.static y ∈ aw_tbl
def aw_mI (y : MethodName) : Prop := y.name = "<init>" ∧ Cond.instanceMethod y ∈ aw_tbl
/-- the private ones that a nest mate calls -/
def aw_nest : List (String × Nat × MethodName × String) := [(RX9, 9, yX4_init, "CabRanks"), (RX4, 17, yX3_init, "CabRanks"), (RX9, 18, yX3_init, "CabRanks"), (RX5, 32, yX2_init, "CabRanks"), (RX9, 40, yX8_init, "CabRanks"), (RX9, 47, yX1_init, "CabRanks"), (RX9, 54, yX6_init, "CabRanks"), (RX9, 61, yX0_init, "CabRanks"), (RX9, 68, yX7_init, "CabRanks"), (RX4, 170, yX9_within, "CabRanks"), (RX3, 64, yX9_within, "CabRanks"), (RX5, 59, yX9_within, "CabRanks"), (RX1, 71, yX9_within, "CabRanks"), (RX0, 47, yX9_within, "CabRanks")]
set_option maxRecDepth 100000 in
theorem ln_X9_9 : (RX9, 9, yX4_init, "CabRanks") ∈ aw_nest := List.mem_of_getElem? (i := 0) rfl
set_option maxRecDepth 100000 in
theorem ln_X4_17 : (RX4, 17, yX3_init, "CabRanks") ∈ aw_nest := List.mem_of_getElem? (i := 1) rfl
set_option maxRecDepth 100000 in
theorem ln_X9_18 : (RX9, 18, yX3_init, "CabRanks") ∈ aw_nest := List.mem_of_getElem? (i := 2) rfl
set_option maxRecDepth 100000 in
theorem ln_X5_32 : (RX5, 32, yX2_init, "CabRanks") ∈ aw_nest := List.mem_of_getElem? (i := 3) rfl
set_option maxRecDepth 100000 in
theorem ln_X9_40 : (RX9, 40, yX8_init, "CabRanks") ∈ aw_nest := List.mem_of_getElem? (i := 4) rfl
set_option maxRecDepth 100000 in
theorem ln_X9_47 : (RX9, 47, yX1_init, "CabRanks") ∈ aw_nest := List.mem_of_getElem? (i := 5) rfl
set_option maxRecDepth 100000 in
theorem ln_X9_54 : (RX9, 54, yX6_init, "CabRanks") ∈ aw_nest := List.mem_of_getElem? (i := 6) rfl
set_option maxRecDepth 100000 in
theorem ln_X9_61 : (RX9, 61, yX0_init, "CabRanks") ∈ aw_nest := List.mem_of_getElem? (i := 7) rfl
set_option maxRecDepth 100000 in
theorem ln_X9_68 : (RX9, 68, yX7_init, "CabRanks") ∈ aw_nest := List.mem_of_getElem? (i := 8) rfl
set_option maxRecDepth 100000 in
theorem ln_X4_170 : (RX4, 170, yX9_within, "CabRanks") ∈ aw_nest := List.mem_of_getElem? (i := 9) rfl
set_option maxRecDepth 100000 in
theorem ln_X3_64 : (RX3, 64, yX9_within, "CabRanks") ∈ aw_nest := List.mem_of_getElem? (i := 10) rfl
set_option maxRecDepth 100000 in
theorem ln_X5_59 : (RX5, 59, yX9_within, "CabRanks") ∈ aw_nest := List.mem_of_getElem? (i := 11) rfl
set_option maxRecDepth 100000 in
theorem ln_X1_71 : (RX1, 71, yX9_within, "CabRanks") ∈ aw_nest := List.mem_of_getElem? (i := 12) rfl
set_option maxRecDepth 100000 in
theorem ln_X0_47 : (RX0, 47, yX9_within, "CabRanks") ∈ aw_nest := List.mem_of_getElem? (i := 13) rfl
