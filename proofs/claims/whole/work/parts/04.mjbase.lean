/-! the words, the fields, the methods: what the tables say -/
/-- the field kinds: 0 a whole number of 32 bits, 1 of 64, 2 + k a reference to a cell of kind k -/
def mj_ftl : List (List Nat) := [[0, 0, 0], [102, 0, 0, 102, 0], [0, 0, 105, 102, 102, 102, 0], [102, 102, 102, 102], [0, 0, 102, 102, 0, 102, 102], [0, 0, 0, 0, 0, 0, 0, 0, 102, 102, 102, 102, 102, 102, 0, 0, 102, 102], [102, 0, 0, 0, 7, 102], [7, 102, 102, 0, 0], [0, 102, 102], [102, 0, 8, 3, 4, 7, 7, 9, 9, 6, 2, 5, 10, 102, 0, 1, 0, 0, 0],
  [0, 102, 0, 0, 0, 0, 102, 102, 102, 102, 102, 102, 102, 0, 0, 102, 102, 102, 102, 102, 0, 0, 102, 102, 102, 0, 0, 0, 102, 102, 0, 0, 102, 102, 102, 102, 102, 0, 1, 102, 102, 102, 102, 103, 0, 102, 0]]
def mj_ft (c k : Nat) : Nat := (mj_ftl.getD c []).getD k 0
def mj_nf (c : Nat) : Nat := (mj_ftl.getD c []).length
-- the words
def mj_T : List Cond := lw_tbl.filter goodWord
theorem mj_in {w : Cond} (i : Nat) (h : lw_tbl[i]? = some w) (hg : goodWord w = true) : w ∈ mj_T := List.mem_filter.mpr ⟨List.mem_of_getElem? h, hg⟩
/-- the nest mates' words are carried by the state -/
def mj_isN : Cond → Bool
  | .fieldLinkNest .. => true
  | .methodLinkNest .. => true
  | .arrayOver .. => true
  | _ => false
def mj_N : List Cond := tables_1.filter mj_isN
theorem mj_inN {w : Cond} (i : Nat) (h : tables_1[i]? = some w) (hg : mj_isN w = true) : w ∈ mj_N := List.mem_filter.mpr ⟨List.mem_of_getElem? h, hg⟩
/-- what the tables say of a field as this class's code names it: the class's number, the field's -/
def mj_fl (own : String) (index ci k : Nat) (ty : FieldType) (fin o : Bool) : Prop := ∃ (ref C : String) (T : u_T) (N : Nat) (ty0 : Nat → FieldType), vwCl[ci]? = some (C, T, N) ∧ (∀ w ∈ u_ws C T N, w ∈ mj_T) ∧ (∀ j, j < N → parseFieldDescriptor (T j).2.2.1 = some (ty0 j)) ∧ (∀ a, a < N → ∀ b, b < N → a ≠ b → (T a).2.1 ≠ (T b).2.1) ∧ k < N ∧ N = mj_nf ci ∧ ci < 11 ∧ ty0 k = ty ∧ (T k).2.2.2 = fin ∧ (o = true → (T k).1 = own) ∧ Cond.fieldLink own index ref (T k).2.1 (T k).2.2.1 ∈ mj_T ∧ (ref = (T k).1 ∨ Cond.sameField ref (T k).1 (T k).2.1 (T k).2.2.1 ∈ mj_T)
/-- what the tables say of a method that is called -/
def mj_cal (y : MethodName) (b : ByteArray) (nL2 : Nat) (rt2 : Option FieldType) (np : Nat) : Prop := Cond.code y b nL2 rt2 ∈ mj_T ∧ Cond.initialized y.cls ∈ mj_T ∧ (y.cls ≠ "java/lang/invoke/MethodHandle" ∧ y.cls ≠ "java/lang/invoke/VarHandle" ∧ (parseMethodDescriptor y.desc).map (fun d => d.parameters.length) = some np) ∧ nL2 ≤ 45
/-- what the tables say of a class that is made here -/
def mj_cn (own : String) (index ci : Nat) : Prop := ∃ (C : String) (T : u_T) (N : Nat) (ty0 : Nat → FieldType), vwCl[ci]? = some (C, T, N) ∧ (∀ w ∈ u_ws C T N, w ∈ mj_T) ∧ (∀ j, j < N → parseFieldDescriptor (T j).2.2.1 = some (ty0 j)) ∧ N = mj_nf ci ∧ ci < 11 ∧ Cond.classLink own index C ∈ mj_T ∧ Cond.instantiable C N ∈ mj_T ∧ Cond.initialized C ∈ mj_T ∧ ∀ j, j < N → defaultValue (ty0 j) = (if mj_ft ci j = 0 then .int 0 else if mj_ft ci j = 1 then .long 0 else .null)
