/-! THE MINI WORLD: cells by small numbers, their contents as functions; a judgement over it that speaks of no address. -/
abbrev mj_S : Type := List (Nat × Nat) × (Nat → Nat → Int32) × (Nat → Nat → Int64) × (Nat → Nat → Option Nat)
def m_kd (S : mj_S) (a : Nat) : Nat := (S.1.getD a (999, 0)).1
def m_ln (S : mj_S) (a : Nat) : Nat := (S.1.getD a (999, 0)).2
def m_gi (S : mj_S) (a j : Nat) : Int32 := S.2.1 a j
def m_gl (S : mj_S) (a j : Nat) : Int64 := S.2.2.1 a j
def m_gp (S : mj_S) (a j : Nat) : Option Nat := S.2.2.2 a j
def m_si (S : mj_S) (a j : Nat) (x : Int32) : mj_S := (S.1, (fun b k => if b = a ∧ k = j then x else S.2.1 b k), S.2.2.1, S.2.2.2)
def m_sl (S : mj_S) (a j : Nat) (x : Int64) : mj_S := (S.1, S.2.1, (fun b k => if b = a ∧ k = j then x else S.2.2.1 b k), S.2.2.2)
def m_sp (S : mj_S) (a j : Nat) (x : Option Nat) : mj_S := (S.1, S.2.1, S.2.2.1, (fun b k => if b = a ∧ k = j then x else S.2.2.2 b k))
def m_row (S : mj_S) (a : Nat) (f : Nat → Int32) : mj_S := (S.1, (fun b => if b = a then f else S.2.1 b), S.2.2.1, S.2.2.2)
def m_nw (S : mj_S) (k n : Nat) : mj_S := (S.1 ++ [(k, n)], S.2.1, S.2.2.1, S.2.2.2)
abbrev mj_G : Type := va_G × (Nat → ClassId) × Nat × (Nat → Int32)
def mj_cv (ad : Nat → Nat) : Value → Value
  | .ref a => .ref (ad a)
  | v => v
def mj_fv (ad : Nat → Nat) (S : mj_S) (a k : Nat) : Value := if mj_ft (m_kd S a) k = 0 then .int (m_gi S a k) else if mj_ft (m_kd S a) k = 1 then .long (m_gl S a k) else va_rf ((m_gp S a k).map ad)
def mj_ce (dA : Nat → ClassId) (ad : Nat → Nat) (S : mj_S) (a : Nat) : va_E :=
  if m_kd S a < 100 then .inr (m_kd S a, (List.range (m_ln S a)).map (mj_fv ad S a))
  else if m_kd S a = 102 then .inl (dA 2, m_ln S a, .inr (.inl (m_gl S a)))
  else if m_kd S a = 103 then .inl (dA 3, m_ln S a, .inr (.inr (.inr (.inr (fun j => (m_gp S a j).map ad)))))
  else .inl (dA (m_kd S a - 100), m_ln S a, .inl (m_gi S a))
def mj_ws (dA : Nat → ClassId) (ad : Nat → Nat) (S : mj_S) : va_W := (List.range (S.1.length - 6)).map (fun i => (ad (i + 6), mj_ce dA ad S (i + 6)))
theorem mj_at {dA : Nat → ClassId} {ad : Nat → Nat} {S : mj_S} {a : Nat} (h : 6 ≤ a) (hl : a < S.1.length) : (mj_ws dA ad S)[a - 6]? = some (ad a, mj_ce dA ad S a) := by
  unfold mj_ws
  rw [List.getElem?_map, List.getElem?_range (by omega)]
  simp [show a - 6 + 6 = a by omega]
theorem mj_atI {dA : Nat → ClassId} {ad : Nat → Nat} {S : mj_S} {k : Nat} {q : Nat × va_E} (h : (mj_ws dA ad S)[k]? = some q) : k + 6 < S.1.length ∧ q = (ad (k + 6), mj_ce dA ad S (k + 6)) := by
  unfold mj_ws at h
  rw [List.getElem?_map] at h
  by_cases hk : k < S.1.length - 6
  · rw [List.getElem?_range hk] at h
    simp at h
    exact ⟨by omega, h.symm⟩
  · rw [List.getElem?_eq_none (by simp; omega)] at h
    cases h
theorem mj_set {dA : Nat → ClassId} {ad : Nat → Nat} {S S' : mj_S} {a : Nat} (h : 6 ≤ a) (hl : S'.1 = S.1) (hc : ∀ b, b ≠ a → mj_ce dA ad S' b = mj_ce dA ad S b) : mj_ws dA ad S' = (mj_ws dA ad S).set (a - 6) (ad a, mj_ce dA ad S' a) := by
  apply List.ext_getElem?
  intro i
  unfold mj_ws
  rw [hl]
  by_cases hi : i < S.1.length - 6
  · by_cases e : i = a - 6
    · subst e
      rw [List.getElem?_set_self (by simpa using hi), List.getElem?_map, List.getElem?_range hi]
      simp [show a - 6 + 6 = a by omega]
    · rw [List.getElem?_set_ne (fun q => e q.symm), List.getElem?_map, List.getElem?_map, List.getElem?_range hi]
      simp only [Option.map_some]
      rw [hc (i + 6) (by omega)]
  · rw [List.getElem?_eq_none (by simp; omega), List.getElem?_eq_none (by simp; omega)]
theorem mj_rset {f f' : Nat → Value} {n k : Nat} {v : Value} (h1 : f' k = v) (h2 : ∀ j, j ≠ k → f' j = f j) : ((List.range n).map f).set k v = (List.range n).map f' := by
  apply List.ext_getElem?
  intro i
  by_cases hi : i < n
  · by_cases e : i = k
    · subst e
      rw [List.getElem?_set_self (by simpa using hi), List.getElem?_map, List.getElem?_range hi]
      simp [h1]
    · rw [List.getElem?_set_ne (fun q => e q.symm), List.getElem?_map, List.getElem?_map, List.getElem?_range hi]
      simp [h2 i e]
  · rw [List.getElem?_eq_none (by simp; omega), List.getElem?_eq_none (by simp; omega)]
theorem mj_good {w : Cond} (h : w ∈ mj_T) : GoodIn mj_T (w :: mj_T) := by
  intro v hv
  have hm : v ∈ mj_T := by
    rcases List.mem_cons.mp hv with e | e
    · rw [e]; exact h
    · exact e
  exact ⟨hm, good_of_word (List.mem_filter.mp hm).2⟩
def mj_nw (U : State) : Prop := ∀ w ∈ mj_N, va_Nw w U
theorem mj_aom {t : FieldType} {u U : State} (hvm : u.vm.Alike U.vm) (h : va_Nw (.arrayOver (.array t)) u) : va_Nw (.arrayOver (.array t)) U := by
  obtain ⟨comp, c, k, h1, h2, h3, h4, h5⟩ := arrayOverA_spec h
  obtain ⟨k', hk', he⟩ := hvm.2.2 _ _ h3
  have hi : (U.vm.classes.findIdx? fun (x : Class) => match x.kind with | .array component _ => component == comp | _ => false) = some c := by
    rw [hvm.findIdx?_eq _ (fun _ => rfl)]
    exact h2
  have hkind : k'.kind = .array comp (.array t) := by rw [he]; exact h4
  have f1 : U.vm.findClass (FieldType.array t).toString = some comp := by rw [hvm.findClass]; exact h1
  have f2 : U.vm.findClass ("[" ++ (FieldType.array t).toString) = some c := by rw [hvm.findClass]; exact h5
  unfold va_Nw Cond.before Cond.holds
  simp only [Cond.value]
  rw [f1, Option.bind_some]
  refine (congrArg (fun o : Option Nat => (o.bind (fun c => (U.vm.classes[c]?).map fun (k : Class) => match k.kind with | .array _ ty => decide (ty = FieldType.array t) && decide (U.vm.findClass ("[" ++ (FieldType.array t).toString) = some c) | _ => false) == some true)) hi).trans ?_
  simp [hk', hkind, f2]
theorem mj_aov {ty : FieldType} {u U : State} (hvm : u.vm.Alike U.vm) (h : va_Nw (.arrayOver ty) u) : va_Nw (.arrayOver ty) U := by
  cases ty <;> first | exact va_AO.moved hvm h | exact mj_aom hvm h | exact absurd h (by simp [va_Nw, Cond.before, Cond.holds, Cond.value])
theorem mj_aow {ty : FieldType} {s U : State} (hW : s.WarmedH U.vm) (h : va_Nw (.arrayOver ty) s) : va_Nw (.arrayOver ty) U := mj_aov hW.alike h
theorem mj_nw.warm {s U : State} (hW : s.WarmedH U.vm) (h : mj_nw s) : mj_nw U := by
  intro w hw
  have h1 := h w hw
  have h2 := (List.mem_filter.mp hw).2
  cases w <;> first | exact va_Nw.warmF hW h1 | exact va_Nw.warmM hW h1 | exact mj_aow hW h1 | exact absurd h2 (by simp [mj_isN])
theorem mj_nw.same {u U : State} (hv : u.vm = U.vm) (h : mj_nw u) : mj_nw U := by
  intro w hw
  have h1 := h w hw
  have h2 := (List.mem_filter.mp hw).2
  cases w <;> first | exact va_Nw.same rfl hv h1 | exact mj_aov (hv ▸ Vm.Alike.refl u.vm) h1 | exact absurd h2 (by simp [mj_isN])
-- read-only cells: five static tables, the script
def mj_ron (i : Nat) : String × String := if i = 0 then ("ITEM_LETTER", "[C") else if i = 1 then ("ITEM_LEAST", "[I") else if i = 2 then ("ITEM_MOST", "[I") else if i = 3 then ("ITEM_WITHOUT", "[I") else ("LAW_LETTER", "[C")
def mj_rs (L i : Nat) : Nat × Nat := if i = 0 then (111, 12) else if i = 1 then (110, 12) else if i = 2 then (110, 12) else if i = 3 then (110, 12) else if i = 4 then (111, 6) else (110, L)
def mj_rct : List (List Int32) := [[119, 104, 108, 109, 97, 100, 118, 107, 103, 111, 99, 109], [1, 1, 0, 0, 0, 0, 0, 1, 0, 0, 0, 1], [5, 4, 99, 9, 19, 1, 9, 99, 9, 1, 19, 9], [4, 3, 40, 1, 0, 0, 5, 30, 1, 0, 0, 3], [118, 107, 103, 108, 121, 99]]
def mj_rc (xs : Nat → Int32) (i j : Nat) : Int32 := if i < 5 then (mj_rct.getD i []).getD j 0 else xs j
def mj_ro (L : Nat) (xs : Nat → Int32) (ad : Nat → Nat) (A : Nat → Prop) (U : State) (H : Heap) : Prop := (∀ i, i < 5 → va_Z "VelvetStates" (mj_ron i).1 (mj_ron i).2 (.ref (ad i)) A U H) ∧ ∀ i, i < 6 → va_T (if (mj_rs L i).1 = 111 then .char else .int) (ad i) (mj_rs L i).2 (fun j => .int (mj_rc xs i j)) A U H
theorem mj_ro.moved {L : Nat} {xs : Nat → Int32} {ad : Nat → Nat} {A : Nat → Prop} {u U : State} {H : Heap} (hvm : u.vm.Alike U.vm) (h : mj_ro L xs ad A u H) : mj_ro L xs ad A U H := ⟨fun i hi => va_Z.moved hvm (h.1 i hi), fun i hi => va_T.moved hvm (h.2 i hi)⟩
theorem mj_ro.kept {L : Nat} {xs : Nat → Int32} {ad : Nat → Nat} {A : Nat → Prop} {U : State} {H H1 : Heap} (h : mj_ro L xs ad A U H) (hq : ∀ a : Nat, a < H.size → ¬ A a → H1[a]? = H[a]?) : mj_ro L xs ad A U H1 := ⟨fun i hi => va_Z.kept (h.1 i hi) hq, fun i hi => va_T.kept (h.2 i hi) hq⟩
theorem mj_ro.narrow {L : Nat} {xs : Nat → Int32} {ad : Nat → Nat} {A B : Nat → Prop} {U : State} {H : Heap} (h : mj_ro L xs ad A U H) (hAB : ∀ q, B q → A q) : mj_ro L xs ad B U H := ⟨fun i hi => va_Z.narrow (h.1 i hi) hAB, fun i hi => va_T.narrow (h.2 i hi) hAB⟩
theorem mj_ro.ad {L : Nat} {xs : Nat → Int32} {ad ad' : Nat → Nat} {A : Nat → Prop} {U : State} {H : Heap} (h : mj_ro L xs ad A U H) (e : ∀ i, i < 6 → ad' i = ad i) : mj_ro L xs ad' A U H := ⟨fun i hi => by rw [e i (by omega)]; exact h.1 i hi, fun i hi => by rw [e i hi]; exact h.2 i hi⟩
-- well made
def mj_wf (L : Nat) (xs : Nat → Int32) (S : mj_S) : Prop := 6 ≤ S.1.length ∧ (∀ i, i < 6 → S.1[i]? = some (mj_rs L i) ∧ ∀ j, m_gi S i j = mj_rc xs i j) ∧ (∀ i, 6 ≤ i → i < S.1.length → (m_kd S i < 11 ∧ m_ln S i = mj_nf (m_kd S i)) ∨ (100 ≤ m_kd S i ∧ m_kd S i ≤ 103)) ∧ (∀ i j b, m_gp S i j = some b → b < S.1.length) ∧ (∀ i k b, m_kd S i < 100 → 2 ≤ mj_ft (m_kd S i) k → m_gp S i k = some b → m_kd S b + 2 = mj_ft (m_kd S i) k) ∧ (∀ i j b, m_kd S i = 103 → m_gp S i j = some b → m_kd S b = 100) ∧ ∀ i j, S.1.length ≤ i → m_gi S i j = 0 ∧ m_gl S i j = 0 ∧ m_gp S i j = none
def mj_ok (S : mj_S) : Value → Prop
  | .int _ => True
  | .long _ => True
  | .ref a => a < S.1.length
  | _ => False
theorem m_kd_lt {S : mj_S} {a : Nat} (h : m_kd S a ≠ 999) : a < S.1.length := by
  rcases Nat.lt_or_ge a S.1.length with q | q
  · exact q
  · exact absurd (by simp [m_kd, List.getD_eq_getElem?_getD, List.getElem?_eq_none q]) h
def mj_w0 (G : mj_G) (ad : Nat → Nat) (S : mj_S) (A : Nat → Prop) (U : State) (H : Heap) : Prop := va_P G.1 vwCl (mj_ws G.2.1 ad S) H ∧ va_D A (mj_ws G.2.1 ad S) ∧ va_K G.1 vwCl [(G.2.1 0, .int), (G.2.1 1, .boolean), (G.2.1 2, .long), (G.2.1 3, .array .int)] U ∧ mj_wf G.2.2.1 G.2.2.2 S ∧ mj_nw U
/-- the answer is as its type says -/
def mj_nr (rt : Option FieldType) (v : Option Value) : Prop := match rt, v with
  | some ty, some x => narrow ty x = x
  | _, _ => True
def mj_Qc (G : mj_G) (rt : Option FieldType) (Q : mj_S → Option Value → Prop) (ad0 : Nat → Nat) (sh0 : List (Nat × Nat)) (A : Nat → Prop) : Array Value → State → Outcome → State → Prop := fun _ st oc t =>
  (∃ (S : mj_S) (ad : Nat → Nat) (v : Option Value), oc = .returned (v.map (mj_cv ad)) ∧ Q S v ∧ mj_w0 G ad S A t t.heap ∧ sh0 <+: S.1 ∧ (∀ i, i < sh0.length → ad i = ad0 i) ∧ (∀ x, v = some x → mj_ok S x) ∧ mj_nr rt v) ∧ va_F A st t
abbrev mj_Z : Type := List Frame → Array Value → State → (Nat → Prop) → (Nat → Nat) → List (Nat × Nat) → State → Prop
/-- a method's end: it returns, and Q -/
def mj_std (G : mj_G) (rt : Option FieldType) (R : Room) (Q : mj_S → Option Value → Prop) : mj_Z := fun below args s A ad0 sh0 => MQ below (mj_Qc G rt Q ad0 sh0 A) args s R.cells R.slots A
/-- what holds at a point of a method -/
def mj_X (G : mj_G) (own : String) (cc : ByteArray) (nL : Nat) (rt : Option FieldType) (ini : Bool) (ls : List (Option Value)) (st : List Value) (S : mj_S) (p : Program) (s : State) (m : MethodId) (args : Array Value) (meth : Method) (c : Code) (H : Heap) (locs : List Loc) (A : Nat → Prop) (ad ad0 : Nat → Nat) (sh0 : List (Nat × Nat)) (rls : Array Slot) : Prop :=
  (p.tables.exec = Jvm.exec ∧ c.code = cc ∧ c.maxLocals = nL ∧ s.vm.findClass own = some m.cls ∧ ∀ w ∈ mj_T, w.before args s = true) ∧ (meth.locks = false ∧ meth.sig.returnType = rt ∧ (ini = true → meth.name = "<init>") ∧ (∀ x ∈ c.exceptionTable.toList, own = "VelvetStates" → False) ∧ (own = "VelvetStatesLaw" → nL = 5 → c.exceptionTable.toList = tableOf [(0, 10, 13, 13)])) ∧ mj_w0 G ad S A s H ∧ (va_S A s.heap H locs ∧ (∀ q, s.heap.size ≤ q → A q) ∧ mj_ro G.2.2.1 G.2.2.2 ad A s s.heap) ∧ (sh0 <+: S.1 ∧ 6 ≤ sh0.length ∧ ∀ i, i < sh0.length → ad i = ad0 i) ∧ (∀ v ∈ st, mj_ok S v) ∧ (∀ (i : Nat) (v : Value), ls[i]? = some (some v) → mj_ok S v) ∧ rls.size = nL ∧ lv_wf rls ∧ ∀ (i : Nat) (v : Value), ls[i]? = some (some v) → rls[i]? = some (Slot.val (mj_cv ad v))
def mj_V (l : Launch) (G : mj_G) (R : Room) (own : String) (cc : ByteArray) (nL : Nat) (rt : Option FieldType) (ini : Bool) (pc : Nat) (ls : List (Option Value)) (st : List Value) (S : mj_S) (k n : Nat) (Q : mj_Z) : Prop :=
  ∀ (p : Program) (e : Env) (s : State) (m : MethodId) (args : Array Value) (below : List Frame) (meth : Method) (c : Code) (H : Heap) (locs : List Loc) (A : Nat → Prop) (ad ad0 : Nat → Nat) (sh0 : List (Nat × Nat)) (rls : Array Slot), mj_X G own cc nL rt ini ls st S p s m args meth c H locs A ad ad0 sh0 rls →
    W p l e R s m args below meth c H locs k n (Q below args s A ad0 sh0) (F0 m pc rls (st.map (mj_cv ad)))
section MJ1
variable {G : mj_G} {own : String} {cc : ByteArray} {nL : Nat} {rt : Option FieldType} {ini : Bool} {ls : List (Option Value)} {st st' : List Value} {S : mj_S} {p : Program} {s : State} {m : MethodId} {args : Array Value} {meth : Method} {c : Code} {H : Heap} {locs : List Loc} {A : Nat → Prop} {ad ad0 : Nat → Nat} {sh0 : List (Nat × Nat)} {rls : Array Slot}
theorem mj_X.hx (X : mj_X G own cc nL rt ini ls st S p s m args meth c H locs A ad ad0 sh0 rls) : p.tables.exec = Jvm.exec := X.1.1
theorem mj_X.hb (X : mj_X G own cc nL rt ini ls st S p s m args meth c H locs A ad ad0 sh0 rls) : c.code = cc := X.1.2.1
theorem mj_X.hml (X : mj_X G own cc nL rt ini ls st S p s m args meth c H locs A ad ad0 sh0 rls) : c.maxLocals = nL := X.1.2.2.1
theorem mj_X.hown (X : mj_X G own cc nL rt ini ls st S p s m args meth c H locs A ad ad0 sh0 rls) : s.vm.findClass own = some m.cls := X.1.2.2.2.1
theorem mj_X.hts (X : mj_X G own cc nL rt ini ls st S p s m args meth c H locs A ad ad0 sh0 rls) : ∀ w ∈ mj_T, w.before args s = true := X.1.2.2.2.2
theorem mj_X.hP (X : mj_X G own cc nL rt ini ls st S p s m args meth c H locs A ad ad0 sh0 rls) : va_P G.1 vwCl (mj_ws G.2.1 ad S) H := X.2.2.1.1
theorem mj_X.hD (X : mj_X G own cc nL rt ini ls st S p s m args meth c H locs A ad ad0 sh0 rls) : va_D A (mj_ws G.2.1 ad S) := X.2.2.1.2.1
theorem mj_X.hK (X : mj_X G own cc nL rt ini ls st S p s m args meth c H locs A ad ad0 sh0 rls) : va_K G.1 vwCl [(G.2.1 0, .int), (G.2.1 1, .boolean), (G.2.1 2, .long), (G.2.1 3, .array .int)] s := X.2.2.1.2.2.1
theorem mj_X.hw (X : mj_X G own cc nL rt ini ls st S p s m args meth c H locs A ad ad0 sh0 rls) : mj_wf G.2.2.1 G.2.2.2 S := X.2.2.1.2.2.2.1
theorem mj_X.hN (X : mj_X G own cc nL rt ini ls st S p s m args meth c H locs A ad ad0 sh0 rls) : mj_nw s := X.2.2.1.2.2.2.2
theorem mj_X.hS (X : mj_X G own cc nL rt ini ls st S p s m args meth c H locs A ad ad0 sh0 rls) : va_S A s.heap H locs := X.2.2.2.1.1
theorem mj_X.hA (X : mj_X G own cc nL rt ini ls st S p s m args meth c H locs A ad ad0 sh0 rls) : ∀ q, s.heap.size ≤ q → A q := X.2.2.2.1.2.1
theorem mj_X.hro (X : mj_X G own cc nL rt ini ls st S p s m args meth c H locs A ad ad0 sh0 rls) : mj_ro G.2.2.1 G.2.2.2 ad A s s.heap := X.2.2.2.1.2.2
theorem mj_X.hst (X : mj_X G own cc nL rt ini ls st S p s m args meth c H locs A ad ad0 sh0 rls) : ∀ v ∈ st, mj_ok S v := X.2.2.2.2.2.1
theorem mj_X.hls (X : mj_X G own cc nL rt ini ls st S p s m args meth c H locs A ad ad0 sh0 rls) : ∀ (i : Nat) (v : Value), ls[i]? = some (some v) → mj_ok S v := X.2.2.2.2.2.2.1
theorem mj_X.hsz (X : mj_X G own cc nL rt ini ls st S p s m args meth c H locs A ad ad0 sh0 rls) : rls.size = nL := X.2.2.2.2.2.2.2.1
theorem mj_X.hlw (X : mj_X G own cc nL rt ini ls st S p s m args meth c H locs A ad ad0 sh0 rls) : lv_wf rls := X.2.2.2.2.2.2.2.2.1
theorem mj_X.hlv (X : mj_X G own cc nL rt ini ls st S p s m args meth c H locs A ad ad0 sh0 rls) : ∀ (i : Nat) (v : Value), ls[i]? = some (some v) → rls[i]? = some (Slot.val (mj_cv ad v)) := X.2.2.2.2.2.2.2.2.2
theorem mj_X.stk (X : mj_X G own cc nL rt ini ls st S p s m args meth c H locs A ad ad0 sh0 rls) (h : ∀ v ∈ st', mj_ok S v) : mj_X G own cc nL rt ini ls st' S p s m args meth c H locs A ad ad0 sh0 rls := ⟨X.1, X.2.1, X.2.2.1, X.2.2.2.1, X.2.2.2.2.1, h, X.2.2.2.2.2.2⟩
theorem mj_okc {v : Value} (h : mj_ok S v) (hs : ∀ u ∈ st, mj_ok S u) : ∀ u ∈ v :: st, mj_ok S u := by
  intro u hu
  rcases List.mem_cons.mp hu with e | e
  · rw [e]; exact h
  · exact hs u e
theorem mj_okt {v : Value} (hs : ∀ u ∈ v :: st, mj_ok S u) : ∀ u ∈ st, mj_ok S u := fun u hu => hs u (List.mem_cons_of_mem _ hu)
theorem mj_okh {v : Value} (hs : ∀ u ∈ v :: st, mj_ok S u) : mj_ok S v := hs v List.mem_cons_self
end MJ1
