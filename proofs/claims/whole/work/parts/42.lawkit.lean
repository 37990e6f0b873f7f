/-! THE CLAIM OUT OF ONE WALK OF THE LAW'S BODY. Your part is whole_start (and what it stands on); all else here is the same for every law, but numbers. -/
def R_law : String := "VelvetStatesLaw"
def lw_P (b : Addr) (xs : List Int32) (args : Array Value) (s : State) : Prop := args = #[.ref b] ∧ s.IntsAt b xs ∧ xs.length ≤ 3072 ∧ (Jvm.Cond.and given_1 narrow_1).before args s = true
def lw_Q (_ : Array Value) (s : State) (o : Outcome) (t : State) : Prop := o = .returned (some (.int 1)) ∧ Framed s o t [] 601024 7293033
def lw_Z (below : List Frame) (a : Array Value) (s : State) : State → Prop := fun t => ∃ o, t.status = .running ∧ Ended t below o ∧ lw_Q a s o t
/-- the law's own end, with 1 on the stack, nothing written that was there before, its room as the claim has it -/
theorem lw_ret {p : Program} {l : Launch} {e : Env} {s : State} {m : MethodId} {below : List Frame} {meth : Method} {c : Code} {b : Nat} (hx : p.tables.exec = Jvm.exec) (hb : c.code = code) (hr : meth.sig.returnType = ret) (hlocks : meth.locks = false) {pc : Nat} {H : Heap} {ls : Array Slot} (hdg : decode code pc = .ok (.ireturn, 1)) : W p l e room_1 s m #[Value.ref b] below meth c H [] 601024 7293033 (lw_Z below #[Value.ref b] s) (F0 m pc ls [.int 1]) := by
  intro T hT X
  obtain ⟨fs, hret, hrun, hended, hW, hframe⟩ := X.leave (v := some (.int 1)) (hlocks := hlocks) (fun h => by rw [hr] at h; cases h)
  have hmeth' : T.vm.method? m = some meth := X.method'
  refine ⟨T.setFrames fs, ?_, .returned (some (.int 1)), hrun, hended, rfl, ⟨_, rfl⟩, hW, hframe⟩
  jvm_step X.here [X.here.top, hx, hb, hdg, hmeth', hr, ret, narrow_b1]
  (try refine ⟨rfl, ?_⟩); (try refine ⟨rfl, ?_⟩)
  first | (intro acts; rw [hret _ acts rfl rfl rfl]) | rw [hret _ _ rfl rfl rfl]
  exact Steps.refl _
/-- what holds at the law's entry: the machine, the code, the tables' words (any of lw_tbl by 'hts w (by decide +kernel)'), the script of L ints xs at the cell b, what the Statement gives of the start (any of its parts by flat_of_before) -/
def lw_At (p : Program) (s : State) (m : MethodId) (meth : Method) (c : Code) (b L : Nat) (xs : Nat → Int32) : Prop :=
  p.tables.exec = Jvm.exec ∧ c.code = code ∧ meth.sig.returnType = ret ∧ c.maxLocals = 7 ∧ s.vm.findClass R_law = some m.cls ∧ (∀ w ∈ lw_tbl, w.before #[Value.ref b] s = true) ∧ va_X b L xs s s.heap ∧ b < s.heap.size ∧ meth.locks = false ∧ (Jvm.Cond.and given_1 narrow_1).before #[Value.ref b] s = true

/-! the law's own judgement -/
theorem mj_hasRoom {s : State} {pl : Platform} {R R' : Room} (h : s.hasRoom pl R = true) (h1 : R'.frames ≤ R.frames) (h2 : R'.locals ≤ R.locals) (h3 : R'.cells ≤ R.cells) (h4 : R'.slots ≤ R.slots) : s.hasRoom pl R' = true := by
  simp only [State.hasRoom, Bool.and_eq_true, decide_eq_true_eq] at h ⊢
  obtain ⟨⟨⟨⟨a1, a2, a3, a4, a5, a6⟩, a7⟩, a8⟩, a9⟩ := h
  exact ⟨⟨⟨⟨by omega, by omega, by omega, by omega, by omega, a6⟩, by omega⟩, by omega⟩, a9⟩
section MJ14
variable {p : Program} {l : Launch} {e : Env} {R R' : Room} {s : State} {m : MethodId} {args : Array Value} {below : List Frame} {meth : Method} {c : Code} {H : Heap} {locs : List Loc} {cells slots : Nat} {Qz Qy : State → Prop} {g : JFrame}
theorem mj_shrink (h1 : R'.frames ≤ R.frames) (h2 : R'.locals ≤ R.locals) (h3 : R'.cells ≤ R.cells) (h4 : R'.slots ≤ R.slots) (k : W p l e R' s m args below meth c H locs cells slots Qz g) : W p l e R s m args below meth c H locs cells slots Qz g := fun T hT X => k T hT { X with room := mj_hasRoom X.room h1 h2 h3 h4 }
theorem mj_mono (h : ∀ t, Qz t → Qy t) (k : W p l e R s m args below meth c H locs cells slots Qz g) : W p l e R s m args below meth c H locs cells slots Qy g := fun T hT X => by
  obtain ⟨t, a1, b1⟩ := k T hT X
  exact ⟨t, a1, h t b1⟩
theorem mj_vac (h : ∀ t, Qz t) : W p l e R s m args below meth c H locs cells slots Qz g := fun T _ _ => ⟨T.setTop g, Steps.refl _, h _⟩
end MJ14
/-- the law's end: it answers 1, and wrote nothing that was there -/
def mj_lz : mj_Z := fun below args s A _ _ t => (∀ q, A q → s.heap.size ≤ q) → lw_Z below args s t
section MJ15
variable {l : Launch} {G : mj_G} {R : Room} {own : String} {nL : Nat} {ini : Bool} {pc : Nat} {ls : List (Option Value)} {st : List Value} {S : mj_S} {k n : Nat} {cc : ByteArray} {rt : Option FieldType} {Q : mj_Z}
theorem mj_wid {k2 n2 : Nat} (h1 : k ≤ k2) (h2 : n ≤ n2) (kk : mj_V l G R own cc nL rt ini pc ls st S k2 n2 Q) : mj_V l G R own cc nL rt ini pc ls st S k n Q := by
  intro p e s m args below meth c H locs A ad ad0 sh0 rls X
  exact W.widen h1 h2 (kk p e s m args below meth c H locs A ad ad0 sh0 rls X)
theorem mj_lret {x : Int32} (hd : decode code pc = .ok (.ireturn, 1)) (h : x = 1) (hk : k ≤ 601024) (hn : n ≤ 7293033) : mj_V l G R own code nL (some .boolean) ini pc ls [.int x] S k n mj_lz := by
  subst h
  intro p e s m args below meth c H locs A ad ad0 sh0 rls X
  by_cases hA : ∀ q, A q → s.heap.size ≤ q
  · refine mj_mono (Qz := lw_Z below args s) (fun t h _ => h) (W.widen hk hn (va_forget (fun q hq => hA _ (X.hS.2.2 q hq)) ?_))
    intro T hT XX
    obtain ⟨fs, hret, hrun, hended, hW, hframe⟩ := XX.leave (v := some (.int 1)) (hlocks := X.2.1.1) (fun h => by rw [X.2.1.2.1] at h; cases h)
    have hmeth' : T.vm.method? m = some meth := XX.method'
    have hx := X.hx
    have hb := X.hb
    have hr := X.2.1.2.1
    refine ⟨T.setFrames fs, ?_, .returned (some (.int 1)), hrun, hended, rfl, ⟨_, rfl⟩, hW, hframe⟩
    show Steps p.tables e below (T.setTop (F0 m pc rls [.int 1])) _
    jvm_step XX.here [XX.here.top, hx, hb, hd, hmeth', hr, narrow_b1]
    (try refine ⟨rfl, ?_⟩); (try refine ⟨rfl, ?_⟩)
    first | (intro acts; rw [hret _ acts rfl rfl rfl]) | rw [hret _ _ rfl rfl rfl]
    exact Steps.refl _
  · exact mj_vac (fun t q => absurd q hA)
end MJ15
