/-! a method that may throw, and where it is caught -/
def mj_isC : Cond → Bool
  | .castable .. => true
  | _ => false
def mj_isD : Cond → Bool
  | .declares .. => true
  | _ => false
def mj_NSE : String := "java/util/NoSuchElementException"
def mj_xw : List Cond := vx_at0 RX10 210 mj_NSE ["java/lang/RuntimeException", "java/lang/Exception"]
def mj_xn : List Cond := mj_xw.filter (fun w => !goodWord w)
theorem mj_xn_ok : mj_xn.all (fun w => mj_isC w || mj_isD w) = true := by decide +kernel
theorem mj_xw_T : ∀ w ∈ mj_xw.filter goodWord, w ∈ mj_T := by decide +kernel
theorem mj_xw_ot : ∀ w ∈ Cond.classLink RX10 208 mj_NSE :: Cond.initialized mj_NSE :: mj_xw, vx_ot w = true := by decide +kernel
theorem mj_xw_k : Cond.classLink RX10 208 mj_NSE ∈ mj_T := mj_in 1198 (by decide +kernel) (by decide +kernel)
theorem mj_xw_i : Cond.initialized mj_NSE ∈ mj_T := mj_in 143 (by decide +kernel) (by decide +kernel)
def mj_xf (A : Nat → Prop) (U : State) (H : Heap) : Prop := vx_Zq Bundle.tN "UNASSIGNED_STACK" Bundle.steD A U H ∧ vx_Zq Bundle.tN "SUPPRESSED_SENTINEL" Bundle.listD A U H ∧ ∀ w ∈ mj_xn, va_Nw w U
theorem mj_xn_warm {s U : State} (hW : s.WarmedH U.vm) (h : ∀ w ∈ mj_xn, va_Nw w s) : ∀ w ∈ mj_xn, va_Nw w U := by
  intro w hw
  have h1 := h w hw
  have h2 := List.all_eq_true.mp mj_xn_ok w hw
  cases w <;> first | exact va_Nw.warmC hW h1 | exact va_Nw.warmD hW h1 | exact absurd h2 (by simp [mj_isC, mj_isD])
theorem mj_xn_same {u U : State} (hv : u.vm = U.vm) (h : ∀ w ∈ mj_xn, va_Nw w u) : ∀ w ∈ mj_xn, va_Nw w U := by
  intro w hw
  have h1 := h w hw
  have h2 := List.all_eq_true.mp mj_xn_ok w hw
  cases w <;> first | exact va_Nw.same rfl hv h1 | exact absurd h2 (by simp [mj_isC, mj_isD])
theorem mj_xf.go {A B : Nat → Prop} {s U : State} {H : Heap} {locs : List Loc} (h : mj_xf A s s.heap) (hS : va_S A s.heap H locs) (hB : ∀ q, B q → A q) (hW : s.WarmedH U.vm) (hU : U.heap = H) : mj_xf B U U.heap := by
  rw [hU]
  exact ⟨((h.1.kept (fun a h1 h2 => hS.2.1 a h1 h2)).narrow hB).moved hW.alike, ((h.2.1.kept (fun a h1 h2 => hS.2.1 a h1 h2)).narrow hB).moved hW.alike, mj_xn_warm hW h.2.2⟩
def mj_XC (G : mj_G) (QX : mj_S → Prop) (ad0 : Nat → Nat) (sh0 : List (Nat × Nat)) (A : Nat → Prop) : String → State → State → Prop := fun E st t => E = mj_NSE ∧ (∃ (S : mj_S) (ad : Nat → Nat), QX S ∧ (va_P G.1 vwCl (mj_ws G.2.1 ad S) t.heap ∧ va_D A (mj_ws G.2.1 ad S) ∧ mj_wf G.2.2.1 G.2.2.2 S) ∧ sh0 <+: S.1 ∧ ∀ i, i < sh0.length → ad i = ad0 i) ∧ va_F A st t
def mj_stx (G : mj_G) (rt : Option FieldType) (R : Room) (Q : mj_S → Option Value → Prop) (QX : mj_S → Prop) : mj_Z := fun below args s A ad0 sh0 t => mj_xf A s s.heap → vx_MQ below (mj_Qc G rt Q ad0 sh0 A) (mj_XC G QX ad0 sh0 A) args s R.cells R.slots A t
def mj_PcX (G : mj_G) (as : List Value) (S : mj_S) (ad : Nat → Nat) (sz : Nat) : Array Value → State → Prop := fun a U => mj_Pc G as S ad sz a U ∧ mj_xf (va_A (mj_ws G.2.1 ad S) sz) U U.heap
def mj_MX (l : Launch) (G : mj_G) (y : MethodName) (b : ByteArray) (nL : Nat) (rt : Option FieldType) (d mc ms : Nat) (as : List Value) (S : mj_S) (Q : mj_S → Option Value → Prop) (QX : mj_S → Prop) : Prop :=
  (∀ v ∈ as, mj_ok S v) → ∀ (ad : Nat → Nat) (sz : Nat), vx_Met l y (Cond.code y b nL rt :: mj_T) (mj_room d mc ms) (mj_PcX G as S ad sz) (mj_Qc G rt Q ad S.1 (va_A (mj_ws G.2.1 ad S) sz)) (mj_XC G QX ad S.1 (va_A (mj_ws G.2.1 ad S) sz)) mc ms (va_A (mj_ws G.2.1 ad S) sz)
section MJ16
variable {l : Launch} {G : mj_G} {own : String} {cc : ByteArray} {nL : Nat} {rt : Option FieldType} {ini : Bool} {pc : Nat} {ls : List (Option Value)} {st : List Value} {S : mj_S} {k n : Nat} {Q : mj_S → Option Value → Prop} {QX : mj_S → Prop} {R : Room}
theorem mj_tox (kk : mj_V l G R own cc nL rt ini pc ls st S k n (mj_std G rt R Q)) : mj_V l G R own cc nL rt ini pc ls st S k n (mj_stx G rt R Q QX) := by
  intro p e s m args below meth c H locs A ad ad0 sh0 rls X
  exact mj_mono (fun t h _ => h) (vx_ret (XC := mj_XC G QX ad0 sh0 A) (kk p e s m args below meth c H locs A ad ad0 sh0 rls X))
theorem mj_throw {d : Nat} (hl : l.stackTraces = false) (d0 : decode cc pc = .ok (.new 208, 3)) (d3 : decode cc (pc + 3) = .ok (.dup, 1)) (d4 : decode cc (pc + 4) = .ok (.invokespecial 210, 3)) (d7 : decode cc (pc + 7) = .ok (.athrow, 1)) (hdd : 8 ≤ d) (hst : (st.map fun v => v.category).sum ≤ 8) (hk : k + 1 ≤ 1) (hn : n + 6 ≤ 6) (hQ : QX S) : mj_V l G (mj_room d 1 6) RX10 cc nL rt ini pc ls st S k n (mj_stx G rt (mj_room d 1 6) Q QX) := by
  intro p e s m args below meth c H locs A ad ad0 sh0 rls X
  by_cases hxf : mj_xf A s s.heap
  · refine mj_mono (fun t h _ => h) (vx_throw0 (A := A) (names := ["java/lang/RuntimeException", "java/lang/Exception"]) (mc := 1) (ms := 6) X.hx X.hb hl X.hown (by decide +kernel) (by decide +kernel) (X.hts _ mj_xw_k) (X.hts _ mj_xw_i) (vx_hat (L := mj_xw) (B := mj_xn) (fun w hw => X.hts w (mj_xw_T w hw)) (fun w hw => hw) (fun w hw => va_Nw.use (by
        have h2 := List.all_eq_true.mp mj_xn_ok w hw
        cases w <;> first | rfl | exact absurd h2 (by simp [mj_isC, mj_isD])) (hxf.2.2 w hw))) mj_xw_ot hxf.1 hxf.2.1 X.hS (X.hsz.trans X.hml.symm) d0 d3 d4 d7 (fun x hx => (X.2.1.2.2.2.1 x hx rfl).elim) ?_ ?_ hk hn X.2.1.1 ?_ (fun q hq => X.hS.2.2 q hq) hk hn)
    · show 2 + 3 < d
      omega
    · show _ ≤ 64 * d
      rw [List.map_map, show ((fun v : Value => v.category) ∘ mj_cv ad) = (fun v : Value => v.category) from funext fun v => mj_cvc ad v]
      simp only [List.length_cons, List.length_nil]
      omega
    · intro t hal hsz hkeep
      refine ⟨rfl, ⟨S, ad, hQ, ⟨X.hP.kept (fun j q hq => hkeep q.1 ((X.hP j q hq).lt)), X.hD, X.hw⟩, X.2.2.2.2.1.1, X.2.2.2.2.1.2.2⟩, Nat.le_trans X.hS.1 hsz, fun q h1 h2 => ?_⟩
      rw [hkeep q (Nat.lt_of_lt_of_le h1 X.hS.1)]
      exact X.hS.2.1 q h1 h2
  · exact mj_vac (fun t q => absurd q hxf)
end MJ16
theorem mj_enterX {l : Launch} {G : mj_G} {y : MethodName} {b : ByteArray} {nL r : Nat} {rt : Option FieldType} {d mc ms : Nat} {as : List Value} {S : mj_S} {Q : mj_S → Option Value → Prop} {QX : mj_S → Prop} {ini : Bool} {ls : List (Option Value)} (hy : plainName y.cls = true) (hini : ini = true → y.name = "<init>") (hlen : ∀ ad, (lg_sl (as.map (mj_cv ad))).length ≤ nL) (hls : ls = mj_ent as ++ List.replicate r none)
    (kk : mj_V l G (mj_room d mc ms) y.cls b nL rt ini 0 ls [] S 0 0 (mj_stx G rt (mj_room d mc ms) Q QX)) (hnl : y.cls ≠ "VelvetStatesLaw" := by decide +kernel) : mj_MX l G y b nL rt d mc ms as S Q QX := by
  intro hok ad sz
  refine vx_ofW (cc := b) (maxL := nL) (ret := rt) hy rfl ?_
  intro p e s m args below meth c s₁ B hml _ hv
  obtain ⟨⟨rfl, hsz, hw0, hro⟩, hxf⟩ := hv
  subst hsz
  have hts := atoms_spec (ws := Cond.code y b nL rt :: mj_T) B.pre
  have hown : s.vm.findClass y.cls = some m.cls := findClass_of_methodNamed B.named
  have hnm : meth.name = y.name := (name_of_methodNamed B.named B.method).1
  have hxt : ∀ x ∈ c.exceptionTable.toList, y.cls = "VelvetStates" → False := by
    obtain ⟨meth9, c9, h1, h2, -, -, -, -, h7, -⟩ := Cond.code_spec B.named (hts _ List.mem_cons_self)
    cases Option.some.inj (h1.symm.trans B.method)
    cases Option.some.inj (h2.symm.trans (Stand.of_body B).code)
    intro x hx
    rw [Array.isEmpty_iff.mp h7] at hx
    cases hx
  have hl := lv_entry (as.map (mj_cv ad)) (hlen ad)
  rw [lg_entry_eq]
  generalize (lg_sl (as.map (mj_cv ad)) ++ List.replicate (nL - (lg_sl (as.map (mj_cv ad))).length) Slot.unset).toArray = rls at hl ⊢
  have hin : ∀ (i : Nat) (v : Value), ls[i]? = some (some v) → (i, v) ∈ lv_args 0 as := by
    intro i v h
    rw [hls] at h
    have h2 : (mj_ent as)[i]? = some (some v) := by
      rcases Nat.lt_or_ge i (mj_ent as).length with q | q
      · rw [List.getElem?_append_left q] at h; exact h
      · rw [List.getElem?_append_right q] at h
        rcases Nat.lt_or_ge (i - (mj_ent as).length) r with q2 | q2
        · rw [List.getElem?_replicate, if_pos q2] at h; cases h
        · rw [List.getElem?_replicate, if_neg (by omega)] at h; cases h
    have := mj_ent_in as 0 i v h2
    rwa [Nat.zero_add] at this
  have hmem : ∀ (as : List Value) (i0 : Nat) (q : Nat × Value), q ∈ lv_args i0 as → q.2 ∈ as := by
    intro as
    induction as with
    | nil => intro i0 q h; cases h
    | cons w ws ih =>
      intro i0 q h
      unfold lv_args at h
      rcases List.mem_cons.mp h with e | e
      · rw [e]; exact List.mem_cons_self
      · exact List.mem_cons_of_mem _ (ih _ q e)
  refine mj_mono (fun t h => h hxf) (kk p e s m _ below meth c s.heap [] (va_A (mj_ws G.2.1 ad S) s.heap.size) ad ad S.1 rls ⟨⟨B.exec, B.bytes, hml, hown, fun w hw => hts w (List.mem_cons_of_mem _ hw)⟩, ⟨B.notSynchronized, B.returns, fun h => hnm.trans (hini h), hxt, fun h => absurd h hnl⟩, hw0, ⟨va_S.rf, fun q h => Or.inr h, hro⟩, ⟨List.prefix_rfl, hw0.2.2.2.1.1, fun _ _ => rfl⟩, fun v hv => (by cases hv), fun i v h => hok v (hmem as 0 _ (hin i v h)), hl.1, hl.2.1, fun i v h => ?_⟩)
  refine hl.2.2 (i, mj_cv ad v) ?_
  rw [mj_args_map]
  exact List.mem_map.mpr ⟨(i, v), hin i v h, rfl⟩
