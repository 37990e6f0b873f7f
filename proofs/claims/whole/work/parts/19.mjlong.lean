/-! answers of 64 bits -/
def mj_ql (Q : mj_S → Int64 → Prop) : mj_S → Option Value → Prop := fun S v => ∃ r, v = some (.long r) ∧ Q S r
section MJ12
variable {l : Launch} {G : mj_G} {R : Room} {own : String} {cc : ByteArray} {nL : Nat} {rt : Option FieldType} {ini : Bool} {pc : Nat} {ls : List (Option Value)} {st : List Value} {S : mj_S} {k n : Nat} {Q : mj_Z} {Ql : mj_S → Int64 → Prop}
variable {index d2 mc ms nL2 np d K N : Nat} {y : MethodName} {b : ByteArray} {rt2 : Option FieldType} {as : List Value}
theorem mj_retl {x : Int64} (hd : decode cc pc = .ok (.lreturn, 1)) (hr : rt = some .long) (hk : k ≤ R.cells ∧ n ≤ R.slots) (hQ : Ql S x) : mj_V l G R own cc nL rt ini pc ls [.long x] S k n (mj_std G rt R (mj_ql Ql)) := by
  intro p e s m args below meth c H locs A ad ad0 sh0 rls X
  exact W.widen hk.1 hk.2 (W.lret X.hx X.hb (X.2.1.2.1.trans hr) (X.qc (v := some (.long x)) ⟨x, rfl, hQ⟩ (fun y h => by cases h; exact trivial) (by rw [hr]; rfl) _) (fun q hq => X.hS.2.2 q hq) hd X.2.1.1)
theorem mj_callSl (hd : decode cc pc = .ok (.invokestatic index, 3)) (hc : mj_cal y b nL2 rt2 np) (hl : Cond.methodLink own index y ∈ mj_T) (hs : Cond.static y ∈ mj_T) (hM : mj_M l G y b nL2 rt2 d2 mc ms as S (mj_ql Ql)) (hnp : as.length = np) (hst : (st.map fun v => v.category).sum ≤ 8) (hdd : d2 + 1 ≤ d) (hck : k + mc ≤ K ∧ n + ms ≤ N)
    (kk : ∀ (S' : mj_S) (r : Int64), Ql S' r → True → S.1 <+: S'.1 → mj_V l G (mj_room d K N) own cc nL rt ini (pc + 3) ls (.long r :: st) S' (k + mc) (n + ms) Q) : mj_V l G (mj_room d K N) own cc nL rt ini pc ls (as.reverse ++ st) S k n Q := by
  refine mj_callS hd hc hl hs hM hnp hst hdd hck ?_
  rintro S' v ⟨r, rfl, h⟩ h2 h3
  exact kk S' r h trivial h3
end MJ12
/-! members of the JDK that the machine has no entry for -/
theorem mj_enterF {l : Launch} {G : mj_G} {y : MethodName} {b : ByteArray} {nL r : Nat} {rt : Option FieldType} {d mc ms : Nat} {as : List Value} {S : mj_S} {Q : mj_S → Option Value → Prop} {ini : Bool} {ls : List (Option Value)} (hy : plainFor y = true) (hini : ini = true → y.name = "<init>") (hlen : ∀ ad, (lg_sl (as.map (mj_cv ad))).length ≤ nL) (hls : ls = mj_ent as ++ List.replicate r none)
    (kk : mj_V l G (mj_room d mc ms) y.cls b nL rt ini 0 ls [] S 0 0 (mj_std G rt (mj_room d mc ms) Q)) (hnl : y.cls ≠ "VelvetStatesLaw" := by decide +kernel) : mj_M l G y b nL rt d mc ms as S Q := by
  intro hok ad sz
  refine va_MetF (cc := b) (maxL := nL) (ret := rt) hy rfl ?_
  intro p e s m args below meth c s₁ B hml hv
  obtain ⟨rfl, hsz, hw0, hro⟩ := hv
  subst hsz
  have hts := atoms_spec (ws := Cond.code y b nL rt :: mj_T) B.pre
  have hown : s.vm.findClass y.cls = some m.cls := findClass_of_methodNamed B.named
  have hnm : meth.name = y.name := (name_of_methodNamed B.named B.method).1
  have hxt : ∀ x ∈ c.exceptionTable.toList, y.cls = "VelvetStates" → False := by
    obtain ⟨meth9, c9, h1, h2, -, -, -, -, h7, -⟩ := Cond.code_spec B.named (hts _ List.mem_cons_self)
    cases Option.some.inj (h1.symm.trans B.method)
    cases Option.some.inj (h2.symm.trans (Stand.of_body B).code)
    intro x hx
    rw [Array.isEmpty_iff.mp h7] at hx
    cases hx
  have hl := lv_entry (as.map (mj_cv ad)) (hlen ad)
  rw [lg_entry_eq]
  generalize (lg_sl (as.map (mj_cv ad)) ++ List.replicate (nL - (lg_sl (as.map (mj_cv ad))).length) Slot.unset).toArray = rls at hl ⊢
  have hin : ∀ (i : Nat) (v : Value), ls[i]? = some (some v) → (i, v) ∈ lv_args 0 as := by
    intro i v h
    rw [hls] at h
    have h2 : (mj_ent as)[i]? = some (some v) := by
      rcases Nat.lt_or_ge i (mj_ent as).length with q | q
      · rw [List.getElem?_append_left q] at h; exact h
      · rw [List.getElem?_append_right q] at h
        rcases Nat.lt_or_ge (i - (mj_ent as).length) r with q2 | q2
        · rw [List.getElem?_replicate, if_pos q2] at h; cases h
        · rw [List.getElem?_replicate, if_neg (by omega)] at h; cases h
    have := mj_ent_in as 0 i v h2
    rwa [Nat.zero_add] at this
  have hmem : ∀ (as : List Value) (i0 : Nat) (q : Nat × Value), q ∈ lv_args i0 as → q.2 ∈ as := by
    intro as
    induction as with
    | nil => intro i0 q h; cases h
    | cons w ws ih =>
      intro i0 q h
      unfold lv_args at h
      rcases List.mem_cons.mp h with e | e
      · rw [e]; exact List.mem_cons_self
      · exact List.mem_cons_of_mem _ (ih _ q e)
  refine kk p e s m _ below meth c s.heap [] (va_A (mj_ws G.2.1 ad S) s.heap.size) ad ad S.1 rls ⟨⟨B.exec, B.bytes, hml, hown, fun w hw => hts w (List.mem_cons_of_mem _ hw)⟩, ⟨B.notSynchronized, B.returns, fun h => hnm.trans (hini h), hxt, fun h => absurd h hnl⟩, hw0, ⟨va_S.rf, fun q h => Or.inr h, hro⟩, ⟨List.prefix_rfl, hw0.2.2.2.1.1, fun _ _ => rfl⟩, fun v hv => (by cases hv), fun i v h => hok v (hmem as 0 _ (hin i v h)), hl.1, hl.2.1, fun i v h => ?_⟩
  refine hl.2.2 (i, mj_cv ad v) ?_
  rw [mj_args_map]
  exact List.mem_map.mpr ⟨(i, v), hin i v h, rfl⟩
