/-! answers of 64 bits -/
def mj_ql (Q : mj_S → Int64 → Prop) : mj_S → Option Value → Prop := fun S v => ∃ r, v = some (.long r) ∧ Q S r
section MJ12
variable {l : Launch} {G : mj_G} {R : Room} {own : String} {cc : ByteArray} {nL : Nat} {rt : Option FieldType} {ini : Bool} {pc : Nat} {ls : List (Option Value)} {st : List Value} {S : mj_S} {k n : Nat} {Q : mj_S → Option Value → Prop} {Ql : mj_S → Int64 → Prop}
variable {index d2 mc ms nL2 np d K N : Nat} {y : MethodName} {b : ByteArray} {rt2 : Option FieldType} {as : List Value}
theorem mj_retl {x : Int64} (hd : decode cc pc = .ok (.lreturn, 1)) (hr : rt = some .long) (hk : k ≤ R.cells ∧ n ≤ R.slots) (hQ : Ql S x) : mj_V l G R own cc nL rt ini pc ls [.long x] S k n (mj_ql Ql) := by
  intro p e s m args below meth c H locs A ad ad0 sh0 rls X
  exact W.widen hk.1 hk.2 (W.lret X.hx X.hb (X.2.1.2.1.trans hr) (X.qc (v := some (.long x)) ⟨x, rfl, hQ⟩ (fun y h => by cases h; exact trivial) (by rw [hr]; rfl) _) (fun q hq => X.hS.2.2 q hq) hd X.2.1.1)
theorem mj_callSl (hd : decode cc pc = .ok (.invokestatic index, 3)) (hc : mj_cal y b nL2 rt2 np) (hl : Cond.methodLink own index y ∈ mj_T) (hs : Cond.static y ∈ mj_T) (hM : mj_M l G y b nL2 rt2 d2 mc ms as S (mj_ql Ql)) (hnp : as.length = np) (hst : (st.map fun v => v.category).sum ≤ 8) (hdd : d2 + 1 ≤ d) (hck : k + mc ≤ K ∧ n + ms ≤ N)
    (kk : ∀ (S' : mj_S) (r : Int64), Ql S' r → True → S.1 <+: S'.1 → mj_V l G (mj_room d K N) own cc nL rt ini (pc + 3) ls (.long r :: st) S' (k + mc) (n + ms) Q) : mj_V l G (mj_room d K N) own cc nL rt ini pc ls (as.reverse ++ st) S k n Q := by
  refine mj_callS hd hc hl hs hM hnp hst hdd hck ?_
  rintro S' v ⟨r, rfl, h⟩ h2 h3
  exact kk S' r h trivial h3
end MJ12
