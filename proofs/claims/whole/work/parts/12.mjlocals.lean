/-! locals: stores -/
def mj_al (ad : Nat → Nat) (ls : List (Option Value)) : List (Nat × Value) := (List.range ls.length).filterMap (fun i => match ls[i]? with | some (some v) => some (i, mj_cv ad v) | _ => none)
theorem mj_al_in {ad : Nat → Nat} {ls : List (Option Value)} {i : Nat} {v : Value} (h : ls[i]? = some (some v)) : (i, mj_cv ad v) ∈ mj_al ad ls := by
  refine List.mem_filterMap.mpr ⟨i, List.mem_range.mpr (List.getElem?_eq_some_iff.mp h).1, ?_⟩
  rw [h]
theorem mj_al_out {ad : Nat → Nat} {ls : List (Option Value)} {q : Nat × Value} (h : q ∈ mj_al ad ls) : ∃ v, ls[q.1]? = some (some v) ∧ q.2 = mj_cv ad v := by
  obtain ⟨i, -, hi⟩ := List.mem_filterMap.mp h
  cases e : ls[i]? with
  | none => rw [e] at hi; cases hi
  | some o =>
    cases o with
    | none => rw [e] at hi; cases hi
    | some v => rw [e] at hi; cases hi; exact ⟨v, e, rfl⟩
/-- no long in the slot ahead -/
def mj_nol (ls : List (Option Value)) (i : Nat) : Bool := i == 0 || (match ls[i - 1]? with | some (some v) => v.category == 1 | _ => true)
section MJ3
variable {l : Launch} {G : mj_G} {R : Room} {own : String} {cc : ByteArray} {nL : Nat} {rt : Option FieldType} {ini : Bool} {pc : Nat} {ls ls' : List (Option Value)} {st : List Value} {S : mj_S} {k n : Nat} {Q : mj_Z}
variable {p : Program} {s : State} {m : MethodId} {args : Array Value} {meth : Method} {c : Code} {H : Heap} {locs : List Loc} {A : Nat → Prop} {ad ad0 : Nat → Nat} {sh0 : List (Nat × Nat)} {rls rls' : Array Slot}
theorem mj_X.lh (X : mj_X G own cc nL rt ini ls st S p s m args meth c H locs A ad ad0 sh0 rls) : lv_has rls nL (mj_al ad ls) := by
  refine ⟨X.hsz, X.hlw, fun q hq => ?_⟩
  obtain ⟨v, h1, h2⟩ := mj_al_out hq
  rw [h2]
  exact X.hlv _ _ h1
theorem mj_X.loc (X : mj_X G own cc nL rt ini ls st S p s m args meth c H locs A ad ad0 sh0 rls) (h1 : ∀ (i : Nat) (v : Value), ls'[i]? = some (some v) → mj_ok S v) (h2 : rls'.size = nL) (h3 : lv_wf rls') (h4 : ∀ (i : Nat) (v : Value), ls'[i]? = some (some v) → rls'[i]? = some (Slot.val (mj_cv ad v))) : mj_X G own cc nL rt ini ls' st S p s m args meth c H locs A ad ad0 sh0 rls' := ⟨X.1, X.2.1, X.2.2.1, X.2.2.2.1, X.2.2.2.2.1, X.2.2.2.2.2.1, h1, h2, h3, h4⟩
/-- one slot -/
theorem mj_X.store {i : Nat} {v : Value} (X : mj_X G own cc nL rt ini ls st S p s m args meth c H locs A ad ad0 sh0 rls) (hv : mj_ok S v) (hn : mj_nol ls i = true) (hl : ls.set i (some v) = ls') (h : lv_has rls' nL ((i, mj_cv ad v) :: (mj_al ad ls).filter (fun q => !(q.1 == i) && !(q.1 + 1 == i && q.2.category == 2)))) : mj_X G own cc nL rt ini ls' st S p s m args meth c H locs A ad ad0 sh0 rls' := by
  subst hl
  refine X.loc (fun j w hj => ?_) h.1 h.2.1 (fun j w hj => ?_)
  · by_cases e : j = i
    · subst e
      rcases Nat.lt_or_ge j ls.length with q | q
      · rw [List.getElem?_set_self q] at hj; cases hj; exact hv
      · rw [List.getElem?_eq_none (by simpa using q)] at hj; cases hj
    · rw [List.getElem?_set_ne (fun q => e q.symm)] at hj
      exact X.hls j w hj
  · by_cases e : j = i
    · subst e
      rcases Nat.lt_or_ge j ls.length with q | q
      · rw [List.getElem?_set_self q] at hj; cases hj
        exact h.2.2 _ List.mem_cons_self
      · rw [List.getElem?_eq_none (by simpa using q)] at hj; cases hj
    · rw [List.getElem?_set_ne (fun q => e q.symm)] at hj
      refine h.2.2 (j, mj_cv ad w) (List.mem_cons_of_mem _ (List.mem_filter.mpr ⟨mj_al_in hj, ?_⟩))
      simp only [mj_cvc]
      have h1 : (j == i) = false := by simpa using e
      rw [h1]
      by_cases e2 : j + 1 = i
      · subst e2
        simp only [mj_nol] at hn
        rw [show j + 1 - 1 = j by omega, hj] at hn
        have hc : w.category = 1 := by
          simpa using hn
        simp [hc]
      · have h2 : (j + 1 == i) = false := by simpa using e2
        simp [h2]
/-- two slots -/
theorem mj_X.store2 {i : Nat} {v : Value} (X : mj_X G own cc nL rt ini ls st S p s m args meth c H locs A ad ad0 sh0 rls) (hv : mj_ok S v) (hn : mj_nol ls i = true) (hl : (ls.set i (some v)).set (i + 1) none = ls') (h : lv_has rls' nL ((i, mj_cv ad v) :: (mj_al ad ls).filter (fun q => !(q.1 == i) && (!(q.1 == i + 1) && !(q.1 + 1 == i && q.2.category == 2))))) : mj_X G own cc nL rt ini ls' st S p s m args meth c H locs A ad ad0 sh0 rls' := by
  subst hl
  have key : ∀ (j : Nat) (w : Value), ((ls.set i (some v)).set (i + 1) none)[j]? = some (some w) → (j = i ∧ w = v) ∨ (j ≠ i ∧ j ≠ i + 1 ∧ ls[j]? = some (some w)) := by
    intro j w hj
    by_cases e1 : j = i + 1
    · subst e1
      rcases Nat.lt_or_ge (i + 1) ls.length with q | q
      · rw [List.getElem?_set_self (by simpa using q)] at hj; cases hj
      · rw [List.getElem?_eq_none (by simpa using q)] at hj; cases hj
    · rw [List.getElem?_set_ne (fun q => e1 q.symm)] at hj
      by_cases e : j = i
      · subst e
        rcases Nat.lt_or_ge j ls.length with q | q
        · rw [List.getElem?_set_self q] at hj; cases hj; exact Or.inl ⟨rfl, rfl⟩
        · rw [List.getElem?_eq_none (by simpa using q)] at hj; cases hj
      · rw [List.getElem?_set_ne (fun q => e q.symm)] at hj
        exact Or.inr ⟨e, e1, hj⟩
  refine X.loc (fun j w hj => ?_) h.1 h.2.1 (fun j w hj => ?_)
  · rcases key j w hj with ⟨-, rfl⟩ | ⟨-, -, h1⟩
    · exact hv
    · exact X.hls j w h1
  · rcases key j w hj with ⟨rfl, rfl⟩ | ⟨e, e1, h1⟩
    · exact h.2.2 _ List.mem_cons_self
    · refine h.2.2 (j, mj_cv ad w) (List.mem_cons_of_mem _ (List.mem_filter.mpr ⟨mj_al_in h1, ?_⟩))
      simp only [mj_cvc]
      have h2 : (j == i) = false := by simpa using e
      have h3 : (j == i + 1) = false := by simpa using e1
      rw [h2, h3]
      by_cases e2 : j + 1 = i
      · subst e2
        simp only [mj_nol] at hn
        rw [show j + 1 - 1 = j by omega, h1] at hn
        have hc : w.category = 1 := by
          simpa using hn
        simp [hc]
      · have h4 : (j + 1 == i) = false := by simpa using e2
        simp [h4]
theorem mj_istore_n {j : Fin 4} {i : Nat} {x : Int32} (hd : decode cc pc = .ok (.istore_n j, 1)) (hi : (j : Nat) = i) (hlt : i < nL) (hn : mj_nol ls i = true) (hl : ls.set i (some (.int x)) = ls') (kk : mj_V l G R own cc nL rt ini (pc + 1) ls' st S k n Q) : mj_V l G R own cc nL rt ini pc ls (.int x :: st) S k n Q := by
  intro p e s m args below meth c H locs A ad ad0 sh0 rls X
  exact lv_istore_n X.hx X.hb hd hi X.lh hlt rfl (fun rls' h => kk p e s m args below meth c H locs A ad ad0 sh0 rls' ((X.stk (mj_okt X.hst)).store (v := .int x) trivial hn hl h))
theorem mj_istore {i : Nat} {x : Int32} (hd : decode cc pc = .ok (.istore i, 2)) (hlt : i < nL) (hn : mj_nol ls i = true) (hl : ls.set i (some (.int x)) = ls') (kk : mj_V l G R own cc nL rt ini (pc + 2) ls' st S k n Q) : mj_V l G R own cc nL rt ini pc ls (.int x :: st) S k n Q := by
  intro p e s m args below meth c H locs A ad ad0 sh0 rls X
  exact lv_istore X.hx X.hb hd X.lh hlt rfl (fun rls' h => kk p e s m args below meth c H locs A ad ad0 sh0 rls' ((X.stk (mj_okt X.hst)).store (v := .int x) trivial hn hl h))
theorem mj_astore_n {j : Fin 4} {i x : Nat} (hd : decode cc pc = .ok (.astore_n j, 1)) (hi : (j : Nat) = i) (hlt : i < nL) (hn : mj_nol ls i = true) (hl : ls.set i (some (.ref x)) = ls') (kk : mj_V l G R own cc nL rt ini (pc + 1) ls' st S k n Q) : mj_V l G R own cc nL rt ini pc ls (.ref x :: st) S k n Q := by
  intro p e s m args below meth c H locs A ad ad0 sh0 rls X
  exact lv_astore_n X.hx X.hb hd hi X.lh hlt rfl (fun rls' h => kk p e s m args below meth c H locs A ad ad0 sh0 rls' ((X.stk (mj_okt X.hst)).store (mj_okh X.hst) hn hl h))
theorem mj_astore {i x : Nat} (hd : decode cc pc = .ok (.astore i, 2)) (hlt : i < nL) (hn : mj_nol ls i = true) (hl : ls.set i (some (.ref x)) = ls') (kk : mj_V l G R own cc nL rt ini (pc + 2) ls' st S k n Q) : mj_V l G R own cc nL rt ini pc ls (.ref x :: st) S k n Q := by
  intro p e s m args below meth c H locs A ad ad0 sh0 rls X
  exact lv_astore X.hx X.hb hd X.lh hlt rfl (fun rls' h => kk p e s m args below meth c H locs A ad ad0 sh0 rls' ((X.stk (mj_okt X.hst)).store (mj_okh X.hst) hn hl h))
theorem mj_lstore_n {j : Fin 4} {i : Nat} {x : Int64} (hd : decode cc pc = .ok (.lstore_n j, 1)) (hi : (j : Nat) = i) (hlt : i + 1 < nL) (hn : mj_nol ls i = true) (hl : (ls.set i (some (.long x))).set (i + 1) none = ls') (kk : mj_V l G R own cc nL rt ini (pc + 1) ls' st S k n Q) : mj_V l G R own cc nL rt ini pc ls (.long x :: st) S k n Q := by
  intro p e s m args below meth c H locs A ad ad0 sh0 rls X
  exact lv_lstore_n X.hx X.hb hd hi X.lh hlt rfl (fun rls' h => kk p e s m args below meth c H locs A ad ad0 sh0 rls' ((X.stk (mj_okt X.hst)).store2 (v := .long x) trivial hn hl h))
theorem mj_lstore {i : Nat} {x : Int64} (hd : decode cc pc = .ok (.lstore i, 2)) (hlt : i + 1 < nL) (hn : mj_nol ls i = true) (hl : (ls.set i (some (.long x))).set (i + 1) none = ls') (kk : mj_V l G R own cc nL rt ini (pc + 2) ls' st S k n Q) : mj_V l G R own cc nL rt ini pc ls (.long x :: st) S k n Q := by
  intro p e s m args below meth c H locs A ad ad0 sh0 rls X
  exact lv_lstore X.hx X.hb hd X.lh hlt rfl (fun rls' h => kk p e s m args below meth c H locs A ad ad0 sh0 rls' ((X.stk (mj_okt X.hst)).store2 (v := .long x) trivial hn hl h))
theorem mj_iinc {i : Nat} {z : Int} {x v : Int32} (hd : decode cc pc = .ok (.iinc i z, 3)) (hx0 : ls[i]? = some (some (.int x))) (hv : x + Int32.ofInt z = v) (hlt : i < nL) (hn : mj_nol ls i = true) (hl : ls.set i (some (.int v)) = ls') (kk : mj_V l G R own cc nL rt ini (pc + 3) ls' st S k n Q) : mj_V l G R own cc nL rt ini pc ls st S k n Q := by
  intro p e s m args below meth c H locs A ad ad0 sh0 rls X
  obtain ⟨q, hq⟩ := List.getElem?_of_mem (mj_al_in (ad := ad) hx0)
  exact lv_iinc X.hx X.hb hd X.lh hq hv hlt rfl (fun rls' h => kk p e s m args below meth c H locs A ad ad0 sh0 rls' (X.store (v := .int v) trivial hn hl h))
/-- fewer locals -/
theorem mj_less (hl : ∀ (i : Nat) (v : Value), ls'[i]? = some (some v) → ls[i]? = some (some v)) (kk : mj_V l G R own cc nL rt ini pc ls' st S k n Q) : mj_V l G R own cc nL rt ini pc ls st S k n Q := by
  intro p e s m args below meth c H locs A ad ad0 sh0 rls X
  exact kk p e s m args below meth c H locs A ad ad0 sh0 rls (X.loc (fun i v h => X.hls i v (hl i v h)) X.hsz X.hlw (fun i v h => X.hlv i v (hl i v h)))
/-- switches -/
theorem mj_look {dflt : Int} {ps : Array (Int × Int)} {len : Nat} {x : Int32} {off : Int} {tgt : Nat} (hd : decode cc pc = .ok (.lookupswitch dflt ps, len)) (hp : (ps.toList.zip (ps.toList.drop 1)).all (fun (a, next) => a.1 < next.1) = true) (ho : Op.lookupswitch.offset ps.toList dflt x.toInt = off) (ht : (pc : Int) + off = (tgt : Int)) (kk : mj_V l G R own cc nL rt ini tgt ls st S k n Q) : mj_V l G R own cc nL rt ini pc ls (.int x :: st) S k n Q := by
  intro p e s m args below meth c H locs A ad ad0 sh0 rls X
  exact lv_lookup X.hx X.hb hd hp ho ht (kk p e s m args below meth c H locs A ad ad0 sh0 rls (X.stk (mj_okt X.hst)))
theorem mj_tabOut {dflt lo hi : Int} {offs : Array Int} {len : Nat} {x : Int32} {tgt : Nat} (hd : decode cc pc = .ok (.tableswitch dflt lo hi offs, len)) (h : x.toInt < lo ∨ hi < x.toInt) (ht : (pc : Int) + dflt = (tgt : Int)) (kk : mj_V l G R own cc nL rt ini tgt ls st S k n Q) : mj_V l G R own cc nL rt ini pc ls (.int x :: st) S k n Q := by
  intro p e s m args below meth c H locs A ad ad0 sh0 rls X
  exact lv_tableOut X.hx X.hb hd h ht (kk p e s m args below meth c H locs A ad ad0 sh0 rls (X.stk (mj_okt X.hst)))
theorem mj_tabIn {dflt lo hi : Int} {offs : Array Int} {len : Nat} {x : Int32} {off : Int} {tgt : Nat} (hd : decode cc pc = .ok (.tableswitch dflt lo hi offs, len)) (h1 : ¬ x.toInt < lo) (h2 : ¬ hi < x.toInt) (ho : offs[(x.toInt - lo).toNat]? = some off) (ht : (pc : Int) + off = (tgt : Int)) (kk : mj_V l G R own cc nL rt ini tgt ls st S k n Q) : mj_V l G R own cc nL rt ini pc ls (.int x :: st) S k n Q := by
  intro p e s m args below meth c H locs A ad ad0 sh0 rls X
  exact lv_tableIn X.hx X.hb hd h1 h2 ho ht (kk p e s m args below meth c H locs A ad ad0 sh0 rls (X.stk (mj_okt X.hst)))
end MJ3
