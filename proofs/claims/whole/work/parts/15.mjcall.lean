/-! contracts: entry, end, calls -/
def mj_room (d mc ms : Nat) : Room := { frames := d, cells := mc, slots := ms, locals := 64 * d }
def mj_Pc (G : mj_G) (as : List Value) (S : mj_S) (ad : Nat → Nat) (sz : Nat) : Array Value → State → Prop := va_Pc (as.map (mj_cv ad)) (fun U => U.heap.size = sz ∧ mj_w0 G ad S (va_A (mj_ws G.2.1 ad S) sz) U U.heap ∧ mj_ro G.2.2.1 G.2.2.2 ad (va_A (mj_ws G.2.1 ad S) sz) U U.heap)
def mj_M (l : Launch) (G : mj_G) (y : MethodName) (b : ByteArray) (nL : Nat) (rt : Option FieldType) (d mc ms : Nat) (as : List Value) (S : mj_S) (Q : mj_S → Option Value → Prop) : Prop :=
  (∀ v ∈ as, mj_ok S v) → ∀ (ad : Nat → Nat) (sz : Nat), Met l y (Cond.code y b nL rt :: mj_T) (mj_room d mc ms) (mj_Pc G as S ad sz) (mj_Qc G rt Q ad S.1 (va_A (mj_ws G.2.1 ad S) sz)) mc ms (va_A (mj_ws G.2.1 ad S) sz)
def mj_ent : List Value → List (Option Value)
  | [] => []
  | v :: vs => if v.category = 2 then some v :: none :: mj_ent vs else some v :: mj_ent vs
theorem mj_ent_in : ∀ (as : List Value) (i0 i : Nat) (v : Value), (mj_ent as)[i]? = some (some v) → (i0 + i, v) ∈ lv_args i0 as
  | [], i0, i, v, h => by simp [mj_ent] at h
  | w :: ws, i0, i, v, h => by
    unfold mj_ent at h
    unfold lv_args
    by_cases hc : w.category = 2
    · rw [if_pos hc] at h
      rw [if_pos hc]
      match i, h with
      | 0, h => cases h; exact List.mem_cons_self
      | 1, h => simp at h
      | j + 2, h =>
        refine List.mem_cons_of_mem _ ?_
        have := mj_ent_in ws (i0 + 2) j v (by simpa using h)
        rw [show i0 + (j + 2) = i0 + 2 + j by omega]
        exact this
    · rw [if_neg hc] at h
      rw [if_neg hc]
      match i, h with
      | 0, h => cases h; exact List.mem_cons_self
      | j + 1, h =>
        refine List.mem_cons_of_mem _ ?_
        have := mj_ent_in ws (i0 + 1) j v (by simpa using h)
        rw [show i0 + (j + 1) = i0 + 1 + j by omega]
        exact this
theorem mj_args_map (ad : Nat → Nat) : ∀ (as : List Value) (i : Nat), lv_args i (as.map (mj_cv ad)) = (lv_args i as).map (fun q => (q.1, mj_cv ad q.2))
  | [], i => rfl
  | w :: ws, i => by
    simp only [List.map_cons, lv_args, mj_cvc]
    rw [mj_args_map ad ws]
theorem mj_enter {l : Launch} {G : mj_G} {y : MethodName} {b : ByteArray} {nL r : Nat} {rt : Option FieldType} {d mc ms : Nat} {as : List Value} {S : mj_S} {Q : mj_S → Option Value → Prop} {ini : Bool} {ls : List (Option Value)} (hy : plainName y.cls = true) (hini : ini = true → y.name = "<init>") (hlen : ∀ ad, (lg_sl (as.map (mj_cv ad))).length ≤ nL) (hls : ls = mj_ent as ++ List.replicate r none)
    (kk : mj_V l G (mj_room d mc ms) y.cls b nL rt ini 0 ls [] S 0 0 (mj_std G rt (mj_room d mc ms) Q)) (hnl : y.cls ≠ "VelvetStatesLaw" := by decide +kernel) : mj_M l G y b nL rt d mc ms as S Q := by
  intro hok ad sz
  refine Met.ofW (cc := b) (maxL := nL) (ret := rt) hy rfl ?_
  intro p e s m args below meth c s₁ B hml hv
  obtain ⟨rfl, hsz, hw0, hro⟩ := hv
  subst hsz
  have hts := atoms_spec (ws := Cond.code y b nL rt :: mj_T) B.pre
  have hown : s.vm.findClass y.cls = some m.cls := findClass_of_methodNamed B.named
  have hnm : meth.name = y.name := (name_of_methodNamed B.named B.method).1
  have hxt : ∀ x ∈ c.exceptionTable.toList, y.cls = "VelvetStates" → False := by
    obtain ⟨meth9, c9, h1, h2, -, -, -, -, h7, -⟩ := Cond.code_spec B.named (hts _ List.mem_cons_self)
    cases Option.some.inj (h1.symm.trans B.method)
    cases Option.some.inj (h2.symm.trans (Stand.of_body B).code)
    intro x hx
    rw [Array.isEmpty_iff.mp h7] at hx
    cases hx
  have hl := lv_entry (as.map (mj_cv ad)) (hlen ad)
  rw [lg_entry_eq]
  generalize (lg_sl (as.map (mj_cv ad)) ++ List.replicate (nL - (lg_sl (as.map (mj_cv ad))).length) Slot.unset).toArray = rls at hl ⊢
  have hin : ∀ (i : Nat) (v : Value), ls[i]? = some (some v) → (i, v) ∈ lv_args 0 as := by
    intro i v h
    rw [hls] at h
    have h2 : (mj_ent as)[i]? = some (some v) := by
      rcases Nat.lt_or_ge i (mj_ent as).length with q | q
      · rw [List.getElem?_append_left q] at h; exact h
      · rw [List.getElem?_append_right q] at h
        rcases Nat.lt_or_ge (i - (mj_ent as).length) r with q2 | q2
        · rw [List.getElem?_replicate, if_pos q2] at h; cases h
        · rw [List.getElem?_replicate, if_neg (by omega)] at h; cases h
    have := mj_ent_in as 0 i v h2
    rwa [Nat.zero_add] at this
  have hmem : ∀ (as : List Value) (i0 : Nat) (q : Nat × Value), q ∈ lv_args i0 as → q.2 ∈ as := by
    intro as
    induction as with
    | nil => intro i0 q h; cases h
    | cons w ws ih =>
      intro i0 q h
      unfold lv_args at h
      rcases List.mem_cons.mp h with e | e
      · rw [e]; exact List.mem_cons_self
      · exact List.mem_cons_of_mem _ (ih _ q e)
  refine kk p e s m _ below meth c s.heap [] (va_A (mj_ws G.2.1 ad S) s.heap.size) ad ad S.1 rls ⟨⟨B.exec, B.bytes, hml, hown, fun w hw => hts w (List.mem_cons_of_mem _ hw)⟩, ⟨B.notSynchronized, B.returns, fun h => hnm.trans (hini h), hxt, fun h => absurd h hnl⟩, hw0, ⟨va_S.rf, fun q h => Or.inr h, hro⟩, ⟨List.prefix_rfl, hw0.2.2.2.1.1, fun _ _ => rfl⟩, fun v hv => (by cases hv), fun i v h => hok v (hmem as 0 _ (hin i v h)), hl.1, hl.2.1, fun i v h => ?_⟩
  refine hl.2.2 (i, mj_cv ad v) ?_
  rw [mj_args_map]
  exact List.mem_map.mpr ⟨(i, v), hin i v h, rfl⟩
section MJ6
variable {l : Launch} {G : mj_G} {R : Room} {own : String} {cc : ByteArray} {nL : Nat} {rt : Option FieldType} {ini : Bool} {pc : Nat} {ls ls' : List (Option Value)} {st : List Value} {S S' : mj_S} {k n : Nat} {Q : mj_S → Option Value → Prop}
variable {Zq : mj_Z}
variable {p : Program} {e : Env} {below : List Frame} {s : State} {m : MethodId} {args : Array Value} {meth : Method} {c : Code} {H H1 : Heap} {locs locs1 : List Loc} {A : Nat → Prop} {ad ad0 : Nat → Nat} {sh0 : List (Nat × Nat)} {rls rls' : Array Slot}
theorem mj_X.qc {v : Option Value} (X : mj_X G own cc nL rt ini ls st S p s m args meth c H locs A ad ad0 sh0 rls) (hQ : Q S v) (hok : ∀ x, v = some x → mj_ok S x) (hn : mj_nr rt v) (a : Array Value) : ∀ t : State, t.heap = H → s.WarmedH t.vm → mj_Qc G rt Q ad0 sh0 A a s (.returned (v.map (mj_cv ad))) t := by
  intro t ht hW
  refine ⟨⟨S, ad, v, rfl, hQ, ⟨by rw [ht]; exact X.hP, X.hD, va_K.moved hW.alike X.hK, X.hw, X.hN.warm hW⟩, X.2.2.2.2.1.1, X.2.2.2.2.1.2.2, hok, hn⟩, X.hS.F ht⟩
theorem mj_iret {x : Int32} (hd : decode cc pc = .ok (.ireturn, 1)) (hr : rt = some .int) (hk : k ≤ R.cells) (hn : n ≤ R.slots) (hQ : Q S (some (.int x))) : mj_V l G R own cc nL rt ini pc ls [.int x] S k n (mj_std G rt R Q) := by
  intro p e s m args below meth c H locs A ad ad0 sh0 rls X
  exact W.widen hk hn (W.iret X.hx X.hb (X.2.1.2.1.trans hr) (X.qc (v := some (.int x)) hQ (fun y h => by cases h; exact trivial) (by rw [hr]; rfl) _) (fun q hq => X.hS.2.2 q hq) hd X.2.1.1)
theorem mj_zret {x : Int32} (hd : decode cc pc = .ok (.ireturn, 1)) (hr : rt = some .boolean) (hz : narrow .boolean (.int x) = .int x) (hk : k ≤ R.cells) (hn : n ≤ R.slots) (hQ : Q S (some (.int x))) : mj_V l G R own cc nL rt ini pc ls [.int x] S k n (mj_std G rt R Q) := by
  intro p e s m args below meth c H locs A ad ad0 sh0 rls X
  exact W.widen hk hn (W.zret X.hx X.hb (X.2.1.2.1.trans hr) hz (X.qc (v := some (.int x)) hQ (fun y h => by cases h; exact trivial) (by rw [hr]; exact hz) _) (fun q hq => X.hS.2.2 q hq) hd X.2.1.1)
theorem mj_vret (hd : decode cc pc = .ok (.return_, 1)) (hr : rt = none) (hk : k ≤ R.cells) (hn : n ≤ R.slots) (hQ : Q S none) : mj_V l G R own cc nL rt ini pc ls [] S k n (mj_std G rt R Q) := by
  intro p e s m args below meth c H locs A ad ad0 sh0 rls X
  exact W.widen hk hn (W.vret X.hx X.hb (X.2.1.2.1.trans hr) (X.qc (v := none) hQ (fun y h => by cases h) (by rw [hr]; trivial) _) (fun q hq => X.hS.2.2 q hq) hd X.2.1.1)
theorem mj_cv_ag {ad' : Nat → Nat} {v : Value} (h : ∀ i, i < S.1.length → ad' i = ad i) (hv : mj_ok S v) : mj_cv ad' v = mj_cv ad v := by
  cases v <;> first | rfl | (show Value.ref _ = Value.ref _; rw [h _ hv])
theorem mj_A1 (X : mj_X G own cc nL rt ini ls st S p s m args meth c H locs A ad ad0 sh0 rls) : ∀ q, va_A (mj_ws G.2.1 ad S) H.size q → A q := by
  intro q h
  rcases h with ⟨j, x, h⟩ | h
  · exact X.hD.2 j _ h
  · exact X.hA q (Nat.le_trans X.hS.1 h)
theorem mj_blind {as : List Value} {sz : Nat} : FrameBlind (mj_Pc G as S ad sz) := by
  intro a U g mk q
  obtain ⟨h1, h2, h3, h4⟩ := q
  exact ⟨h1, h2, ⟨h3.1, h3.2.1, va_K.moved (u := U) (U := U.calling g mk a) (Vm.Alike.refl U.vm) h3.2.2.1, h3.2.2.2.1, mj_nw.same (u := U) (U := U.calling g mk a) rfl h3.2.2.2.2⟩, mj_ro.moved (u := U) (U := U.calling g mk a) (Vm.Alike.refl U.vm) h4⟩
theorem mj_X.pre (X : mj_X G own cc nL rt ini ls st S p s m args meth c H locs A ad ad0 sh0 rls) (as : List Value) : ∀ U : State, U.heap = H → s.WarmedH U.vm → mj_Pc G as S ad H.size (as.map (mj_cv ad)).toArray U := by
  intro U hU hW
  refine ⟨rfl, by rw [hU], ⟨by rw [hU]; exact X.hP, X.hD.self, va_K.moved hW.alike X.hK, X.hw, X.hN.warm hW⟩, ?_⟩
  rw [hU]
  exact ((X.hro.kept (fun a h1 h2 => X.hS.2.1 a h1 h2)).narrow (mj_A1 X)).moved hW.alike
/-- behind a call -/
theorem mj_goon {rt2 : Option FieldType} {Q2 : mj_S → Option Value → Prop} {st0 st1 : List Value} {mc ms : Nat} {a : Array Value} (X : mj_X G own cc nL rt ini ls st1 S p s m args meth c H locs A ad ad0 sh0 rls) (hst : ∀ v ∈ st, mj_ok S v)
    (hr : va_Run p l e R s m args below meth c H locs k n mc ms (F0 m pc rls st0) (st.map (mj_cv ad)) (mj_Qc G rt2 Q2 ad S.1 (va_A (mj_ws G.2.1 ad S) H.size) a) (va_A (mj_ws G.2.1 ad S) H.size))
    (kk : ∀ (S' : mj_S) (v : Option Value), Q2 S' v → mj_nr rt2 v → S.1 <+: S'.1 → mj_V l G R own cc nL rt ini (pc + 3) ls (v.toList ++ st) S' (k + mc) (n + ms) Zq) : W p l e R s m args below meth c H locs k n (Zq below args s A ad0 sh0) (F0 m pc rls st0) := by
  intro T hT XX
  obtain ⟨v, st₀, t, T', L, h0, X', hL, e1, e2, ⟨⟨S', ad', v', hv, hQ, hw', hpr, hag, hok, hnr⟩, hF1, hF2⟩, stp⟩ := hr T hT XX
  have hn' : S.1.length ≤ S'.1.length := hpr.length_le
  have hv' : v = v'.map (mj_cv ad') := by cases hv; rfl
  subst hv'
  have hA1 := mj_A1 X
  rw [h0] at hF1 hF2
  have hX : mj_X G own cc nL rt ini ls (v'.toList ++ st) S' p s m args meth c T'.heap (locs ++ L) A ad' ad0 sh0 rls := by
    refine ⟨X.1, X.2.1, ⟨by rw [e1]; exact hw'.1, hw'.2.1.weaken (fun _ q _ h => hA1 q.1 h), X.hK, hw'.2.2.2.1, X.hN⟩, ⟨⟨?_, ?_, ?_⟩, X.hA, X.hro.ad (fun i hi => hag i (Nat.lt_of_lt_of_le hi X.hw.1))⟩, ⟨X.2.2.2.2.1.1.trans hpr, X.2.2.2.2.1.2.1, fun i hi => (hag i (Nat.lt_of_lt_of_le hi X.2.2.2.2.1.1.length_le)).trans (X.2.2.2.2.1.2.2 i hi)⟩, ?_, fun i w h => mj_ok_le hn' (X.hls i w h), X.hsz, X.hlw, fun i w h => ?_⟩
    · exact Nat.le_trans X.hS.1 (by rw [e1]; exact hF1)
    · intro q h1 h2
      rw [e1, hF2 q (Nat.lt_of_lt_of_le h1 X.hS.1) (fun z => h2 (hA1 q z))]
      exact X.hS.2.1 q h1 h2
    · intro q hq
      rcases List.mem_append.mp hq with h | h
      · exact X.hS.2.2 q h
      · exact hA1 _ (hL q h)
    · intro w hw
      rcases List.mem_append.mp hw with h | h
      · exact hok w (by cases v' with | none => cases h | some z => rw [List.mem_singleton.mp h])
      · exact mj_ok_le hn' (hst w h)
    · rw [mj_cv_ag hag (X.hls i w h)]
      exact X.hlv i w h
  have K := kk S' v' hQ hnr hpr p e s m args below meth c T'.heap (locs ++ L) A ad' ad0 sh0 rls hX T' rfl X'
  have hstk : (v'.toList ++ st).map (mj_cv ad') = (v'.map (mj_cv ad')).toList ++ st.map (mj_cv ad) := by
    rw [List.map_append]
    congr 1
    · cases v' <;> rfl
    · exact List.map_congr_left (fun w hw => mj_cv_ag hag (hst w hw))
  rw [hstk] at K
  obtain ⟨t2, a1, b1⟩ := K
  exact ⟨t2, stp t2 a1, b1⟩
theorem mj_fix (X : mj_X G own cc nL rt ini ls st S p s m args meth c H locs A ad ad0 sh0 rls) : CallFix p m c cc nL s args mj_T own := ⟨X.hx, X.hb, X.hml, X.hown, X.hts⟩
theorem mj_gw {ws : List Cond} {y : MethodName} {b : ByteArray} {nL2 np : Nat} {rt2 : Option FieldType} (h : mj_cal y b nL2 rt2 np) (hw : ∀ w ∈ ws, w ∈ mj_T) : GoodIn mj_T (ws ++ (Cond.code y b nL2 rt2 :: mj_T)) := by
  intro w hw'
  rcases List.mem_append.mp hw' with q | q
  · exact ⟨hw w q, good_of_word (List.mem_filter.mp (hw w q)).2⟩
  · exact mj_good h.1 w q
theorem mj_rmo {d d2 mc ms k n nL2 : Nat} (h : d2 + 1 ≤ d) (hn : nL2 ≤ 45) : (mj_room d2 mc ms).frames + 1 ≤ (mj_room d k n).frames ∧ 8 + (nL2 + 11) + (mj_room d2 mc ms).locals ≤ (mj_room d k n).locals := by
  refine ⟨h, ?_⟩
  show 8 + (nL2 + 11) + 64 * d2 ≤ 64 * d
  omega
theorem mj_l3 {a b c : Cond} (h1 : a ∈ mj_T) (h2 : b ∈ mj_T) (h3 : c ∈ mj_T) : ∀ w ∈ [a, b, c], w ∈ mj_T := by
  intro w hw
  simp only [List.mem_cons, List.not_mem_nil, or_false] at hw
  rcases hw with rfl | rfl | rfl <;> assumption
theorem mj_l4 {a b c d : Cond} (h1 : a ∈ mj_T) (h2 : b ∈ mj_T) (h3 : c ∈ mj_T) (h4 : d ∈ mj_T) : ∀ w ∈ [a, b, c, d], w ∈ mj_T := by
  intro w hw
  simp only [List.mem_cons, List.not_mem_nil, or_false] at hw
  rcases hw with rfl | rfl | rfl | rfl <;> assumption
theorem mj_l5 {a b c d e : Cond} (h1 : a ∈ mj_T) (h2 : b ∈ mj_T) (h3 : c ∈ mj_T) (h4 : d ∈ mj_T) (h5 : e ∈ mj_T) : ∀ w ∈ [a, b, c, d, e], w ∈ mj_T := by
  intro w hw
  simp only [List.mem_cons, List.not_mem_nil, or_false] at hw
  rcases hw with rfl | rfl | rfl | rfl | rfl <;> assumption
/-- a static method of any of our classes -/
theorem mj_callS {index d2 mc ms nL2 np d K N : Nat} {y : MethodName} {b : ByteArray} {rt2 : Option FieldType} {as : List Value} {Q2 : mj_S → Option Value → Prop} (hd : decode cc pc = .ok (.invokestatic index, 3)) (hc : mj_cal y b nL2 rt2 np) (hl : Cond.methodLink own index y ∈ mj_T) (hs : Cond.static y ∈ mj_T) (hM : mj_M l G y b nL2 rt2 d2 mc ms as S Q2) (hnp : as.length = np) (hst : (st.map fun v => v.category).sum ≤ 8) (hdd : d2 + 1 ≤ d) (hck : k + mc ≤ K ∧ n + ms ≤ N)
    (kk : ∀ (S' : mj_S) (v : Option Value), Q2 S' v → mj_nr rt2 v → S.1 <+: S'.1 → mj_V l G (mj_room d K N) own cc nL rt ini (pc + 3) ls (v.toList ++ st) S' (k + mc) (n + ms) Zq) : mj_V l G (mj_room d K N) own cc nL rt ini pc ls (as.reverse ++ st) S k n Zq := by
  intro p e s m args below meth c H locs A ad ad0 sh0 rls X
  have hoks : ∀ v ∈ as, mj_ok S v := fun v hv => X.hst v (List.mem_append_left _ (List.mem_reverse.mpr hv))
  refine mj_goon (a := (as.map (mj_cv ad)).toArray) X (fun v hv => X.hst v (List.mem_append_right _ hv)) (va_runS (As := as.map (mj_cv ad)) (rest := st.map (mj_cv ad)) (mj_fix X) (hM hoks ad H.size) (va_cwS np X.hts (by unfold va_wsS; exact mj_gw hc (mj_l3 hl hs hc.2.1)) rfl rfl rfl hc.2.2.1 (mj_rmo hdd hc.2.2.2)) ⟨mj_blind, X.pre as⟩ rfl (by simpa using hnp) X.hsz (by simp) ?_ hd ⟨hck.1, hck.2⟩) kk
  show 2 * 0 + _ ≤ 8
  rw [List.map_map, show ((fun v : Value => v.category) ∘ mj_cv ad) = (fun v : Value => v.category) from funext fun v => mj_cvc ad v]
  omega
/-- a static method of a nest mate that is private -/
theorem mj_callSN {index d2 mc ms nL2 np d K N : Nat} {y : MethodName} {b : ByteArray} {rt2 : Option FieldType} {host : String} {as : List Value} {Q2 : mj_S → Option Value → Prop} (hd : decode cc pc = .ok (.invokestatic index, 3)) (hc : mj_cal y b nL2 rt2 np) (hl : Cond.methodLinkNest own index y host ∈ mj_N) (hs : Cond.static y ∈ mj_T) (hM : mj_M l G y b nL2 rt2 d2 mc ms as S Q2) (hnp : as.length = np) (hst : (st.map fun v => v.category).sum ≤ 8) (hdd : d2 + 1 ≤ d) (hck : k + mc ≤ K ∧ n + ms ≤ N)
    (kk : ∀ (S' : mj_S) (v : Option Value), Q2 S' v → mj_nr rt2 v → S.1 <+: S'.1 → mj_V l G (mj_room d K N) own cc nL rt ini (pc + 3) ls (v.toList ++ st) S' (k + mc) (n + ms) Zq) : mj_V l G (mj_room d K N) own cc nL rt ini pc ls (as.reverse ++ st) S k n Zq := by
  intro p e s m args below meth c H locs A ad ad0 sh0 rls X
  have hoks : ∀ v ∈ as, mj_ok S v := fun v hv => X.hst v (List.mem_append_left _ (List.mem_reverse.mpr hv))
  refine mj_goon (a := (as.map (mj_cv ad)).toArray) X (fun v hv => X.hst v (List.mem_append_right _ hv)) (va_runSN (As := as.map (mj_cv ad)) (rest := st.map (mj_cv ad)) (mj_fix X) (hM hoks ad H.size) ⟨va_cnB np X.hts (mj_gw (ws := []) hc (fun w hw => by cases hw)) rfl rfl rfl (X.hN _ hl) (X.hts _ hc.2.1) hc.2.2.1 (mj_rmo hdd hc.2.2.2), X.hts _ hs, trivial⟩ ⟨mj_blind, X.pre as⟩ rfl (by simpa using hnp) X.hsz (by simp) ?_ hd ⟨hck.1, hck.2⟩) kk
  show 2 * 0 + _ ≤ 8
  rw [List.map_map, show ((fun v : Value => v.category) ∘ mj_cv ad) = (fun v : Value => v.category) from funext fun v => mj_cvc ad v]
  omega
theorem mj_recv {ci a : Nat} {C : String} {T : u_T} {N : Nat} (X : mj_X G own cc nL rt ini ls st S p s m args meth c H locs A ad ad0 sh0 rls) (hc : vwCl[ci]? = some (C, T, N)) (hci : ci < 11) (hk : m_kd S a = ci) : ∃ cell : Cell, H[ad a]? = some cell ∧ cell.vm.isStatics = false ∧ s.vm.findClass C = some cell.cls := by
  obtain ⟨h6, hl, hln⟩ := X.hw.obj hk hci
  have ha := mj_at (dA := G.2.1) (ad := ad) h6 hl
  rw [mj_ce_obj hk hci hln] at ha
  exact va_recv X.hK X.hP hc ha
/-- an object's method -/
theorem mj_callV {index d2 mc ms nL2 np d K N ci a N2 : Nat} {T : u_T} {y : MethodName} {b : ByteArray} {rt2 : Option FieldType} {as : List Value} {Q2 : mj_S → Option Value → Prop} (hd : decode cc pc = .ok (.invokevirtual index, 3)) (hc : mj_cal y b nL2 rt2 np) (hl : Cond.methodLink own index y ∈ mj_T) (hi : Cond.instanceMethod y ∈ mj_T) (hse : Cond.selects y.cls y y ∈ mj_T) (hcl : vwCl[ci]? = some (y.cls, T, N2)) (hci : ci < 11) (hk : m_kd S a = ci) (hM : mj_M l G y b nL2 rt2 d2 mc ms (.ref a :: as) S Q2) (hnp : as.length = np) (hst : (st.map fun v => v.category).sum ≤ 8) (hdd : d2 + 1 ≤ d) (hck : k + mc ≤ K ∧ n + ms ≤ N)
    (kk : ∀ (S' : mj_S) (v : Option Value), Q2 S' v → mj_nr rt2 v → S.1 <+: S'.1 → mj_V l G (mj_room d K N) own cc nL rt ini (pc + 3) ls (v.toList ++ st) S' (k + mc) (n + ms) Zq) : mj_V l G (mj_room d K N) own cc nL rt ini pc ls (as.reverse ++ .ref a :: st) S k n Zq := by
  intro p e s m args below meth c H locs A ad ad0 sh0 rls X
  have hoks : ∀ v ∈ (.ref a :: as : List Value), mj_ok S v := fun v hv => by
    rcases List.mem_cons.mp hv with q | q
    · rw [q]; exact X.hst _ (List.mem_append_right _ List.mem_cons_self)
    · exact X.hst v (List.mem_append_left _ (List.mem_reverse.mpr q))
  refine mj_goon (a := ((.ref a :: as : List Value).map (mj_cv ad)).toArray) X (fun v hv => X.hst v (List.mem_append_right _ (List.mem_cons_of_mem _ hv))) (va_runV (As := as.map (mj_cv ad)) (rest := st.map (mj_cv ad)) (b := ad a) (mj_fix X) (hM hoks ad H.size) (cwV np X.hts (by unfold wsV; exact mj_gw hc (mj_l4 hl hi hse hc.2.1)) rfl rfl rfl ⟨rfl, hc.2.2.1⟩ (mj_rmo hdd hc.2.2.2)) ⟨mj_blind, mj_recv X hcl hci hk, X.pre (.ref a :: as)⟩ rfl (by simpa using hnp) X.hsz (by simp [mj_cv]) ?_ hd ⟨hck.1, hck.2⟩) kk
  show 2 * 0 + _ ≤ 8
  rw [List.map_map, show ((fun v : Value => v.category) ∘ mj_cv ad) = (fun v : Value => v.category) from funext fun v => mj_cvc ad v]
  omega
end MJ6
/-! typed contracts -/
theorem m_kd_pre {S S' : mj_S} {a t : Nat} (h : S.1 <+: S'.1) (hk : m_kd S a = t) (ht : t ≠ 999) : m_kd S' a = t := by
  obtain ⟨L, hL⟩ := h
  have hl := m_kd_lt (S := S) (a := a) (by omega)
  unfold m_kd at hk ⊢
  rw [← hL, List.getD_eq_getElem?_getD, List.getElem?_append_left hl, ← List.getD_eq_getElem?_getD]
  exact hk
theorem m_ln_pre {S S' : mj_S} {a t : Nat} (h : S.1 <+: S'.1) (hk : a < S.1.length) : m_ln S' a = m_ln S a := by
  obtain ⟨L, hL⟩ := h
  unfold m_ln
  rw [← hL, List.getD_eq_getElem?_getD, List.getElem?_append_left hk, ← List.getD_eq_getElem?_getD]
def mj_qi (Q : mj_S → Int32 → Prop) : mj_S → Option Value → Prop := fun S v => ∃ r, v = some (.int r) ∧ Q S r
def mj_qv (Q : mj_S → Prop) : mj_S → Option Value → Prop := fun S v => v = none ∧ Q S
section MJ7
variable {l : Launch} {G : mj_G} {R : Room} {own : String} {cc : ByteArray} {nL : Nat} {rt : Option FieldType} {ini : Bool} {pc : Nat} {ls ls' : List (Option Value)} {st : List Value} {S S' : mj_S} {k n : Nat} {Q : mj_S → Option Value → Prop} {Qi Qj : mj_S → Int32 → Prop} {Qv : mj_S → Prop}
theorem mj_reti {x : Int32} (hd : decode cc pc = .ok (.ireturn, 1)) (hr : rt = some .int) (hk : k ≤ R.cells ∧ n ≤ R.slots) (hQ : Qi S x) : mj_V l G R own cc nL rt ini pc ls [.int x] S k n (mj_std G rt R (mj_qi Qi)) := mj_iret hd hr hk.1 hk.2 ⟨x, rfl, hQ⟩
theorem mj_retz {x : Int32} (hd : decode cc pc = .ok (.ireturn, 1)) (hr : rt = some .boolean) (hz : narrow .boolean (.int x) = .int x) (hk : k ≤ R.cells ∧ n ≤ R.slots) (hQ : Qi S x) : mj_V l G R own cc nL rt ini pc ls [.int x] S k n (mj_std G rt R (mj_qi Qi)) := mj_zret hd hr hz hk.1 hk.2 ⟨x, rfl, hQ⟩
theorem mj_retv (hd : decode cc pc = .ok (.return_, 1)) (hr : rt = none) (hk : k ≤ R.cells ∧ n ≤ R.slots) (hQ : Qv S) : mj_V l G R own cc nL rt ini pc ls [] S k n (mj_std G rt R (mj_qv Qv)) := mj_vret hd hr hk.1 hk.2 ⟨rfl, hQ⟩
end MJ7
