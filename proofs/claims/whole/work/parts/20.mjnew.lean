/-! making: objects, arrays, constructors -/
def mj_adn (ad : Nat → Nat) (n q : Nat) : Nat → Nat := fun i => if i = n then q else ad i
theorem mj_adn_lt {ad : Nat → Nat} {n q i : Nat} (h : i < n) : mj_adn ad n q i = ad i := if_neg (by omega)
theorem mj_adn_eq {ad : Nat → Nat} {n q : Nat} : mj_adn ad n q n = q := if_pos rfl
theorem m_kd_nw {S : mj_S} {k n i : Nat} (h : i < S.1.length) : m_kd (m_nw S k n) i = m_kd S i := by
  show ((S.1 ++ [(k, n)]).getD i (999, 0)).1 = _
  rw [List.getD_eq_getElem?_getD, List.getElem?_append_left h, ← List.getD_eq_getElem?_getD]
  rfl
theorem m_ln_nw {S : mj_S} {k n i : Nat} (h : i < S.1.length) : m_ln (m_nw S k n) i = m_ln S i := by
  show ((S.1 ++ [(k, n)]).getD i (999, 0)).2 = _
  rw [List.getD_eq_getElem?_getD, List.getElem?_append_left h, ← List.getD_eq_getElem?_getD]
  rfl
theorem m_kd_nwl {S : mj_S} {k n : Nat} : m_kd (m_nw S k n) S.1.length = k := by
  show ((S.1 ++ [(k, n)]).getD S.1.length (999, 0)).1 = _
  rw [List.getD_eq_getElem?_getD, List.getElem?_append_right (Nat.le_refl _)]
  simp
theorem m_ln_nwl {S : mj_S} {k n : Nat} : m_ln (m_nw S k n) S.1.length = n := by
  show ((S.1 ++ [(k, n)]).getD S.1.length (999, 0)).2 = _
  rw [List.getD_eq_getElem?_getD, List.getElem?_append_right (Nat.le_refl _)]
  simp
theorem mj_ce_nw {L : Nat} {xs : Nat → Int32} {dA : Nat → ClassId} {ad : Nat → Nat} {S : mj_S} {k n q i : Nat} (hw : mj_wf L xs S) (h : i < S.1.length) : mj_ce dA (mj_adn ad S.1.length q) (m_nw S k n) i = mj_ce dA ad S i := by
  have hp : ∀ j, (m_gp (m_nw S k n) i j).map (mj_adn ad S.1.length q) = (m_gp S i j).map ad := by
    intro j
    show (m_gp S i j).map _ = _
    cases e : m_gp S i j with
    | none => rfl
    | some b => show some _ = some _; rw [mj_adn_lt (hw.2.2.2.1 i j b e)]
  have e3 : mj_fv (mj_adn ad S.1.length q) (m_nw S k n) i = mj_fv ad S i := by
    funext j
    unfold mj_fv
    rw [m_kd_nw h, hp j]
    rfl
  unfold mj_ce
  rw [m_kd_nw h, m_ln_nw h, e3]
  simp only [hp]
  rfl
theorem mj_ws_nw {L : Nat} {xs : Nat → Int32} {dA : Nat → ClassId} {ad : Nat → Nat} {S : mj_S} {k n q : Nat} (hw : mj_wf L xs S) : mj_ws dA (mj_adn ad S.1.length q) (m_nw S k n) = mj_ws dA ad S ++ [(q, mj_ce dA (mj_adn ad S.1.length q) (m_nw S k n) S.1.length)] := by
  have h6 := hw.1
  unfold mj_ws
  have e : (m_nw S k n).1.length - 6 = (S.1.length - 6) + 1 := by
    show (S.1 ++ [(k, n)]).length - 6 = _
    simp
    omega
  rw [e, List.range_succ, List.map_append]
  congr 1
  · apply List.map_congr_left
    intro i hi
    have hi' := List.mem_range.mp hi
    rw [mj_adn_lt (by omega), mj_ce_nw hw (by omega)]
  · simp only [List.map_cons, List.map_nil]
    rw [show S.1.length - 6 + 6 = S.1.length by omega, mj_adn_eq]
theorem mj_wf.nw {L : Nat} {xs : Nat → Int32} {S : mj_S} {k n : Nat} (hw : mj_wf L xs S) (h : (k < 11 ∧ n = mj_nf k) ∨ (100 ≤ k ∧ k ≤ 103)) : mj_wf L xs (m_nw S k n) := by
  obtain ⟨h1, h2, h3, h4, h5, h6, h7⟩ := hw
  have hl : (m_nw S k n).1.length = S.1.length + 1 := by show (S.1 ++ [(k, n)]).length = _; simp
  have big : ∀ i, S.1.length < i → m_kd (m_nw S k n) i = 999 := by
    intro i hi
    show ((S.1 ++ [(k, n)]).getD i (999, 0)).1 = _
    rw [List.getD_eq_getElem?_getD, List.getElem?_eq_none (by simp; omega)]
    rfl
  refine ⟨by rw [hl]; omega, fun i hi => ⟨?_, (h2 i hi).2⟩, fun i hi hi2 => ?_, fun i j b hb => ?_, fun i j b q1 q2 hb => ?_, fun i j b q1 hb => ?_, fun i j hi => h7 i j (by rw [hl] at hi; omega)⟩
  · show (S.1 ++ [(k, n)])[i]? = _
    rw [List.getElem?_append_left (by omega)]
    exact (h2 i hi).1
  · rw [hl] at hi2
    rcases Nat.lt_or_ge i S.1.length with q | q
    · rw [m_kd_nw q, m_ln_nw q]; exact h3 i hi q
    · have : i = S.1.length := by omega
      subst this
      rw [m_kd_nwl, m_ln_nwl]; exact h
  · rw [hl]; exact Nat.lt_succ_of_lt (h4 i j b hb)
  · have hb' : m_gp S i j = some b := hb
    have hlb := h4 i j b hb'
    rcases Nat.lt_or_ge i S.1.length with q | q
    · rw [m_kd_nw q] at q1 q2 ⊢
      rw [m_kd_nw hlb]
      exact h5 i j b q1 q2 hb'
    · rw [(h7 i j q).2.2] at hb'; cases hb'
  · have hb' : m_gp S i j = some b := hb
    have hlb := h4 i j b hb'
    rcases Nat.lt_or_ge i S.1.length with q | q
    · rw [m_kd_nw q] at q1
      rw [m_kd_nw hlb]
      exact h6 i j b q1 hb'
    · rw [(h7 i j q).2.2] at hb'; cases hb'
section MJ13
variable {l : Launch} {G : mj_G} {R : Room} {own : String} {cc : ByteArray} {nL : Nat} {rt : Option FieldType} {ini : Bool} {pc : Nat} {ls : List (Option Value)} {st : List Value} {S : mj_S} {k n : Nat} {Q : mj_Z} {Qw : mj_S → Prop}
variable {p : Program} {e : Env} {below : List Frame} {s : State} {m : MethodId} {args : Array Value} {meth : Method} {c : Code} {H H1 : Heap} {locs locs1 : List Loc} {A : Nat → Prop} {ad ad0 : Nat → Nat} {sh0 : List (Nat × Nat)} {rls : Array Slot}
theorem mj_X.made {q kd sz : Nat} {E : va_E} {st1 : List Value} (X : mj_X G own cc nL rt ini ls st1 S p s m args meth c H locs A ad ad0 sh0 rls) (hst : ∀ v ∈ st, mj_ok S v) (hP : va_P G.1 vwCl (mj_ws G.2.1 ad S ++ [(q, E)]) H1) (hD : va_D A (mj_ws G.2.1 ad S ++ [(q, E)])) (hS : va_S A s.heap H1 locs) (he : mj_ce G.2.1 (mj_adn ad S.1.length q) (m_nw S kd sz) S.1.length = E) (hk : (kd < 11 ∧ sz = mj_nf kd) ∨ (100 ≤ kd ∧ kd ≤ 103)) : mj_X G own cc nL rt ini ls (.ref S.1.length :: st) (m_nw S kd sz) p s m args meth c H1 locs A (mj_adn ad S.1.length q) ad0 sh0 rls ∧ (.ref S.1.length :: st : List Value).map (mj_cv (mj_adn ad S.1.length q)) = .ref q :: st.map (mj_cv ad) := by
  have hag : ∀ i, i < S.1.length → mj_adn ad S.1.length q i = ad i := fun i hi => mj_adn_lt hi
  have hle : S.1.length ≤ (m_nw S kd sz).1.length := by show _ ≤ (S.1 ++ [(kd, sz)]).length; simp
  have hlt : S.1.length < (m_nw S kd sz).1.length := by show _ < (S.1 ++ [(kd, sz)]).length; simp
  have hws : mj_ws G.2.1 (mj_adn ad S.1.length q) (m_nw S kd sz) = mj_ws G.2.1 ad S ++ [(q, E)] := by rw [mj_ws_nw X.hw, he]
  refine ⟨⟨X.1, X.2.1, ⟨by rw [hws]; exact hP, by rw [hws]; exact hD, X.hK, X.hw.nw hk, X.hN⟩, ⟨hS, X.hA, X.hro.ad (fun i hi => hag i (Nat.lt_of_lt_of_le hi X.hw.1))⟩, ⟨X.2.2.2.2.1.1.trans (List.prefix_append S.1 [(kd, sz)]), X.2.2.2.2.1.2.1, fun i hi => (hag i (Nat.lt_of_lt_of_le hi X.2.2.2.2.1.1.length_le)).trans (X.2.2.2.2.1.2.2 i hi)⟩, mj_okc hlt (fun v hv => mj_ok_le hle (hst v hv)), fun i w h => mj_ok_le hle (X.hls i w h), X.hsz, X.hlw, fun i w h => ?_⟩, ?_⟩
  · rw [mj_cv_ag hag (X.hls i w h)]
    exact X.hlv i w h
  · show Value.ref _ :: _ = _
    rw [mj_adn_eq, List.map_congr_left (fun w hw => mj_cv_ag hag (hst w hw))]
theorem mj_new {index ci : Nat} (hd : decode cc pc = .ok (.new index, 3)) (hc : mj_cn own index ci) (hcells : k + 1 ≤ R.cells) (hslots : n + mj_nf ci ≤ R.slots) (kk : mj_V l G R own cc nL rt ini (pc + 3) ls (.ref S.1.length :: st) (m_nw S ci (mj_nf ci)) (k + 1) (n + mj_nf ci) Q) : mj_V l G R own cc nL rt ini pc ls st S k n Q := by
  intro p e s m args below meth c H locs A ad ad0 sh0 rls X
  obtain ⟨C, T, N, ty0, h1, h2, h3, h4, h5, h6, h7, h8, h9⟩ := hc
  subst h4
  refine va_new (ci := ci) (fs := (List.range (mj_nf ci)).map (fun j => if mj_ft ci j = 0 then .int 0 else if mj_ft ci j = 1 then .long 0 else .null)) X.hx X.hb X.hts h2 ty0 h3 X.hown (X.hts _ h6) (X.hts _ h7) (X.hts _ h8) X.hK X.hP X.hD X.hS X.hA h1 (fun j hj => ?_) hcells hslots hd (fun q H1 hP hD hS => ?_)
  · rw [h9 j hj]
    simp [vp_V, List.getD_eq_getElem?_getD, hj]
  · obtain ⟨X', hs⟩ := X.made (kd := ci) (sz := mj_nf ci) X.hst hP hD hS (by
      unfold mj_ce
      rw [m_kd_nwl, m_ln_nwl, if_pos (by omega)]
      congr 2
      apply List.map_congr_left
      intro j _
      unfold mj_fv
      rw [m_kd_nwl]
      have z := X.hw.2.2.2.2.2.2 S.1.length j (Nat.le_refl _)
      rw [show m_gi (m_nw S ci (mj_nf ci)) S.1.length j = 0 from z.1, show m_gl (m_nw S ci (mj_nf ci)) S.1.length j = 0 from z.2.1, show m_gp (m_nw S ci (mj_nf ci)) S.1.length j = none from z.2.2]
      rfl) (Or.inl ⟨h5, rfl⟩)
    have K := kk p e s m args below meth c H1 locs A _ ad0 sh0 rls X'
    rw [hs] at K
    exact K
theorem mj_newI {z : Int32} {N : Nat} (hd : decode cc pc = .ok (.newarray .int, 2)) (harr : Cond.arrayClass .int ∈ mj_T) (hz : ¬ z < 0) (hN : z.toNatClampNeg = N) (hb : N ≤ 100000) (hcells : k + 1 ≤ R.cells) (hslots : n + N ≤ R.slots) (kk : mj_V l G R own cc nL rt ini (pc + 2) ls (.ref S.1.length :: st) (m_nw S 100 N) (k + 1) (n + N) Q) : mj_V l G R own cc nL rt ini pc ls (.int z :: st) S k n Q := by
  intro p e s m args below meth c H locs A ad ad0 sh0 rls X
  refine va_newa (atype := .int) (a0 := (N, .inl (fun _ => 0))) X.hx X.hb (X.hts _ harr) rfl X.hK X.hP X.hD X.hS X.hA (fun _ => rfl) hz hN (by show N * 4 ≤ _; omega) hcells hslots hd (fun q cA H1 hK1 hP hD hS => ?_)
  have e1 : cA = G.2.1 0 := by
    have a1 : s.vm.findClass ("[" ++ FieldType.int.toString) = some cA := (hK1.2 4 _ rfl).2
    have a2 : s.vm.findClass ("[" ++ FieldType.int.toString) = some (G.2.1 0) := (X.hK.2 0 _ rfl).2
    exact Option.some.inj (a1.symm.trans a2)
  subst e1
  obtain ⟨X', hs⟩ := X.made (kd := 100) (sz := N) (mj_okt X.hst) hP hD hS (by
    rw [mj_ce_i m_kd_nwl, m_ln_nwl]
    have : m_gi (m_nw S 100 N) S.1.length = fun _ => 0 := funext fun j => (X.hw.2.2.2.2.2.2 S.1.length j (Nat.le_refl _)).1
    rw [this]) (Or.inr ⟨by omega, by omega⟩)
  have K := kk p e s m args below meth c H1 locs A _ ad0 sh0 rls X'
  rw [hs] at K
  exact K
theorem mj_newZ {z : Int32} {N : Nat} (hd : decode cc pc = .ok (.newarray .boolean, 2)) (harr : Cond.arrayClass .boolean ∈ mj_T) (hz : ¬ z < 0) (hN : z.toNatClampNeg = N) (hb : N ≤ 100000) (hcells : k + 1 ≤ R.cells) (hslots : n + N ≤ R.slots) (kk : mj_V l G R own cc nL rt ini (pc + 2) ls (.ref S.1.length :: st) (m_nw S 101 N) (k + 1) (n + N) Q) : mj_V l G R own cc nL rt ini pc ls (.int z :: st) S k n Q := by
  intro p e s m args below meth c H locs A ad ad0 sh0 rls X
  refine va_newa (atype := .boolean) (a0 := (N, .inl (fun _ => 0))) X.hx X.hb (X.hts _ harr) rfl X.hK X.hP X.hD X.hS X.hA (fun _ => rfl) hz hN (by show N * 1 ≤ _; omega) hcells hslots hd (fun q cA H1 hK1 hP hD hS => ?_)
  have e1 : cA = G.2.1 1 := by
    have a1 : s.vm.findClass ("[" ++ FieldType.boolean.toString) = some cA := (hK1.2 4 _ rfl).2
    have a2 : s.vm.findClass ("[" ++ FieldType.boolean.toString) = some (G.2.1 1) := (X.hK.2 1 _ rfl).2
    exact Option.some.inj (a1.symm.trans a2)
  subst e1
  obtain ⟨X', hs⟩ := X.made (kd := 101) (sz := N) (mj_okt X.hst) hP hD hS (by
    rw [mj_ce_z m_kd_nwl, m_ln_nwl]
    have : m_gi (m_nw S 101 N) S.1.length = fun _ => 0 := funext fun j => (X.hw.2.2.2.2.2.2 S.1.length j (Nat.le_refl _)).1
    rw [this]) (Or.inr ⟨by omega, by omega⟩)
  have K := kk p e s m args below meth c H1 locs A _ ad0 sh0 rls X'
  rw [hs] at K
  exact K
theorem mj_newL {z : Int32} {N : Nat} (hd : decode cc pc = .ok (.newarray .long, 2)) (harr : Cond.arrayClass .long ∈ mj_T) (hz : ¬ z < 0) (hN : z.toNatClampNeg = N) (hb : N ≤ 100000) (hcells : k + 1 ≤ R.cells) (hslots : n + N ≤ R.slots) (kk : mj_V l G R own cc nL rt ini (pc + 2) ls (.ref S.1.length :: st) (m_nw S 102 N) (k + 1) (n + N) Q) : mj_V l G R own cc nL rt ini pc ls (.int z :: st) S k n Q := by
  intro p e s m args below meth c H locs A ad ad0 sh0 rls X
  refine va_newa (atype := .long) (a0 := (N, .inr (.inl (fun _ => 0)))) X.hx X.hb (X.hts _ harr) rfl X.hK X.hP X.hD X.hS X.hA (fun _ => rfl) hz hN (by show N * 8 ≤ _; omega) hcells hslots hd (fun q cA H1 hK1 hP hD hS => ?_)
  have e1 : cA = G.2.1 2 := by
    have a1 : s.vm.findClass ("[" ++ FieldType.long.toString) = some cA := (hK1.2 4 _ rfl).2
    have a2 : s.vm.findClass ("[" ++ FieldType.long.toString) = some (G.2.1 2) := (X.hK.2 2 _ rfl).2
    exact Option.some.inj (a1.symm.trans a2)
  subst e1
  obtain ⟨X', hs⟩ := X.made (kd := 102) (sz := N) (mj_okt X.hst) hP hD hS (by
    rw [mj_ce_l m_kd_nwl, m_ln_nwl]
    have : m_gl (m_nw S 102 N) S.1.length = fun _ => 0 := funext fun j => (X.hw.2.2.2.2.2.2 S.1.length j (Nat.le_refl _)).2.1
    rw [this]) (Or.inr ⟨by omega, by omega⟩)
  have K := kk p e s m args below meth c H1 locs A _ ad0 sh0 rls X'
  rw [hs] at K
  exact K
/-- Object's constructor -/
theorem mj_objInit {index a d K N : Nat} (hd : decode cc pc = .ok (.invokespecial index, 3)) (hl : Cond.methodLink own index Lib.objectInit ∈ mj_T) (hi : Cond.instanceMethod Lib.objectInit ∈ mj_T) (hc : Cond.code Lib.objectInit ⟨#[0xb1]⟩ 1 none ∈ mj_T) (hdd : 1 ≤ d) (hst : (st.map fun v => v.category).sum ≤ 8) (kk : mj_V l G (mj_room d K N) own cc nL rt ini (pc + 3) ls st S k n Q) : mj_V l G (mj_room d K N) own cc nL rt ini pc ls (.ref a :: st) S k n Q := by
  intro p e s m args below meth c H locs A ad ad0 sh0 rls X
  refine W.objInit X.hx X.hb X.hown (X.hts _ hl) (X.hts _ hi) (X.hts _ hc) (a := ad a) (rest := st.map (mj_cv ad)) rfl (X.hsz.trans X.hml.symm) rfl hd hdd ?_ (kk p e s m args below meth c H locs A ad ad0 sh0 rls (X.stk (mj_okt X.hst)))
  show 2 * 0 + _ + 12 ≤ 64 * d
  rw [List.map_map, show ((fun v : Value => v.category) ∘ mj_cv ad) = (fun v : Value => v.category) from funext fun v => mj_cvc ad v]
  omega
/-- a constructor of a class that its own tables link -/
theorem mj_callI {index d2 mc ms nL2 d K N a : Nat} {y : MethodName} {b : ByteArray} (hd : decode cc pc = .ok (.invokespecial index, 3)) (hc : mj_cal y b nL2 none 0) (hl : Cond.methodLink own index y ∈ mj_T) (hi : Cond.instanceMethod y ∈ mj_T) (hy : y.name = "<init>") (hM : mj_M l G y b nL2 none d2 mc ms [.ref a] S (mj_qv Qw)) (hst : (st.map fun v => v.category).sum ≤ 8) (hdd : d2 + 1 ≤ d) (hck : k + mc ≤ K ∧ n + ms ≤ N)
    (kk : ∀ (S' : mj_S), Qw S' → S.1 <+: S'.1 → mj_V l G (mj_room d K N) own cc nL rt ini (pc + 3) ls st S' (k + mc) (n + ms) Q) : mj_V l G (mj_room d K N) own cc nL rt ini pc ls (.ref a :: st) S k n Q := by
  intro p e s m args below meth c H locs A ad ad0 sh0 rls X
  refine mj_goon (a := (([.ref a] : List Value).map (mj_cv ad)).toArray) X (fun v hv => X.hst v (List.mem_cons_of_mem _ hv)) (va_runI (As := []) (rest := st.map (mj_cv ad)) (b := ad a) (mj_fix X) (hM (fun v hv => by rw [List.mem_singleton.mp hv]; exact mj_okh X.hst) ad H.size) (cwI 0 X.hts (mj_good hc.1) rfl rfl rfl (X.hts _ hc.2.1) (X.hts _ hl) (X.hts _ hi) hy hc.2.2.1 (mj_rmo hdd hc.2.2.2)) ⟨mj_blind, X.pre [.ref a]⟩ rfl rfl X.hsz rfl ?_ hd ⟨hck.1, hck.2⟩) (mj_kv kk)
  show 2 * 0 + _ ≤ 8
  rw [List.map_map, show ((fun v : Value => v.category) ∘ mj_cv ad) = (fun v : Value => v.category) from funext fun v => mj_cvc ad v]
  omega
/-- a private constructor of a nest mate -/
theorem mj_callIN {index d2 mc ms nL2 d K N a : Nat} {y : MethodName} {b : ByteArray} {host : String} (hd : decode cc pc = .ok (.invokespecial index, 3)) (hc : mj_cal y b nL2 none 0) (hl : Cond.methodLinkNest own index y host ∈ mj_N) (hi : Cond.instanceMethod y ∈ mj_T) (hy : y.name = "<init>") (hM : mj_M l G y b nL2 none d2 mc ms [.ref a] S (mj_qv Qw)) (hst : (st.map fun v => v.category).sum ≤ 8) (hdd : d2 + 1 ≤ d) (hck : k + mc ≤ K ∧ n + ms ≤ N)
    (kk : ∀ (S' : mj_S), Qw S' → S.1 <+: S'.1 → mj_V l G (mj_room d K N) own cc nL rt ini (pc + 3) ls st S' (k + mc) (n + ms) Q) : mj_V l G (mj_room d K N) own cc nL rt ini pc ls (.ref a :: st) S k n Q := by
  intro p e s m args below meth c H locs A ad ad0 sh0 rls X
  refine mj_goon (a := (([.ref a] : List Value).map (mj_cv ad)).toArray) X (fun v hv => X.hst v (List.mem_cons_of_mem _ hv)) (va_runIN (As := []) (rest := st.map (mj_cv ad)) (b := ad a) (mj_fix X) (hM (fun v hv => by rw [List.mem_singleton.mp hv]; exact mj_okh X.hst) ad H.size) ⟨va_cnB 0 X.hts (mj_good hc.1) rfl rfl rfl (X.hN _ hl) (X.hts _ hc.2.1) hc.2.2.1 (mj_rmo hdd hc.2.2.2), hy, X.hts _ hi⟩ ⟨mj_blind, X.pre [.ref a]⟩ rfl rfl X.hsz rfl ?_ hd ⟨hck.1, hck.2⟩) (mj_kv kk)
  show 2 * 0 + _ ≤ 8
  rw [List.map_map, show ((fun v : Value => v.category) ∘ mj_cv ad) = (fun v : Value => v.category) from funext fun v => mj_cvc ad v]
  omega
end MJ13
