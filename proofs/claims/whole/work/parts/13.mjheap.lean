/-! heap: fields -/
theorem mj_ok_le {S S' : mj_S} {v : Value} (h : S.1.length ≤ S'.1.length) (hv : mj_ok S v) : mj_ok S' v := by
  cases v <;> first | exact hv | exact Nat.lt_of_lt_of_le hv h
theorem mj_wf.ge6 {L : Nat} {xs : Nat → Int32} {S : mj_S} {a : Nat} (h : mj_wf L xs S) (hk : m_kd S a < 104) : 6 ≤ a := by
  rcases Nat.lt_or_ge a 6 with q | q
  · exfalso
    have h1 := (h.2.1 a q).1
    have h2 : m_kd S a = (mj_rs L a).1 := by simp [m_kd, List.getD_eq_getElem?_getD, h1]
    rw [h2] at hk
    have : (mj_rs L a).1 = 110 ∨ (mj_rs L a).1 = 111 := by
      unfold mj_rs
      repeat' split
      all_goals simp
    omega
  · exact q
theorem mj_wf.si {L : Nat} {xs : Nat → Int32} {S : mj_S} {a k : Nat} {x : Int32} (h : mj_wf L xs S) (ha : 6 ≤ a) (hl : a < S.1.length) : mj_wf L xs (m_si S a k x) := by
  obtain ⟨h1, h2, h3, h4, h5, h6, h7⟩ := h
  refine ⟨h1, fun i hi => ⟨(h2 i hi).1, fun j => ?_⟩, h3, h4, h5, h6, fun i j hi => ⟨?_, (h7 i j hi).2⟩⟩
  · show (if i = a ∧ j = k then x else S.2.1 i j) = _
    rw [if_neg (by omega)]
    exact (h2 i hi).2 j
  · show (if i = a ∧ j = k then x else S.2.1 i j) = _
    have hi' : S.1.length ≤ i := hi
    rw [if_neg (by omega)]
    exact (h7 i j hi).1
theorem mj_wf.sl {L : Nat} {xs : Nat → Int32} {S : mj_S} {a k : Nat} {x : Int64} (h : mj_wf L xs S) (hl : a < S.1.length) : mj_wf L xs (m_sl S a k x) := by
  obtain ⟨h1, h2, h3, h4, h5, h6, h7⟩ := h
  refine ⟨h1, h2, h3, h4, h5, h6, fun i j hi => ⟨(h7 i j hi).1, ?_, (h7 i j hi).2.2⟩⟩
  show (if i = a ∧ j = k then x else S.2.2.1 i j) = _
  have hi' : S.1.length ≤ i := hi
  rw [if_neg (by omega)]
  exact (h7 i j hi).2.1
theorem mj_wf.row {L : Nat} {xs : Nat → Int32} {S : mj_S} {a : Nat} {f : Nat → Int32} (h : mj_wf L xs S) (ha : 6 ≤ a) (hl : a < S.1.length) : mj_wf L xs (m_row S a f) := by
  obtain ⟨h1, h2, h3, h4, h5, h6, h7⟩ := h
  refine ⟨h1, fun i hi => ⟨(h2 i hi).1, fun j => ?_⟩, h3, h4, h5, h6, fun i j hi => ⟨?_, (h7 i j hi).2⟩⟩
  · show (if i = a then f else S.2.1 i) j = _
    rw [if_neg (by omega)]
    exact (h2 i hi).2 j
  · show (if i = a then f else S.2.1 i) j = _
    have hi' : S.1.length ≤ i := hi
    rw [if_neg (by omega)]
    exact (h7 i j hi).1
theorem mj_wf.sp {L : Nat} {xs : Nat → Int32} {S : mj_S} {a k b : Nat} (h : mj_wf L xs S) (hl : a < S.1.length) (hb : b < S.1.length) (h8 : m_kd S a < 100 → 2 ≤ mj_ft (m_kd S a) k → m_kd S b + 2 = mj_ft (m_kd S a) k) (h9 : m_kd S a = 103 → m_kd S b = 100) : mj_wf L xs (m_sp S a k (some b)) := by
  obtain ⟨h1, h2, h3, h4, h5, h6, h7⟩ := h
  have key : ∀ i j c, m_gp (m_sp S a k (some b)) i j = some c → (i = a ∧ j = k ∧ c = b) ∨ m_gp S i j = some c := by
    intro i j c hc
    have hc : (if i = a ∧ j = k then some b else S.2.2.2 i j) = some c := hc
    by_cases e : i = a ∧ j = k
    · rw [if_pos e] at hc
      exact Or.inl ⟨e.1, e.2, (Option.some.inj hc).symm⟩
    · rw [if_neg e] at hc
      exact Or.inr hc
  refine ⟨h1, h2, h3, fun i j c hc => ?_, fun i j c q1 q2 hc => ?_, fun i j c q1 hc => ?_, fun i j hi => ⟨(h7 i j hi).1, (h7 i j hi).2.1, ?_⟩⟩
  · rcases key i j c hc with ⟨-, -, rfl⟩ | e
    · exact hb
    · exact h4 i j c e
  · rcases key i j c hc with ⟨rfl, rfl, rfl⟩ | e
    · exact h8 q1 q2
    · exact h5 i j c q1 q2 e
  · rcases key i j c hc with ⟨rfl, rfl, rfl⟩ | e
    · exact h9 q1
    · exact h6 i j c q1 e
  · show (if i = a ∧ j = k then some b else S.2.2.2 i j) = _
    have hi' : S.1.length ≤ i := hi
    rw [if_neg (by omega)]
    exact (h7 i j hi).2.2
section MJ4
variable {l : Launch} {G : mj_G} {R : Room} {own : String} {cc : ByteArray} {nL : Nat} {rt : Option FieldType} {ini : Bool} {pc : Nat} {ls ls' : List (Option Value)} {st : List Value} {S S' : mj_S} {k n : Nat} {Q : mj_Z}
variable {p : Program} {s : State} {m : MethodId} {args : Array Value} {meth : Method} {c : Code} {H H1 : Heap} {locs locs1 : List Loc} {A : Nat → Prop} {ad ad0 : Nat → Nat} {sh0 : List (Nat × Nat)} {rls rls' : Array Slot}
theorem mj_X.mem (X : mj_X G own cc nL rt ini ls st S p s m args meth c H locs A ad ad0 sh0 rls) (e : S'.1 = S.1) (hP : va_P G.1 vwCl (mj_ws G.2.1 ad S') H1) (hD : va_D A (mj_ws G.2.1 ad S')) (hS : va_S A s.heap H1 locs1) (hw : mj_wf G.2.2.1 G.2.2.2 S') : mj_X G own cc nL rt ini ls st S' p s m args meth c H1 locs1 A ad ad0 sh0 rls :=
  ⟨X.1, X.2.1, ⟨hP, hD, X.hK, hw, X.hN⟩, ⟨hS, X.hA, X.hro⟩, ⟨by rw [e]; exact X.2.2.2.2.1.1, X.2.2.2.2.1.2⟩, fun v hv => mj_ok_le (by rw [e]; exact Nat.le_refl _) (X.hst v hv), fun i v h => mj_ok_le (by rw [e]; exact Nat.le_refl _) (X.hls i v h), X.2.2.2.2.2.2.2⟩
theorem mj_wf.obj {L : Nat} {xs : Nat → Int32} {a ci : Nat} (h : mj_wf L xs S) (hk : m_kd S a = ci) (hc : ci < 11) : 6 ≤ a ∧ a < S.1.length ∧ m_ln S a = mj_nf ci := by
  have h6 := h.ge6 (a := a) (by omega)
  have hl := m_kd_lt (S := S) (a := a) (by omega)
  refine ⟨h6, hl, ?_⟩
  rcases h.2.2.1 a h6 hl with ⟨-, h2⟩ | ⟨h2, -⟩
  · rw [h2, hk]
  · omega
theorem mj_same {ref own name desc : String} {s : State} {args : Array Value} (h : ref = own ∨ Cond.sameField ref own name desc ∈ mj_T) (hts : ∀ w ∈ mj_T, w.before args s = true) : ∀ x, s.fieldFound? own name desc = some x → s.fieldFound? ref name desc = some x := by
  rcases h with h | h
  · rw [h]; exact fun _ h => h
  · exact u_same (hts _ h)
theorem mj_ce_obj {dA : Nat → ClassId} {a ci : Nat} (hk : m_kd S a = ci) (hc : ci < 11) (hl : m_ln S a = mj_nf ci) : mj_ce dA ad S a = .inr (ci, (List.range (mj_nf ci)).map (mj_fv ad S a)) := by
  unfold mj_ce
  rw [hk, if_pos (by omega), hl]
theorem mj_get {index ci a j : Nat} {ty : FieldType} {fin o : Bool} {v : Value} (hd : decode cc pc = .ok (.getfield index, 3)) (hf : mj_fl own index ci j ty fin o) (hk : m_kd S a = ci) (hv : ∀ ad, mj_fv ad S a j = mj_cv ad v) (hok : mj_wf G.2.2.1 G.2.2.2 S → mj_ok S v) (kk : mj_V l G R own cc nL rt ini (pc + 3) ls (v :: st) S k n Q) : mj_V l G R own cc nL rt ini pc ls (.ref a :: st) S k n Q := by
  intro p e s m args below meth c H locs A ad ad0 sh0 rls X
  obtain ⟨ref, C, T, N, ty0, hc, hin, hty, hnm, hkN, hN, hci, -, -, -, hlink, hsame⟩ := hf
  obtain ⟨h6, hl, hln⟩ := X.hw.obj hk hci
  have ha := mj_at (dA := G.2.1) (ad := ad) h6 hl
  rw [mj_ce_obj hk hci hln] at ha
  refine va_get X.hx X.hb X.hts hin X.hown X.hK X.hP (a - 6) ha hc j hkN (X.hts _ hlink) (mj_same hsame X.hts) (v := mj_cv ad v) ?_ hd (kk p e s m args below meth c H locs A ad ad0 sh0 rls (X.stk (mj_okc (hok X.hw) (mj_okt X.hst))))
  rw [← hN, List.getElem?_map, List.getElem?_range hkN]
  simp [hv]
theorem mj_getI {index ci a j : Nat} {ty : FieldType} {fin o : Bool} (hd : decode cc pc = .ok (.getfield index, 3)) (hf : mj_fl own index ci j ty fin o) (hk : m_kd S a = ci) (ht : mj_ft ci j = 0) (kk : mj_V l G R own cc nL rt ini (pc + 3) ls (.int (m_gi S a j) :: st) S k n Q) : mj_V l G R own cc nL rt ini pc ls (.ref a :: st) S k n Q :=
  mj_get (v := .int (m_gi S a j)) hd hf hk (fun ad => by unfold mj_fv; rw [hk, if_pos ht]; rfl) (fun _ => trivial) kk
theorem mj_getL {index ci a j : Nat} {ty : FieldType} {fin o : Bool} (hd : decode cc pc = .ok (.getfield index, 3)) (hf : mj_fl own index ci j ty fin o) (hk : m_kd S a = ci) (ht : mj_ft ci j = 1) (kk : mj_V l G R own cc nL rt ini (pc + 3) ls (.long (m_gl S a j) :: st) S k n Q) : mj_V l G R own cc nL rt ini pc ls (.ref a :: st) S k n Q :=
  mj_get (v := .long (m_gl S a j)) hd hf hk (fun ad => by unfold mj_fv; rw [hk, if_neg (by omega), if_pos ht]; rfl) (fun _ => trivial) kk
/-- a reference: it isn't null, its kind is the field's -/
theorem mj_getP {index ci a j t : Nat} {ty : FieldType} {fin o : Bool} (hd : decode cc pc = .ok (.getfield index, 3)) (hf : mj_fl own index ci j ty fin o) (hk : m_kd S a = ci) (ht : mj_ft ci j = t + 2) (kk : ∃ b, m_gp S a j = some b ∧ (m_kd S b = t → mj_V l G R own cc nL rt ini (pc + 3) ls (.ref b :: st) S k n Q)) : mj_V l G R own cc nL rt ini pc ls (.ref a :: st) S k n Q := by
  obtain ⟨b, hb, kk⟩ := kk
  intro p e s m args below meth c H locs A ad ad0 sh0 rls X
  have hci : ci < 11 := by obtain ⟨_, _, _, _, _, _, _, _, _, _, _, h, _⟩ := hf; exact h
  have hkb : m_kd S b = t := by
    have := X.hw.2.2.2.2.1 a j b (by omega) (by rw [hk]; omega) hb
    rw [hk, ht] at this
    omega
  exact mj_get hd hf hk (v := .ref b) (fun ad => by unfold mj_fv; rw [hk, if_neg (by omega), if_neg (by omega), hb]; rfl) (fun hw => hw.2.2.2.1 a j b hb) (kk hkb) p e s m args below meth c H locs A ad ad0 sh0 rls X
theorem mj_put {index ci a j : Nat} {ty : FieldType} {fin o : Bool} {v : Value} (hd : decode cc pc = .ok (.putfield index, 3)) (hf : mj_fl own index ci j ty fin o) (hk : m_kd S a = ci) (hfin : fin = false ∨ (ini = true ∧ o = true)) (hnr : ∀ ad, narrow ty (mj_cv ad v) = mj_cv ad v) (hft : ∀ ad, fits ty (mj_cv ad v) = true)
    (e : S'.1 = S.1) (hne : ∀ ad b, b ≠ a → mj_ce G.2.1 ad S' b = mj_ce G.2.1 ad S b) (hj : ∀ ad, mj_fv ad S' a j = mj_cv ad v) (ho : ∀ ad i, i ≠ j → mj_fv ad S' a i = mj_fv ad S a i) (hw : mj_wf G.2.2.1 G.2.2.2 S → mj_ok S v → 6 ≤ a → a < S.1.length → mj_wf G.2.2.1 G.2.2.2 S')
    (kk : mj_V l G R own cc nL rt ini (pc + 3) ls st S' k n Q) : mj_V l G R own cc nL rt ini pc ls (v :: .ref a :: st) S k n Q := by
  intro p e0 s m args below meth c H locs A ad ad0 sh0 rls X
  obtain ⟨ref, C, T, N, ty0, hc, hin, hty, hnm, hkN, hN, hci, hte, hfe, hfo, hlink, hsame⟩ := hf
  obtain ⟨h6, hl, hln⟩ := X.hw.obj hk hci
  have ha := mj_at (dA := G.2.1) (ad := ad) h6 hl
  rw [mj_ce_obj hk hci hln] at ha
  have hw' := hw X.hw (mj_okh X.hst) h6 hl
  have hk' : m_kd S' a = ci := by unfold m_kd; rw [e]; exact hk
  have hln' : m_ln S' a = mj_nf ci := by unfold m_ln; rw [e]; exact hln
  have hset : mj_ws G.2.1 ad S' = (mj_ws G.2.1 ad S).set (a - 6) (ad a, .inr (ci, ((List.range (mj_nf ci)).map (mj_fv ad S a)).set j (mj_cv ad v))) := by
    rw [mj_set h6 e (hne ad), mj_ce_obj hk' hci hln', mj_rset (hj ad) (ho ad)]
  have fin' : ∀ (H1 : Heap) (locs1 : List Loc), va_P G.1 vwCl ((mj_ws G.2.1 ad S).set (a - 6) (ad a, .inr (ci, ((List.range (mj_nf ci)).map (mj_fv ad S a)).set j (mj_cv ad v)))) H1 → va_D A ((mj_ws G.2.1 ad S).set (a - 6) (ad a, .inr (ci, ((List.range (mj_nf ci)).map (mj_fv ad S a)).set j (mj_cv ad v)))) → va_S A s.heap H1 locs1 → W p l e0 R s m args below meth c H1 locs1 k n (Q below args s A ad0 sh0) (F0 m (pc + 3) rls (st.map (mj_cv ad))) := by
    intro H1 locs1 h1 h2 h3
    rw [← hset] at h1 h2
    exact kk p e0 s m args below meth c H1 locs1 A ad ad0 sh0 rls ((X.stk (mj_okt (mj_okt X.hst))).mem e h1 h2 h3 hw')
  have hlen : j < ((List.range (mj_nf ci)).map (mj_fv ad S a)).length := by simp [← hN, hkN]
  cases hb : fin with
  | false => exact va_put X.hx X.hb X.hts hin ty0 hty hnm X.hown X.hK X.hP X.hD X.hS (a - 6) ha hc j hkN (X.hts _ hlink) (mj_same hsame X.hts) (hfe.trans hb) ((hty j hkN).trans (by rw [hte])) (hnr ad) (hft ad) hlen hd fin'
  | true =>
    have hi : ini = true ∧ o = true := by
      rcases hfin with h | h
      · rw [h] at hb; cases hb
      · exact h
    exact va_putF X.hx X.hb X.hts hin ty0 hty hnm X.hown X.hK X.hP X.hD X.hS (a - 6) ha hc j hkN (X.hts _ hlink) (mj_same hsame X.hts) (hfe.trans hb) (X.2.1.2.2.1 hi.1) (hfo hi.2) ((hty j hkN).trans (by rw [hte])) (hnr ad) (hft ad) hlen hd fin'
theorem mj_ce_ne {dA : Nat → ClassId} {b : Nat} (hk : m_kd S' b = m_kd S b) (hl : m_ln S' b = m_ln S b) (h1 : ∀ j, m_gi S' b j = m_gi S b j) (h2 : ∀ j, m_gl S' b j = m_gl S b j) (h3 : ∀ j, m_gp S' b j = m_gp S b j) : mj_ce dA ad S' b = mj_ce dA ad S b := by
  have e1 : m_gi S' b = m_gi S b := funext h1
  have e2 : m_gl S' b = m_gl S b := funext h2
  have e3 : mj_fv ad S' b = mj_fv ad S b := by
    funext j
    unfold mj_fv
    rw [hk, h1, h2, h3]
  unfold mj_ce
  rw [hk, hl, e1, e2, e3]
  simp only [h3]
theorem mj_putI {index ci a j : Nat} {ty : FieldType} {fin o : Bool} {x : Int32} (hd : decode cc pc = .ok (.putfield index, 3)) (hf : mj_fl own index ci j ty fin o) (hk : m_kd S a = ci) (hfin : fin = false ∨ (ini = true ∧ o = true)) (ht : mj_ft ci j = 0) (hnr : narrow ty (.int x) = .int x) (hft : fits ty (.int x) = true) (kk : mj_V l G R own cc nL rt ini (pc + 3) ls st (m_si S a j x) k n Q) : mj_V l G R own cc nL rt ini pc ls (.int x :: .ref a :: st) S k n Q := by
  refine mj_put (S' := m_si S a j x) hd hf hk hfin (fun _ => hnr) (fun _ => hft) rfl (fun ad b hb => mj_ce_ne rfl rfl (fun i => if_neg (fun h => hb h.1)) (fun _ => rfl) (fun _ => rfl)) (fun ad => ?_) (fun ad i hi => ?_) (fun hw _ h6 hl => hw.si h6 hl) kk
  · unfold mj_fv
    rw [show m_kd (m_si S a j x) a = ci from hk, if_pos ht]
    show Value.int (if a = a ∧ j = j then x else _) = _
    rw [if_pos ⟨rfl, rfl⟩]; rfl
  · unfold mj_fv
    rw [show m_gi (m_si S a j x) a i = m_gi S a i from if_neg (fun h => hi h.2)]
    rfl
theorem mj_putL {index ci a j : Nat} {fin o : Bool} {x : Int64} (hd : decode cc pc = .ok (.putfield index, 3)) (hf : mj_fl own index ci j .long fin o) (hk : m_kd S a = ci) (hfin : fin = false ∨ (ini = true ∧ o = true)) (ht : mj_ft ci j = 1) (kk : mj_V l G R own cc nL rt ini (pc + 3) ls st (m_sl S a j x) k n Q) : mj_V l G R own cc nL rt ini pc ls (.long x :: .ref a :: st) S k n Q := by
  refine mj_put (S' := m_sl S a j x) hd hf hk hfin (fun _ => rfl) (fun _ => rfl) rfl (fun ad b hb => mj_ce_ne rfl rfl (fun _ => rfl) (fun i => if_neg (fun h => hb h.1)) (fun _ => rfl)) (fun ad => ?_) (fun ad i hi => ?_) (fun hw _ h6 hl => hw.sl hl) kk
  · unfold mj_fv
    rw [show m_kd (m_sl S a j x) a = ci from hk, if_neg (by omega), if_pos ht]
    show Value.long (if a = a ∧ j = j then x else _) = _
    rw [if_pos ⟨rfl, rfl⟩]; rfl
  · unfold mj_fv
    rw [show m_gl (m_sl S a j x) a i = m_gl S a i from if_neg (fun h => hi h.2)]
    rfl
theorem mj_putP {index ci a j t b : Nat} {ty : FieldType} {fin o : Bool} (hd : decode cc pc = .ok (.putfield index, 3)) (hf : mj_fl own index ci j ty fin o) (hk : m_kd S a = ci) (hfin : fin = false ∨ (ini = true ∧ o = true)) (ht : mj_ft ci j = t + 2) (hkb : m_kd S b = t) (hnr : ∀ q, narrow ty (.ref q) = .ref q) (hft : ∀ q, fits ty (.ref q) = true) (kk : mj_V l G R own cc nL rt ini (pc + 3) ls st (m_sp S a j (some b)) k n Q) : mj_V l G R own cc nL rt ini pc ls (.ref b :: .ref a :: st) S k n Q := by
  have hci : ci < 11 := by obtain ⟨_, _, _, _, _, _, _, _, _, _, _, h, _⟩ := hf; exact h
  refine mj_put (S' := m_sp S a j (some b)) hd hf hk hfin (fun ad => hnr (ad b)) (fun ad => hft (ad b)) rfl (fun ad b hb => mj_ce_ne rfl rfl (fun _ => rfl) (fun _ => rfl) (fun i => if_neg (fun h => hb h.1))) (fun ad => ?_) (fun ad i hi => ?_) (fun hw hv h6 hl => hw.sp hl hv (fun _ _ => by rw [hk, ht, hkb]) (fun h => by omega)) kk
  · unfold mj_fv
    rw [show m_kd (m_sp S a j (some b)) a = ci from hk, if_neg (by omega), if_neg (by omega)]
    show va_rf ((if a = a ∧ j = j then some b else _).map ad) = _
    rw [if_pos ⟨rfl, rfl⟩]; rfl
  · unfold mj_fv
    rw [show m_gp (m_sp S a j (some b)) a i = m_gp S a i from if_neg (fun h => hi h.2)]
    rfl
end MJ4
