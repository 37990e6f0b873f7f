/-! heap: arrays, tables, statics -/
section MJ5
variable {l : Launch} {G : mj_G} {R : Room} {own : String} {cc : ByteArray} {nL : Nat} {rt : Option FieldType} {ini : Bool} {pc : Nat} {ls ls' : List (Option Value)} {st : List Value} {S S' : mj_S} {k n : Nat} {Q : mj_Z}
variable {p : Program} {s : State} {m : MethodId} {args : Array Value} {meth : Method} {c : Code} {H H1 : Heap} {locs locs1 : List Loc} {A : Nat → Prop} {ad ad0 : Nat → Nat} {sh0 : List (Nat × Nat)} {rls rls' : Array Slot}
theorem mj_wf.arr {L : Nat} {xs : Nat → Int32} {a t : Nat} (h : mj_wf L xs S) (hk : m_kd S a = t) (h2 : t ≤ 103) : 6 ≤ a ∧ a < S.1.length := ⟨h.ge6 (by omega), m_kd_lt (by omega)⟩
theorem mj_wf.tab {L : Nat} {xs : Nat → Int32} {a : Nat} (h : mj_wf L xs S) (hk : 110 ≤ m_kd S a ∧ m_kd S a ≤ 111) : a < 6 ∧ m_kd S a = (mj_rs L a).1 ∧ m_ln S a = (mj_rs L a).2 ∧ ∀ j, m_gi S a j = mj_rc xs a j := by
  have h6 : a < 6 := by
    rcases Nat.lt_or_ge a 6 with q | q
    · exact q
    · have hl := m_kd_lt (S := S) (a := a) (by omega)
      rcases h.2.2.1 a q hl with ⟨h1, -⟩ | ⟨-, h1⟩ <;> omega
  have h1 := (h.2.1 a h6).1
  exact ⟨h6, by simp [m_kd, List.getD_eq_getElem?_getD, h1], by simp [m_ln, List.getD_eq_getElem?_getD, h1], (h.2.1 a h6).2⟩
theorem mj_ce_i {dA : Nat → ClassId} {a : Nat} (hk : m_kd S a = 100) : mj_ce dA ad S a = .inl (dA 0, m_ln S a, .inl (m_gi S a)) := by
  unfold mj_ce
  rw [if_neg (by omega), if_neg (by omega), if_neg (by omega), hk]
theorem mj_ce_z {dA : Nat → ClassId} {a : Nat} (hk : m_kd S a = 101) : mj_ce dA ad S a = .inl (dA 1, m_ln S a, .inl (m_gi S a)) := by
  unfold mj_ce
  rw [if_neg (by omega), if_neg (by omega), if_neg (by omega), hk]
theorem mj_ce_l {dA : Nat → ClassId} {a : Nat} (hk : m_kd S a = 102) : mj_ce dA ad S a = .inl (dA 2, m_ln S a, .inr (.inl (m_gl S a))) := by
  unfold mj_ce
  rw [if_neg (by omega), if_pos hk]
theorem mj_ce_q {dA : Nat → ClassId} {a : Nat} (hk : m_kd S a = 103) : mj_ce dA ad S a = .inl (dA 3, m_ln S a, .inr (.inr (.inr (.inr (fun j => (m_gp S a j).map ad))))) := by
  unfold mj_ce
  rw [if_neg (by omega), if_neg (by omega), if_pos hk]
theorem mj_X.tabT {a : Nat} (X : mj_X G own cc nL rt ini ls st S p s m args meth c H locs A ad ad0 sh0 rls) (hk : m_kd S a = 110) : va_T .int (ad a) (m_ln S a) (fun j => .int (m_gi S a j)) A s s.heap := by
  obtain ⟨h1, h2, h3, h4⟩ := X.hw.tab (a := a) (by omega)
  have h := X.hro.2 a h1
  rw [if_neg (by omega)] at h
  rw [h3]
  simp only [h4]
  exact h
theorem mj_X.tabC {a : Nat} (X : mj_X G own cc nL rt ini ls st S p s m args meth c H locs A ad ad0 sh0 rls) (hk : m_kd S a = 111) : va_T .char (ad a) (m_ln S a) (fun j => .int (m_gi S a j)) A s s.heap := by
  obtain ⟨h1, h2, h3, h4⟩ := X.hw.tab (a := a) (by omega)
  have h := X.hro.2 a h1
  rw [if_pos (by omega)] at h
  rw [h3]
  simp only [h4]
  exact h
theorem mj_iald {a : Nat} {i : Int32} (hd : decode cc pc = .ok (.iaload, 1)) (hk : m_kd S a = 100 ∨ m_kd S a = 110) (kk : vp_in i (m_ln S a) ∧ mj_V l G R own cc nL rt ini (pc + 1) ls (.int (m_gi S a i.toNatClampNeg) :: st) S k n Q) : mj_V l G R own cc nL rt ini pc ls (.int i :: .ref a :: st) S k n Q := by
  intro p e s m args below meth c H locs A ad ad0 sh0 rls X
  have K := kk.2 p e s m args below meth c H locs A ad ad0 sh0 rls (X.stk (mj_okc trivial (mj_okt (mj_okt X.hst))))
  rcases hk with hk | hk
  · obtain ⟨h6, hl⟩ := X.hw.arr hk (by omega)
    have ha := mj_at (dA := G.2.1) (ad := ad) h6 hl
    rw [mj_ce_i hk] at ha
    exact va_iald X.hx X.hb X.hK X.hP (a - 6) 0 ha rfl kk.1 hd K
  · exact va_ti X.hx X.hb (X.tabT hk) X.hS kk.1 rfl hd K
theorem mj_cald {a : Nat} {i : Int32} (hd : decode cc pc = .ok (.caload, 1)) (hk : m_kd S a = 111) (kk : vp_in i (m_ln S a) ∧ mj_V l G R own cc nL rt ini (pc + 1) ls (.int (m_gi S a i.toNatClampNeg) :: st) S k n Q) : mj_V l G R own cc nL rt ini pc ls (.int i :: .ref a :: st) S k n Q := by
  intro p e s m args below meth c H locs A ad ad0 sh0 rls X
  exact va_tc X.hx X.hb (X.tabC hk) X.hS kk.1 rfl hd (kk.2 p e s m args below meth c H locs A ad ad0 sh0 rls (X.stk (mj_okc trivial (mj_okt (mj_okt X.hst)))))
theorem mj_bald {a : Nat} {i : Int32} (hd : decode cc pc = .ok (.baload, 1)) (hk : m_kd S a = 101) (kk : vp_in i (m_ln S a) ∧ mj_V l G R own cc nL rt ini (pc + 1) ls (.int (m_gi S a i.toNatClampNeg) :: st) S k n Q) : mj_V l G R own cc nL rt ini pc ls (.int i :: .ref a :: st) S k n Q := by
  intro p e s m args below meth c H locs A ad ad0 sh0 rls X
  obtain ⟨h6, hl⟩ := X.hw.arr hk (by omega)
  have ha := mj_at (dA := G.2.1) (ad := ad) h6 hl
  rw [mj_ce_z hk] at ha
  exact va_zald X.hx X.hb X.hK X.hP (a - 6) 1 ha rfl kk.1 hd (kk.2 p e s m args below meth c H locs A ad ad0 sh0 rls (X.stk (mj_okc trivial (mj_okt (mj_okt X.hst)))))
theorem mj_lald {a : Nat} {i : Int32} (hd : decode cc pc = .ok (.laload, 1)) (hk : m_kd S a = 102) (kk : vp_in i (m_ln S a) ∧ mj_V l G R own cc nL rt ini (pc + 1) ls (.long (m_gl S a i.toNatClampNeg) :: st) S k n Q) : mj_V l G R own cc nL rt ini pc ls (.int i :: .ref a :: st) S k n Q := by
  intro p e s m args below meth c H locs A ad ad0 sh0 rls X
  obtain ⟨h6, hl⟩ := X.hw.arr hk (by omega)
  have ha := mj_at (dA := G.2.1) (ad := ad) h6 hl
  rw [mj_ce_l hk] at ha
  exact va_lald X.hx X.hb X.hK X.hP (a - 6) 2 ha rfl kk.1 hd (kk.2 p e s m args below meth c H locs A ad ad0 sh0 rls (X.stk (mj_okc trivial (mj_okt (mj_okt X.hst)))))
theorem mj_aald {a : Nat} {i : Int32} (hd : decode cc pc = .ok (.aaload, 1)) (hk : m_kd S a = 103) (kk : vp_in i (m_ln S a) ∧ ∃ b, m_gp S a i.toNatClampNeg = some b ∧ (m_kd S b = 100 → mj_V l G R own cc nL rt ini (pc + 1) ls (.ref b :: st) S k n Q)) : mj_V l G R own cc nL rt ini pc ls (.int i :: .ref a :: st) S k n Q := by
  obtain ⟨hin, b, hb, kk⟩ := kk
  intro p e s m args below meth c H locs A ad ad0 sh0 rls X
  obtain ⟨h6, hl⟩ := X.hw.arr hk (by omega)
  have ha := mj_at (dA := G.2.1) (ad := ad) h6 hl
  rw [mj_ce_q hk] at ha
  have hlt : i.toNatClampNeg < m_ln S a := Nat.not_le.mp fun q => hin (Or.inr q)
  have K := kk (X.hw.2.2.2.2.2.1 a _ b hk hb) p e s m args below meth c H locs A ad ad0 sh0 rls (X.stk (mj_okc (X.hw.2.2.2.1 a _ b hb) (mj_okt (mj_okt X.hst))))
  exact W.aald (v := .ref (ad b)) (ty := .array .int) X.hx X.hb (X.hP (a - 6) _ ha) ((X.hK.2 3 _ rfl).1 (m_ln S a) (fun j => va_rf ((m_gp S a j).map ad))) rfl (fun q => by cases q) (by show ¬ (i < 0 ∨ (arrV _ _ _).slots.size ≤ _); rw [arrV_size]; exact hin) (by show (arrV _ _ _).slots[_]? = _; rw [arrV_read _ _ hlt]; show some (va_rf ((m_gp S a i.toNatClampNeg).map ad)) = _; rw [hb]; rfl) rfl rfl hd K
theorem mj_iast {a : Nat} {i x : Int32} (hd : decode cc pc = .ok (.iastore, 1)) (hk : m_kd S a = 100) (kk : vp_in i (m_ln S a) ∧ mj_V l G R own cc nL rt ini (pc + 1) ls st (m_si S a i.toNatClampNeg x) k n Q) : mj_V l G R own cc nL rt ini pc ls (.int x :: .int i :: .ref a :: st) S k n Q := by
  intro p e s m args below meth c H locs A ad ad0 sh0 rls X
  obtain ⟨h6, hl⟩ := X.hw.arr hk (by omega)
  have ha := mj_at (dA := G.2.1) (ad := ad) h6 hl
  rw [mj_ce_i hk] at ha
  have hset : mj_ws G.2.1 ad (m_si S a i.toNatClampNeg x) = (mj_ws G.2.1 ad S).set (a - 6) (ad a, .inl (G.2.1 0, m_ln S a, .inl (upd (m_gi S a) i.toNatClampNeg x))) := by
    rw [mj_set h6 (S := S) (S' := m_si S a i.toNatClampNeg x) rfl (fun b hb => mj_ce_ne rfl rfl (fun j => if_neg (fun h => hb h.1)) (fun _ => rfl) (fun _ => rfl)), mj_ce_i (S := m_si S a i.toNatClampNeg x) hk]
    have e1 : m_gi (m_si S a i.toNatClampNeg x) a = upd (m_gi S a) i.toNatClampNeg x := by
      funext j
      show (if a = a ∧ j = i.toNatClampNeg then x else _) = if j = i.toNatClampNeg then x else _
      by_cases e : j = i.toNatClampNeg <;> simp [e, m_gi]
    rw [e1]
    rfl
  refine va_iast X.hx X.hb X.hK X.hP X.hD X.hS (a - 6) 0 ha rfl kk.1 hd (fun H1 locs1 h1 h2 h3 => ?_)
  rw [← hset] at h1 h2
  exact kk.2 p e s m args below meth c H1 locs1 A ad ad0 sh0 rls ((X.stk (mj_okt (mj_okt (mj_okt X.hst)))).mem rfl h1 h2 h3 (X.hw.si h6 hl))
theorem mj_bast {a : Nat} {i x : Int32} (hd : decode cc pc = .ok (.bastore, 1)) (hk : m_kd S a = 101) (kk : vp_in i (m_ln S a) ∧ mj_V l G R own cc nL rt ini (pc + 1) ls st (m_si S a i.toNatClampNeg (vp_nar .boolean x)) k n Q) : mj_V l G R own cc nL rt ini pc ls (.int x :: .int i :: .ref a :: st) S k n Q := by
  intro p e s m args below meth c H locs A ad ad0 sh0 rls X
  obtain ⟨h6, hl⟩ := X.hw.arr hk (by omega)
  have ha := mj_at (dA := G.2.1) (ad := ad) h6 hl
  rw [mj_ce_z hk] at ha
  have hset : mj_ws G.2.1 ad (m_si S a i.toNatClampNeg (vp_nar .boolean x)) = (mj_ws G.2.1 ad S).set (a - 6) (ad a, .inl (G.2.1 1, m_ln S a, .inl (upd (m_gi S a) i.toNatClampNeg (vp_nar .boolean x)))) := by
    rw [mj_set h6 (S := S) (S' := m_si S a i.toNatClampNeg (vp_nar .boolean x)) rfl (fun b hb => mj_ce_ne rfl rfl (fun j => if_neg (fun h => hb h.1)) (fun _ => rfl) (fun _ => rfl)), mj_ce_z (S := m_si S a i.toNatClampNeg (vp_nar .boolean x)) hk]
    have e1 : m_gi (m_si S a i.toNatClampNeg (vp_nar .boolean x)) a = upd (m_gi S a) i.toNatClampNeg (vp_nar .boolean x) := by
      funext j
      show (if a = a ∧ j = i.toNatClampNeg then _ else _) = if j = i.toNatClampNeg then _ else _
      by_cases e : j = i.toNatClampNeg <;> simp [e, m_gi]
    rw [e1]
    rfl
  refine va_zast X.hx X.hb X.hK X.hP X.hD X.hS (a - 6) 1 ha rfl kk.1 hd (fun H1 locs1 h1 h2 h3 => ?_)
  rw [← hset] at h1 h2
  exact kk.2 p e s m args below meth c H1 locs1 A ad ad0 sh0 rls ((X.stk (mj_okt (mj_okt (mj_okt X.hst)))).mem rfl h1 h2 h3 (X.hw.si h6 hl))
theorem mj_last {a : Nat} {i : Int32} {x : Int64} (hd : decode cc pc = .ok (.lastore, 1)) (hk : m_kd S a = 102) (kk : vp_in i (m_ln S a) ∧ mj_V l G R own cc nL rt ini (pc + 1) ls st (m_sl S a i.toNatClampNeg x) k n Q) : mj_V l G R own cc nL rt ini pc ls (.long x :: .int i :: .ref a :: st) S k n Q := by
  intro p e s m args below meth c H locs A ad ad0 sh0 rls X
  obtain ⟨h6, hl⟩ := X.hw.arr hk (by omega)
  have ha := mj_at (dA := G.2.1) (ad := ad) h6 hl
  rw [mj_ce_l hk] at ha
  have hset : mj_ws G.2.1 ad (m_sl S a i.toNatClampNeg x) = (mj_ws G.2.1 ad S).set (a - 6) (ad a, .inl (G.2.1 2, m_ln S a, .inr (.inl (vp_updL (m_gl S a) i.toNatClampNeg x)))) := by
    rw [mj_set h6 (S := S) (S' := m_sl S a i.toNatClampNeg x) rfl (fun b hb => mj_ce_ne rfl rfl (fun _ => rfl) (fun j => if_neg (fun h => hb h.1)) (fun _ => rfl)), mj_ce_l (S := m_sl S a i.toNatClampNeg x) hk]
    have e1 : m_gl (m_sl S a i.toNatClampNeg x) a = vp_updL (m_gl S a) i.toNatClampNeg x := by
      funext j
      show (if a = a ∧ j = i.toNatClampNeg then x else _) = if j = i.toNatClampNeg then x else _
      by_cases e : j = i.toNatClampNeg <;> simp [e, m_gl]
    rw [e1]
    rfl
  refine va_last X.hx X.hb X.hK X.hP X.hD X.hS (a - 6) 2 ha rfl kk.1 hd (fun H1 locs1 h1 h2 h3 => ?_)
  rw [← hset] at h1 h2
  exact kk.2 p e s m args below meth c H1 locs1 A ad ad0 sh0 rls ((X.stk (mj_okt (mj_okt (mj_okt X.hst)))).mem rfl h1 h2 h3 (X.hw.sl hl))
theorem mj_alen {a : Nat} (hd : decode cc pc = .ok (.arraylength, 1)) (hk : m_kd S a = 100 ∨ m_kd S a = 110) (kk : mj_V l G R own cc nL rt ini (pc + 1) ls (.int (Int32.ofNat (m_ln S a)) :: st) S k n Q) : mj_V l G R own cc nL rt ini pc ls (.ref a :: st) S k n Q := by
  intro p e s m args below meth c H locs A ad ad0 sh0 rls X
  have K := kk p e s m args below meth c H locs A ad ad0 sh0 rls (X.stk (mj_okc trivial (mj_okt X.hst)))
  rcases hk with hk | hk
  · obtain ⟨h6, hl⟩ := X.hw.arr hk (by omega)
    have ha := mj_at (dA := G.2.1) (ad := ad) h6 hl
    rw [mj_ce_i hk] at ha
    exact va_alen X.hx X.hb X.hK X.hP (a - 6) 0 ha (ty := .int) rfl rfl hd K
  · exact va_tlen X.hx X.hb (X.tabT hk) X.hS rfl hd K
/-- a static table -/
theorem mj_gets {index i t : Nat} {nm ds : String} (hd : decode cc pc = .ok (.getstatic index, 3)) (hi : i < 5) (hn : mj_ron i = (nm, ds)) (hlink : Cond.fieldLinkNest own index "VelvetStates" nm ds "VelvetStates" ∈ mj_N) (ht : ∀ L, (mj_rs L i).1 = t) (kk : m_kd S i = t → m_ln S i = (mj_rs 0 i).2 → mj_V l G R own cc nL rt ini (pc + 3) ls (.ref i :: st) S k n Q) : mj_V l G R own cc nL rt ini pc ls st S k n Q := by
  intro p e s m args below meth c H locs A ad ad0 sh0 rls X
  have h1 := (X.hw.2.1 i (by omega)).1
  have hk : m_kd S i = t := by rw [← ht G.2.2.1]; simp [m_kd, List.getD_eq_getElem?_getD, h1]
  have hln : m_ln S i = (mj_rs 0 i).2 := by
    have : m_ln S i = (mj_rs G.2.2.1 i).2 := by simp [m_ln, List.getD_eq_getElem?_getD, h1]
    rw [this]
    rcases (show i = 0 ∨ i = 1 ∨ i = 2 ∨ i = 3 ∨ i = 4 by omega) with rfl | rfl | rfl | rfl | rfl <;> rfl
  have hl : i < S.1.length := by have := X.hw.1; omega
  have hZ := X.hro.1 i hi
  rw [hn] at hZ
  exact va_getsN X.hx X.hb hZ X.hS X.hown (va_Nw.use rfl (X.hN _ hlink)) (fun _ h => h) hd (kk hk hln p e s m args below meth c H locs A ad ad0 sh0 rls (X.stk (mj_okc hl X.hst)))
end MJ5
