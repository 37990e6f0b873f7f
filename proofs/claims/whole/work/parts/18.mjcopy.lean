/-! System.arraycopy -/
theorem mj_ac1 : Cond.native arraycopyName ∈ mj_T := mj_in 576 (by decide +kernel) (by decide +kernel)
theorem mj_ac2 : Cond.static arraycopyName ∈ mj_T := mj_in 575 (by decide +kernel) (by decide +kernel)
theorem mj_ac3 : Cond.initialized "java/lang/System" ∈ mj_T := mj_in 139 (by decide +kernel) (by decide +kernel)
theorem mj_acw : nativeFrameWords "java/lang/System" "arraycopy" 5 ≤ 40 := by decide +kernel
section MJ10
variable {p : Program} {l : Launch} {e : Env} {R : Room} {s : State} {m : MethodId} {args : Array Value} {below : List Frame} {meth : Method} {c : Code} {H : Heap} {locs : List Loc} {cells slots : Nat} {Qz : State → Prop} {D : va_G} {cl : List vw_C} {ws : va_W} {A : Nat → Prop} {tys : List (ClassId × FieldType)} {rls : Array Slot} {rest : List Value} {a : Nat} {cc : ByteArray} {pc : Nat}
/-- out of a table that nobody writes -/
theorem mj_copyT (hx : p.tables.exec = Jvm.exec) (hb : c.code = cc) (hml : c.maxLocals = rls.size) {own : String} {index : Nat} (hown : s.vm.findClass own = some m.cls) (hlink : (Cond.methodLink own index arraycopyName).before args s = true) (hnat : (Cond.native arraycopyName).before args s = true) (hstat : (Cond.static arraycopyName).before args s = true) (hini : (Cond.initialized "java/lang/System").before args s = true)
    (hK : va_K D cl tys s) (hP : va_P D cl ws H) (hD : va_D A ws) (hS : va_S A s.heap H locs) {b0 sz : Nat} {f : Nat → Int32} (hX : va_T .int b0 sz (fun j => .int (f j)) A s s.heap) (q1 t1 : Nat) {c1 : ClassId} {n1 : Nat} {g : Nat → Int32} (ha1 : ws[q1]? = some (a, .inl (c1, n1, .inl g))) (ht1 : tys[t1]? = some (c1, .int))
    {sp dp n : Int32} (h1 : ¬ sp < 0) (h2 : ¬ dp < 0) (h3 : ¬ n < 0) (h4 : sp.toNatClampNeg + n.toNatClampNeg ≤ sz) (h5 : dp.toNatClampNeg + n.toNatClampNeg ≤ n1)
    (hframes : 1 ≤ R.frames) (hlocals : (rest.map fun v => v.category).sum + (nativeFrameWords "java/lang/System" "arraycopy" 5 + 11) ≤ R.locals) (hdg : decode cc pc = .ok (.invokestatic index, 3))
    (kk : ∀ (H1 : Heap) (locs1 : List Loc), va_P D cl (ws.set q1 (a, .inl (c1, n1, .inl (va_cpy f g sp.toNatClampNeg dp.toNatClampNeg n.toNatClampNeg)))) H1 → va_D A (ws.set q1 (a, .inl (c1, n1, .inl (va_cpy f g sp.toNatClampNeg dp.toNatClampNeg n.toNatClampNeg)))) → va_S A s.heap H1 locs1 → W p l e R s m args below meth c H1 locs1 cells slots Qz (F0 m (pc + 3) rls rest)) : W p l e R s m args below meth c H locs cells slots Qz (F0 m pc rls (.int n :: .int dp :: .ref a :: .int sp :: .ref b0 :: rest)) := by
  have pos : ∀ z : Int32, ¬ z < 0 → z.toInt = (z.toNatClampNeg : Int) := by
    intro z hz
    have h0 : (0 : Int) ≤ z.toInt := by simpa using Int32.le_iff_toInt_le.mp (Int32.not_lt.mp hz)
    exact (Int.toNat_of_nonneg h0).symm
  obtain ⟨tab, w1, ⟨w2, kS, w3, cS, w4⟩, w5, w6, -, w7, w8⟩ := hX
  have src : H[b0]? = some tab := by rw [hS.2.1 b0 (Array.getElem?_eq_some_iff.mp w1).1 w8]; exact w1
  have dst : H[a]? = some (vp_cell c1 (n1, .inl g)) := hP q1 _ ha1
  have hlt : a < H.size := (Array.getElem?_eq_some_iff.mp dst).1
  obtain ⟨-, kD, d1, cD, d2⟩ := (hK.2 t1 _ ht1).1 n1 (fun j => .int (g j))
  intro T hT X
  obtain ⟨vm', X', step⟩ := X.arraycopy hx hown hlink hnat hstat hini (src := b0) (dst := a) (cs := tab) (cd := vp_cell c1 (n1, .inl g)) (srcPos := sp) (destPos := dp) (n := n) (by rw [hT]; exact src) (by rw [hT]; exact dst)
    w2 (fun _ h => by cases h) w5 (fun h => by cases h) w3 d1 w4 d2 (by simp [refKind]) h1 h2 h3
    (by rw [pos sp h1, pos n h3]; omega)
    (by rw [pos dp h2, pos n h3]; show ¬ _ > ((arrV c1 n1 (fun j => .int (g j))).slots.size : Int); rw [arrV_size]; omega)
    (fun _ _ i hi => by
      have q : tab.slots.getD (sp.toNatClampNeg + i) .null = .int (f (sp.toNatClampNeg + i)) := by
        rw [Array.getD_eq_getD_getElem?, w7 _ (by omega)]
        rfl
      exact ⟨by rw [q]; rfl, by rw [q]; exact trivial⟩)
    (g := F0 m pc rls (.int n :: .int dp :: .ref a :: .int sp :: .ref b0 :: rest)) rfl (by rw [hml]) (rest := rest) rfl (by rw [hb]; exact hdg) hframes (by show 2 * 0 + _ + _ ≤ _; omega)
  have new : copied tab (vp_cell c1 (n1, .inl g)) sp dp n = vp_cell c1 (n1, .inl (va_cpy f g sp.toNatClampNeg dp.toNatClampNeg n.toNatClampNeg)) := va_copiedX (fun z => .int z) tab c1 f g w7 h4
  rw [new] at X' step
  generalize hz : vp_cell c1 (n1, .inl (va_cpy f g sp.toNatClampNeg dp.toNatClampNeg n.toNatClampNeg)) = nc at X' step new
  have heap1 : ((T.setVm vm').setCell a nc).heap = H.setIfInBounds a nc := by rw [← hT]; rfl
  have off : ∀ q : Nat, q ≠ a → (H.setIfInBounds a nc)[q]? = H[q]? := fun q hq => by simp [Array.getElem?_setIfInBounds, Ne.symm hq]
  have at1 : (H.setIfInBounds a nc)[a]? = some (vp_cell c1 (n1, .inl (va_cpy f g sp.toNatClampNeg dp.toNatClampNeg n.toNatClampNeg))) := by rw [hz]; simp [Array.getElem?_setIfInBounds, hlt]
  obtain ⟨t, a1, b1⟩ := kk _ _ (hP.set hD ha1 at1 off) (hD.set ha1) ⟨by simp; exact hS.1, fun q g1 g2 => (off q (fun z => g2 (by rw [z]; exact hD.2 q1 _ ha1))).trans (hS.2.1 q g1 g2), fun q hq => by
      rcases List.mem_append.mp hq with h | h
      · exact hS.2.2 q h
      · obtain ⟨z, -, hz⟩ := List.mem_map.mp h
        rw [← hz]
        exact hD.2 q1 _ ha1⟩ _ heap1 X'
  exact ⟨t, step t a1, b1⟩
end MJ10
section MJ11
variable {l : Launch} {G : mj_G} {own : String} {cc : ByteArray} {nL : Nat} {rt : Option FieldType} {ini : Bool} {pc : Nat} {ls : List (Option Value)} {st : List Value} {S : mj_S} {k n d K N : Nat} {Q : mj_Z}
theorem mj_copy {index sa da : Nat} {sp dp z : Int32} (hd : decode cc pc = .ok (.invokestatic index, 3)) (hl : Cond.methodLink own index arraycopyName ∈ mj_T) (hs : m_kd S sa = 100 ∨ m_kd S sa = 110) (hda : m_kd S da = 100) (h : ¬ sp < 0 ∧ ¬ dp < 0 ∧ ¬ z < 0 ∧ sp.toNatClampNeg + z.toNatClampNeg ≤ m_ln S sa ∧ dp.toNatClampNeg + z.toNatClampNeg ≤ m_ln S da) (hdd : 1 ≤ d) (hst : (st.map fun v => v.category).sum ≤ 8) (kk : mj_V l G (mj_room d K N) own cc nL rt ini (pc + 3) ls st (m_row S da (va_cpy (m_gi S sa) (m_gi S da) sp.toNatClampNeg dp.toNatClampNeg z.toNatClampNeg)) k n Q) : mj_V l G (mj_room d K N) own cc nL rt ini pc ls (.int z :: .int dp :: .ref da :: .int sp :: .ref sa :: st) S k n Q := by
  intro p e s m args below meth c H locs A ad ad0 sh0 rls X
  obtain ⟨h1, h2, h3, h4, h5⟩ := h
  obtain ⟨h6, hlen⟩ := X.hw.arr hda (by omega)
  have ha := mj_at (dA := G.2.1) (ad := ad) h6 hlen
  rw [mj_ce_i hda] at ha
  generalize hf : va_cpy (m_gi S sa) (m_gi S da) sp.toNatClampNeg dp.toNatClampNeg z.toNatClampNeg = f at kk
  have hset : mj_ws G.2.1 ad (m_row S da f) = (mj_ws G.2.1 ad S).set (da - 6) (ad da, .inl (G.2.1 0, m_ln S da, .inl f)) := by
    have e1 : m_gi (m_row S da f) da = f := by
      funext j
      show (if da = da then f else _) j = f j
      rw [if_pos rfl]
    rw [mj_set h6 (S := S) (S' := m_row S da f) rfl (fun b hb => mj_ce_ne rfl rfl (fun j => by show (if b = da then f else S.2.1 b) j = S.2.1 b j; rw [if_neg hb]) (fun _ => rfl) (fun _ => rfl)), mj_ce_i (S := m_row S da f) hda, e1]
    rfl
  have hw := mj_acw
  have hlo : ((st.map (mj_cv ad)).map fun v => v.category).sum + (nativeFrameWords "java/lang/System" "arraycopy" 5 + 11) ≤ (mj_room d K N).locals := by
    show _ ≤ 64 * d
    rw [List.map_map, show ((fun v : Value => v.category) ∘ mj_cv ad) = (fun v : Value => v.category) from funext fun v => mj_cvc ad v]
    omega
  have fin : ∀ (H1 : Heap) (locs1 : List Loc), va_P G.1 vwCl ((mj_ws G.2.1 ad S).set (da - 6) (ad da, .inl (G.2.1 0, m_ln S da, .inl f))) H1 → va_D A ((mj_ws G.2.1 ad S).set (da - 6) (ad da, .inl (G.2.1 0, m_ln S da, .inl f))) → va_S A s.heap H1 locs1 → W p l e (mj_room d K N) s m args below meth c H1 locs1 k n (Q below args s A ad0 sh0) (F0 m (pc + 3) rls (st.map (mj_cv ad))) := by
    intro H1 locs1 q1 q2 q3
    rw [← hset] at q1 q2
    exact kk p e s m args below meth c H1 locs1 A ad ad0 sh0 rls ((X.stk (mj_okt (mj_okt (mj_okt (mj_okt (mj_okt X.hst)))))).mem rfl q1 q2 q3 (X.hw.row h6 hlen))
  subst hf
  rcases hs with hs | hs
  · obtain ⟨g6, glen⟩ := X.hw.arr hs (by omega)
    have hb := mj_at (dA := G.2.1) (ad := ad) g6 glen
    rw [mj_ce_i hs] at hb
    exact va_copyi X.hx X.hb (X.hml.trans X.hsz.symm) X.hown (X.hts _ hl) (X.hts _ mj_ac1) (X.hts _ mj_ac2) (X.hts _ mj_ac3) X.hK X.hP X.hD X.hS (sa - 6) (da - 6) 0 0 hb ha (ty := .int) rfl rfl rfl h1 h2 h3 h4 h5 (fun _ _ => rfl) hdd hlo hd fin
  · exact mj_copyT X.hx X.hb (X.hml.trans X.hsz.symm) X.hown (X.hts _ hl) (X.hts _ mj_ac1) (X.hts _ mj_ac2) (X.hts _ mj_ac3) X.hK X.hP X.hD X.hS (X.tabT hs) (da - 6) 0 ha rfl h1 h2 h3 h4 h5 hdd hlo hd fin
end MJ11
