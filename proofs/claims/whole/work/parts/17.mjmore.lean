/-! fewer locals by a mask; inherited methods; System.arraycopy -/
def mj_mask : List Bool → List (Option Value) → List (Option Value)
  | true :: bs, v :: ls => v :: mj_mask bs ls
  | false :: bs, _ :: ls => none :: mj_mask bs ls
  | _, _ => []
theorem mj_mask_in : ∀ (bs : List Bool) (ls : List (Option Value)) (i : Nat) (v : Value), (mj_mask bs ls)[i]? = some (some v) → ls[i]? = some (some v)
  | [], ls, i, v, h => by simp [mj_mask] at h
  | b :: bs, [], i, v, h => by cases b <;> simp [mj_mask] at h
  | true :: bs, w :: ls, 0, v, h => by simpa [mj_mask] using h
  | true :: bs, w :: ls, i + 1, v, h => by
    simp only [mj_mask, List.getElem?_cons_succ] at h ⊢
    exact mj_mask_in bs ls i v h
  | false :: bs, w :: ls, 0, v, h => by simp [mj_mask] at h
  | false :: bs, w :: ls, i + 1, v, h => by
    simp only [mj_mask, List.getElem?_cons_succ] at h ⊢
    exact mj_mask_in bs ls i v h
section MJ9
variable {l : Launch} {G : mj_G} {R : Room} {own : String} {cc : ByteArray} {nL : Nat} {rt : Option FieldType} {ini : Bool} {pc : Nat} {ls ls' : List (Option Value)} {st : List Value} {S : mj_S} {k n : Nat} {Q : mj_Z} {Qj : mj_S → Int32 → Prop} {Qw : mj_S → Prop}
theorem mj_lessm (bs : List Bool) (hl : mj_mask bs ls = ls') (kk : mj_V l G R own cc nL rt ini pc ls' st S k n Q) : mj_V l G R own cc nL rt ini pc ls st S k n Q := mj_less (fun i v h => mj_mask_in bs ls i v (by rw [hl]; exact h)) kk
/-- an inherited method -/
theorem mj_callU {index d2 mc ms nL2 np d K N ci a N2 : Nat} {T : u_T} {x y : MethodName} {C : String} {b : ByteArray} {rt2 : Option FieldType} {as : List Value} {Q2 : mj_S → Option Value → Prop} (hd : decode cc pc = .ok (.invokevirtual index, 3)) (hc : mj_cal y b nL2 rt2 np) (hl : Cond.methodLink own index x ∈ mj_T) (hsa : Cond.sameMethod x.cls y.cls x.name x.desc ∈ mj_T) (hse : Cond.selects C x y ∈ mj_T) (hi : Cond.instanceMethod y ∈ mj_T) (hyx : y = ⟨y.cls, x.name, x.desc⟩) (hcl : vwCl[ci]? = some (C, T, N2)) (hci : ci < 11) (hk : m_kd S a = ci) (hM : mj_M l G y b nL2 rt2 d2 mc ms (.ref a :: as) S Q2) (hnp : as.length = np) (hst : (st.map fun v => v.category).sum ≤ 8) (hdd : d2 + 1 ≤ d) (hck : k + mc ≤ K ∧ n + ms ≤ N)
    (kk : ∀ (S' : mj_S) (v : Option Value), Q2 S' v → mj_nr rt2 v → S.1 <+: S'.1 → mj_V l G (mj_room d K N) own cc nL rt ini (pc + 3) ls (v.toList ++ st) S' (k + mc) (n + ms) Q) : mj_V l G (mj_room d K N) own cc nL rt ini pc ls (as.reverse ++ .ref a :: st) S k n Q := by
  intro p e s m args below meth c H locs A ad ad0 sh0 rls X
  have hoks : ∀ v ∈ (.ref a :: as : List Value), mj_ok S v := fun v hv => by
    rcases List.mem_cons.mp hv with q | q
    · rw [q]; exact X.hst _ (List.mem_append_right _ List.mem_cons_self)
    · exact X.hst v (List.mem_append_left _ (List.mem_reverse.mpr q))
  have hdx : y.desc = x.desc := by rw [hyx]
  refine mj_goon (a := ((.ref a :: as : List Value).map (mj_cv ad)).toArray) X (fun v hv => X.hst v (List.mem_append_right _ (List.mem_cons_of_mem _ hv))) (va_runU (owner := y.cls) (x := x) (As := as.map (mj_cv ad)) (rest := st.map (mj_cv ad)) (b := ad a) (mj_fix X) (hM hoks ad H.size) (va_cwU np X.hts (by unfold va_wsU; exact mj_gw hc (mj_l5 hl hsa hse hi hc.2.1)) rfl rfl rfl hyx ⟨hc.2.2.1.1, hc.2.2.1.2.1, by rw [← hdx]; exact hc.2.2.1.2.2⟩ (mj_rmo hdd hc.2.2.2)) ⟨mj_blind, mj_recv X hcl hci hk, X.pre (.ref a :: as)⟩ rfl (by simpa using hnp) X.hsz (by simp [mj_cv]) ?_ hd ⟨hck.1, hck.2⟩) kk
  show 2 * 0 + _ ≤ 8
  rw [List.map_map, show ((fun v : Value => v.category) ∘ mj_cv ad) = (fun v : Value => v.category) from funext fun v => mj_cvc ad v]
  omega
theorem mj_callUi {index d2 mc ms nL2 np d K N ci a N2 : Nat} {T : u_T} {x y : MethodName} {C : String} {b : ByteArray} {rt2 : Option FieldType} {as : List Value} (hd : decode cc pc = .ok (.invokevirtual index, 3)) (hc : mj_cal y b nL2 rt2 np) (hl : Cond.methodLink own index x ∈ mj_T) (hsa : Cond.sameMethod x.cls y.cls x.name x.desc ∈ mj_T) (hse : Cond.selects C x y ∈ mj_T) (hi : Cond.instanceMethod y ∈ mj_T) (hyx : y = ⟨y.cls, x.name, x.desc⟩) (hcl : vwCl[ci]? = some (C, T, N2)) (hci : ci < 11) (hk : m_kd S a = ci) (hM : mj_M l G y b nL2 rt2 d2 mc ms (.ref a :: as) S (mj_qi Qj)) (hnp : as.length = np) (hst : (st.map fun v => v.category).sum ≤ 8) (hdd : d2 + 1 ≤ d) (hck : k + mc ≤ K ∧ n + ms ≤ N)
    (kk : ∀ (S' : mj_S) (r : Int32), Qj S' r → mj_nr rt2 (some (.int r)) → S.1 <+: S'.1 → mj_V l G (mj_room d K N) own cc nL rt ini (pc + 3) ls (.int r :: st) S' (k + mc) (n + ms) Q) : mj_V l G (mj_room d K N) own cc nL rt ini pc ls (as.reverse ++ .ref a :: st) S k n Q := mj_callU hd hc hl hsa hse hi hyx hcl hci hk hM hnp hst hdd hck (mj_ki kk)
theorem mj_callUv {index d2 mc ms nL2 np d K N ci a N2 : Nat} {T : u_T} {x y : MethodName} {C : String} {b : ByteArray} {rt2 : Option FieldType} {as : List Value} (hd : decode cc pc = .ok (.invokevirtual index, 3)) (hc : mj_cal y b nL2 rt2 np) (hl : Cond.methodLink own index x ∈ mj_T) (hsa : Cond.sameMethod x.cls y.cls x.name x.desc ∈ mj_T) (hse : Cond.selects C x y ∈ mj_T) (hi : Cond.instanceMethod y ∈ mj_T) (hyx : y = ⟨y.cls, x.name, x.desc⟩) (hcl : vwCl[ci]? = some (C, T, N2)) (hci : ci < 11) (hk : m_kd S a = ci) (hM : mj_M l G y b nL2 rt2 d2 mc ms (.ref a :: as) S (mj_qv Qw)) (hnp : as.length = np) (hst : (st.map fun v => v.category).sum ≤ 8) (hdd : d2 + 1 ≤ d) (hck : k + mc ≤ K ∧ n + ms ≤ N)
    (kk : ∀ (S' : mj_S), Qw S' → S.1 <+: S'.1 → mj_V l G (mj_room d K N) own cc nL rt ini (pc + 3) ls st S' (k + mc) (n + ms) Q) : mj_V l G (mj_room d K N) own cc nL rt ini pc ls (as.reverse ++ .ref a :: st) S k n Q := mj_callU hd hc hl hsa hse hi hyx hcl hci hk hM hnp hst hdd hck (mj_kv kk)
/-- an inherited static method -/
theorem mj_callSU {index d2 mc ms nL2 np d K N : Nat} {x y : MethodName} {b : ByteArray} {rt2 : Option FieldType} {as : List Value} {Q2 : mj_S → Option Value → Prop} (hd : decode cc pc = .ok (.invokestatic index, 3)) (hc : mj_cal y b nL2 rt2 np) (hl : Cond.methodLink own index x ∈ mj_T) (hs : Cond.static y ∈ mj_T) (hsa : Cond.sameMethod x.cls y.cls x.name x.desc ∈ mj_T) (hyx : y = ⟨y.cls, x.name, x.desc⟩) (hM : mj_M l G y b nL2 rt2 d2 mc ms as S Q2) (hnp : as.length = np) (hst : (st.map fun v => v.category).sum ≤ 8) (hdd : d2 + 1 ≤ d) (hck : k + mc ≤ K ∧ n + ms ≤ N)
    (kk : ∀ (S' : mj_S) (v : Option Value), Q2 S' v → mj_nr rt2 v → S.1 <+: S'.1 → mj_V l G (mj_room d K N) own cc nL rt ini (pc + 3) ls (v.toList ++ st) S' (k + mc) (n + ms) Q) : mj_V l G (mj_room d K N) own cc nL rt ini pc ls (as.reverse ++ st) S k n Q := by
  intro p e s m args below meth c H locs A ad ad0 sh0 rls X
  have hoks : ∀ v ∈ as, mj_ok S v := fun v hv => X.hst v (List.mem_append_left _ (List.mem_reverse.mpr hv))
  refine mj_goon (a := (as.map (mj_cv ad)).toArray) X (fun v hv => X.hst v (List.mem_append_right _ hv)) ?_ kk
  have hM' := hM hoks ad H.size
  have hdx : y.desc = x.desc := by rw [hyx]
  have hlo := mj_rmo (mc := mc) (ms := ms) (k := K) (n := N) hdd hc.2.2.2
  have hK0 : Back l (mj_room d K N) p e below s args y 3 8 (PreOf (mj_room d K N) mc ms (mj_Pc G as S ad H.size)) (PostOf (mj_Qc G rt2 Q2 ad S.1 (va_A (mj_ws G.2.1 ad S) H.size)) mc ms (va_A (mj_ws G.2.1 ad S) H.size)) := back_of (l := l) (R := mj_room d K N) (p := p) (e := e) (below := below) (s := s) (sargs := args) (len := 3) (W := 8) (bytes := b) (maxL := nL2) (ret := rt2) hM' mj_blind rfl rfl hlo.1 hlo.2 (pay_in X.hts (mj_good hc.1)) List.mem_cons_self (fun a' U hW => word_at hW (Or.inl (by first | rfl | simp [Cond.onTables, Cond.keeps, Cond.steady])) (X.hts _ hc.2.1))
  have hK : Back l (mj_room d K N) p e below s args ⟨y.cls, x.name, x.desc⟩ 3 8 (PreOf (mj_room d K N) mc ms (mj_Pc G as S ad H.size)) (PostOf (mj_Qc G rt2 Q2 ad S.1 (va_A (mj_ws G.2.1 ad S) H.size)) mc ms (va_A (mj_ws G.2.1 ad S) H.size)) := by
    rw [← hyx]; exact hK0
  intro T hT XX
  obtain ⟨mk, hnamed⟩ := Cond.code_named (X.hts _ hc.1)
  obtain ⟨methM, cM, hmethM, -, -, -, -, -, -, hsigM⟩ := Cond.code_spec hnamed (X.hts _ hc.1)
  have hnamed' : s.methodNamed? ⟨y.cls, x.name, x.desc⟩ = some mk := by rw [← hyx]; exact hnamed
  have hsW : 2 * (F0 m pc rls ((as.reverse ++ st).map (mj_cv ad))).monitorRoom + ((st.map (mj_cv ad)).map fun v => v.category).sum ≤ 8 := by
    show 2 * 0 + _ ≤ 8
    rw [List.map_map, show ((fun v : Value => v.category) ∘ mj_cv ad) = (fun v : Value => v.category) from funext fun v => mj_cvc ad v]
    omega
  obtain ⟨v, vm₁, ⟨U', l2, c2, s2⟩, hW₁, X', ⟨g', mk', t, L, e1, e2, hq, h1, hL, h2, h3⟩, stp⟩ := XX.staticBackUp X.hx X.hown (X.hts _ hl) (X.hts _ hsa) (by rw [← hyx]; exact X.hts _ hs) (X.hts _ hc.2.1) hnamed' hmethM (by rw [← hdx]; exact hsigM) ⟨hc.2.2.1.1, hc.2.2.1.2.1⟩ hK (g := F0 m pc rls ((as.reverse ++ st).map (mj_cv ad))) rfl (X.hsz.trans X.hml.symm) (Steps.refl _) (argsL := as.map (mj_cv ad)) (rest := st.map (mj_cv ad)) (fun sig h => by
      have h2 := hc.2.2.1.2.2
      rw [hdx, h] at h2
      have h3 : sig.parameters.length = np := Option.some.inj h2
      simp only [List.length_map]
      omega) (by simp) hsW (by rw [X.hb]; exact hd) (fun vm₁ hW₁ => ⟨hck.1, hck.2, X.pre as (T.setVm vm₁) hT hW₁⟩)
  dsimp only [Pt.U, Pt.locs, Pt.cells, Pt.slots] at X' e1 e2 h1 h2 h3 stp
  subst h1; subst h2; subst h3
  exact ⟨v, (T.setVm vm₁).calling g' mk' (as.map (mj_cv ad)).toArray, t, U', L, hT, X', hL, e1, e2, hq, fun target h => stp.trans h⟩
theorem mj_callSUi {index d2 mc ms nL2 np d K N : Nat} {x y : MethodName} {b : ByteArray} {rt2 : Option FieldType} {as : List Value} (hd : decode cc pc = .ok (.invokestatic index, 3)) (hc : mj_cal y b nL2 rt2 np) (hl : Cond.methodLink own index x ∈ mj_T) (hs : Cond.static y ∈ mj_T) (hsa : Cond.sameMethod x.cls y.cls x.name x.desc ∈ mj_T) (hyx : y = ⟨y.cls, x.name, x.desc⟩) (hM : mj_M l G y b nL2 rt2 d2 mc ms as S (mj_qi Qj)) (hnp : as.length = np) (hst : (st.map fun v => v.category).sum ≤ 8) (hdd : d2 + 1 ≤ d) (hck : k + mc ≤ K ∧ n + ms ≤ N)
    (kk : ∀ (S' : mj_S) (r : Int32), Qj S' r → mj_nr rt2 (some (.int r)) → S.1 <+: S'.1 → mj_V l G (mj_room d K N) own cc nL rt ini (pc + 3) ls (.int r :: st) S' (k + mc) (n + ms) Q) : mj_V l G (mj_room d K N) own cc nL rt ini pc ls (as.reverse ++ st) S k n Q := mj_callSU hd hc hl hs hsa hyx hM hnp hst hdd hck (mj_ki kk)
end MJ9
