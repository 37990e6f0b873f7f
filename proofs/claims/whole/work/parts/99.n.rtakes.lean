/-! what a curtain takes by a law: the reference -/
theorem eq64 {a b : Int} (ha : bdv a) (hb : bdv b) : lg_cmp (vI a).toInt64 (vI b).toInt64 = 0 ↔ a = b := by
  rw [lg_cmp_eq, ← Int64.toInt_inj, vI_64 ha, vI_64 hb]
theorem e064 {a : Int} (ha : bdv a) : lg_cmp (vI a).toInt64 (0 : Int64) = 0 ↔ a = 0 := eq64 (b := 0) ha (by unfold bdv; omega)
theorem ge64 {a b : Int} (ha : bdv a) (hb : bdv b) : 0 ≤ lg_cmp (vI a).toInt64 (vI b).toInt64 ↔ b ≤ a := by
  rw [lg_cmp_ge, Int64.le_iff_toInt_le, vI_64 ha, vI_64 hb]
theorem le64 {a b : Int} (ha : bdv a) (hb : bdv b) : lg_cmp (vI a).toInt64 (vI b).toInt64 ≤ 0 ↔ a ≤ b := by
  rw [lg_cmp_le, Int64.le_iff_toInt_le, vI_64 ha, vI_64 hb]
def D99 (a _j : Nat) : Bool := Nat.beq a 99
theorem D99_f {a j : Nat} (h : a ≠ 99) : D99 a j = false := by
  unfold D99; rw [← Bool.not_eq_true, Nat.beq_eq]; exact h
theorem D99_DRL {S S' : mj_S} (f : fr D99 S S') : fr DRL S S' := f.wid (fun a j h => D99_f (fun e => by
  unfold DRL at h
  rw [e] at h; cases h))
section RTK
variable {l : Launch} {G : mj_G} {L : Nat} {S : mj_S} {Q : mj_S → Int32 → Prop}
theorem r_w144 {a b : Int} (ha : bdv a) (hb : bdv b) (h : Q S (vI (if a ≠ 0 ∨ b ≠ 0 then 1 else 0))) : V_X11_worked_144 l G (vI a).toInt64 (vI b).toInt64 S Q := by
  refine b_X11_worked_144 ?_
  rw [e064 ha, e064 hb]
  refine ⟨fun z => ?_, fun z => ⟨fun y => ?_, fun y => ?_⟩⟩
  · rw [if_pos (Or.inl z)] at h; exact h
  · rw [if_neg (fun q => q.elim (fun q => q z) (fun q => q y))] at h; exact h
  · rw [if_pos (Or.inr y)] at h; exact h
theorem r_worked {c : Nat} {a b : Int} (hc : 2 ≤ c ∧ c ≤ 11 ∧ c ≠ 9) (ha : bdv a) (hb : bdv b) (h : Q S (vI (opv c a b))) : M_X11_worked l G (nI c) (vI a).toInt64 (vI b).toInt64 S Q := by
  have ct : (nI c).toInt = (c : Int) := nI_toInt (by omega)
  refine e_X11_worked (b_X11_worked_0 ?_)
  rw [ct]
  refine ⟨fun z => ?_, fun z => ?_, fun z => ?_, fun z => ?_, fun z => ?_, fun z => ?_, fun z => ?_, fun z => ?_, fun z => ?_, fun z => ?_⟩
  · have e : c = 11 := by omega
    subst e
    exact r_w144 ha hb h
  · have e : c = 2 := by omega
    subst e
    exact s_bounded (add64 ha hb) h
  · have e : c = 3 := by omega
    subst e
    exact s_bounded (sub64 ha hb) h
  · have e : c = 4 := by omega
    subst e
    exact s_bounded (mul64 ha hb) h
  · have e : c = 5 := by omega
    subst e
    have h' : Q S (vI (if b = 0 then 0 else clp (Int.tdiv a b))) := h
    rw [e064 hb]
    refine ⟨fun y => ⟨fun q => y ?_, ?_⟩, fun y => ?_⟩
    · exact (e064 hb).mp (by rw [q]; decide)
    · rw [if_neg y] at h'
      exact s_bounded (div64 ha hb) h'
    · rw [if_pos y] at h'; exact h'
  · have e : c = 6 := by omega
    subst e
    have h' : Q S (vI (if a = b then 1 else 0)) := h
    rw [eq64 ha hb]
    refine ⟨fun y => ?_, fun y => ?_⟩
    · rw [if_neg y] at h'; exact h'
    · rw [if_pos y] at h'; exact h'
  · have e : c = 7 := by omega
    subst e
    have h' : Q S (vI (if a < b then 1 else 0)) := h
    rw [ge64 ha hb]
    refine ⟨fun y => ?_, fun y => ?_⟩
    · rw [if_neg (by omega)] at h'; exact h'
    · rw [if_pos (by omega)] at h'; exact h'
  · have e : c = 8 := by omega
    subst e
    have h' : Q S (vI (if b < a then 1 else 0)) := h
    rw [le64 ha hb]
    refine ⟨fun y => ?_, fun y => ?_⟩
    · rw [if_neg (by omega)] at h'; exact h'
    · rw [if_pos (by omega)] at h'; exact h'
  · omega
  · have e : c = 10 := by omega
    subst e
    have h' : Q S (vI (if a ≠ 0 ∧ b ≠ 0 then 1 else 0)) := h
    rw [e064 ha, e064 hb]
    refine ⟨fun y => ?_, fun y => ⟨fun y2 => ?_, fun y2 => ?_⟩⟩
    · rw [if_neg (fun q => q.1 y)] at h'; exact h'
    · rw [if_neg (fun q => q.2 y2)] at h'; exact h'
    · rw [if_pos ⟨y, y2⟩] at h'; exact h'
theorem r_run {env : Nat → Int} {x to : Nat} (hx : x ≤ 4) (hto : 520 * x + to ≤ 2600) : ∀ (ts : List tok) (st : List Int) (p : Nat) (S : mj_S), Sh L S → (∀ k, (h : k < ts.length) → m_gi S 91 (p + k) = nI (ts[k]).1 ∧ m_gi S 92 (p + k) = nI (ts[k]).2) → p + ts.length = 520 * x + to → (∀ j, j < 6 → m_gi S 98 j = vI (env j)) → good env 32 ts st → st.length ≤ 32 → Stk 99 S st → (∀ S', fr D99 S S' → Stk 99 S' (runs env ts st) → Q S' (m_gi S' 99 0)) → V_X11_workOut_12 l G 89 (nI x) (nI to) (nI st.length) (nI p) S Q
  | [], st, p, S, hs, hc, hp, he, hg, hl, K, h => by
    have hp' : p + 0 = 520 * x + to := hp
    refine b_X11_workOut_12 hs.k89 ?_
    rw [show (520 : Int32) = nI 520 from rfl, nI_mul, nI_add]
    refine ⟨fun _ => ⟨99, hs.p89_16, by rw [hs.l99]; exact vp_nI (p := 0) (by omega) (by omega), h S fr.rf K⟩, fun z => absurd (nI_le (by omega) (by omega)) z⟩
  | (c, v) :: ts, st, p, S, hs, hc, hp, he, hg, hl, K, h => by
    obtain ⟨hst, hg2⟩ := hg
    rw [List.length_cons] at hp
    have h0 := hc 0 (by rw [List.length_cons]; omega)
    have g91 : m_gi S 91 p = nI c := h0.1
    have g92 : m_gi S 92 p = nI v := h0.2
    have hcp : (nI p).toNatClampNeg = p := nI_clamp (by omega)
    have hin : vp_in (nI p) 2600 := vp_nI (by omega) (by omega)
    have go : ∀ S', fr D99 S S' → ∀ st', st' = run1 env (c, v) st → st'.length ≤ 32 → Stk 99 S' st' → V_X11_workOut_12 l G 89 (nI x) (nI to) (nI st'.length) (nI (p + 1)) S' Q := by
      intro S' f' st' est hl' K'
      refine r_run hx hto ts st' (p + 1) S' (hs.fr f') (fun k hk => ?_) (by omega) (fun j hj => ?_) (by rw [est]; exact hg2) hl' K' (fun S2 f2 K2 => ?_)
      · have := hc (k + 1) (by rw [List.length_cons]; omega)
        rw [show p + 1 + k = p + (k + 1) by omega, f'.i _ _ (D99_f (by omega)), f'.i _ _ (D99_f (by omega))]
        exact this
      · rw [f'.i _ _ (D99_f (by omega))]; exact he j hj
      · rw [est] at K2
        exact h S2 (f'.tr f2) K2
    refine b_X11_workOut_12 hs.k89 ?_
    rw [show (520 : Int32) = nI 520 from rfl, nI_mul, nI_add]
    refine ⟨fun z => absurd z (nI_ge (by omega) (by omega)), fun _ => ⟨91, hs.p89_6, ?_⟩⟩
    rw [hs.l91, hcp, g91]
    have h45 : (c = 0 ∧ v < 10000 ∨ c = 1 ∧ v < 6) → st.length < 32 → V_X11_workOut_45 l G 89 (nI x) (nI to) (nI st.length) (nI p) S Q := by
      intro hcv hlt
      have hct : (nI st.length).toNatClampNeg = st.length := nI_clamp (by omega)
      have hin9 : vp_in (nI st.length) 80 := vp_nI (by omega) (by omega)
      refine b_X11_workOut_45 hs.k89 ⟨99, hs.p89_16, 91, hs.p89_6, ?_⟩
      rw [hs.l91, hcp, g91, hs.l99, hct, nI_1, nI_1]
      refine ⟨hin, fun z => ⟨98, hs.p89_15, 92, hs.p89_7, ?_⟩, fun z => ⟨92, hs.p89_7, ?_⟩⟩
      · have hc1 : c = 1 ∧ v < 6 := by
          rcases hcv with q | q
          · exact absurd (by rw [q.1]; rfl) z
          · exact q
        rw [hs.l92, hs.l98, g92, nI_clamp (show v < 2 ^ 31 by omega), he v hc1.2]
        refine ⟨hin, vp_nI hc1.2 (by omega), hin9, fun S5 e5 v6 e6 v7 e7 => ?_⟩
        have f5 : fr D99 S S5 := by rw [e5]; exact fr.si rfl
        rw [e6, e7]
        refine go S5 f5 (env v :: st) ?_ (by rw [List.length_cons]; omega) (K.push (by rw [e5, m_gi_si, if_pos ⟨rfl, rfl⟩]) (fun j hj => by rw [e5, m_gi_si, if_neg (by omega)]))
        unfold run1
        rw [if_neg (show ¬ c = 0 by omega), if_pos (show c = 1 by omega)]
      · have hc1 : c = 0 ∧ v < 10000 := by
          rcases hcv with q | q
          · exact q
          · exact absurd z (by rw [q.1]; decide)
        rw [hs.l92, g92]
        refine ⟨hin, hin9, fun S5 e5 v6 e6 v7 e7 => ?_⟩
        have f5 : fr D99 S S5 := by rw [e5]; exact fr.si rfl
        rw [e6, e7]
        refine go S5 f5 ((v : Int) :: st) ?_ (by rw [List.length_cons]; omega) (K.push (by rw [e5, m_gi_si, if_pos ⟨rfl, rfl⟩]; rfl) (fun j hj => by rw [e5, m_gi_si, if_neg (by omega)]))
        unfold run1
        rw [if_pos (show c = 0 by omega)]
    have hst' := hst
    unfold stp at hst
    refine ⟨hin, fun z => ?_, fun z => ⟨91, hs.p89_6, ?_⟩⟩
    · have e : c = 0 := by
        by_cases e : c = 0
        · exact e
        · exfalso
          have : c < 2 ^ 31 := by
            rcases hst with q | q | q | q | q
            · have q1 : c = 0 := q.1; omega
            · have q1 : c = 1 := q.1; omega
            · have q1 : c ≤ 8 := q.2.1; omega
            · have q1 : c = 9 := q.1; omega
            · have q1 : c = 10 ∨ c = 11 := q.1; omega
          exact nI_ne0 (by omega) this z
      subst e
      rcases hst with q | q | q | q | q
      · exact h45 (Or.inl ⟨rfl, q.2.1⟩) q.2.2
      · cases q.1
      · have q1 : 2 ≤ 0 := q.1; omega
      · cases q.1
      · have q1 : (0 : Nat) = 10 ∨ (0 : Nat) = 11 := q.1; omega
    · rw [hs.l91, g91]
      refine ⟨hin, fun z1 => ⟨91, hs.p89_6, ?_⟩, fun z1 => ?_⟩
      · rw [hs.l91, g91]
        refine ⟨hin, fun z9 v5 e5 => ⟨99, hs.p89_16, 91, hs.p89_6, ?_⟩, fun z9 => ⟨99, hs.p89_16, 99, hs.p89_16, ?_⟩⟩
        · have hop : ∃ a b r, st = b :: a :: r ∧ (2 ≤ c ∧ c ≤ 11 ∧ c ≠ 9) ∧ bdv a ∧ bdv b := by
            rcases hst with q | q | q | q | q
            · exact absurd (by rw [show c = 0 from q.1]; rfl) z
            · exact absurd (by rw [show c = 1 from q.1]; rfl) z1
            · obtain ⟨a, b, r, er, ba, bb⟩ := q.2.2.2
              have q1 : 2 ≤ c := q.1
              have q2 : c ≤ 8 := q.2.1
              exact ⟨a, b, r, er, by omega, ba, bb⟩
            · exact absurd (by rw [show c = 9 from q.1]; rfl) z9
            · obtain ⟨a, b, r, er, ba, bb⟩ := q.2.2
              have q1 : c = 10 ∨ c = 11 := q.1
              exact ⟨a, b, r, er, by omega, ba.b, bb.b⟩
          obtain ⟨a, b, r, er, hcc, ba, bb⟩ := hop
          subst er
          simp only [List.length_cons] at hl e5
          have e5' : v5 = nI (r.length + 1) := by
            rw [e5, show (-1 : Int32) = - 1 from rfl, ← Int32.sub_eq_add_neg, nI_pred]
          have e6' : v5 - 1 = nI r.length := by rw [e5', nI_pred]
          have k1 : m_gi S 99 (r.length + 1) = vI b := K.top
          have k2 : m_gi S 99 r.length = vI a := K.pop.top
          rw [hs.l91, g91]
          refine ⟨hin, 99, hs.p89_16, ?_⟩
          rw [e6', e5', hs.l99, nI_clamp (show r.length < 2 ^ 31 by omega), k2]
          refine ⟨vp_nI (by omega) (by omega), 99, hs.p89_16, ?_⟩
          rw [hs.l99, nI_clamp (show r.length + 1 < 2 ^ 31 by omega), k1]
          refine ⟨vp_nI (by omega) (by omega), r_worked hcc ba bb ⟨by rw [hs.l99]; exact vp_nI (by omega) (by omega), fun S12 e12 v13 e13 => ?_⟩⟩
          have f12 : fr D99 S S12 := by rw [e12]; exact fr.si rfl
          rw [e13, nI_1]
          refine go S12 f12 (opv c a b :: r) ?_ (by rw [List.length_cons]; omega) (K.pop.pop.push (by rw [e12, m_gi_si, if_pos ⟨rfl, rfl⟩]) (fun j hj => by rw [e12, m_gi_si, if_neg (by omega)]))
          unfold run1
          rw [if_neg (show ¬ c = 0 by omega), if_neg (show ¬ c = 1 by omega), if_neg (show ¬ c = 9 by omega)]
        · have hop : ∃ a r, st = a :: r ∧ c = 9 ∧ z01 a := by
            have e9 : c = 9 := by
              have : c < 2 ^ 31 := by
                rcases hst with q | q | q | q | q
                · have q1 : c = 0 := q.1; omega
                · have q1 : c = 1 := q.1; omega
                · have q1 : c ≤ 8 := q.2.1; omega
                · have q1 : c = 9 := q.1; omega
                · have q1 : c = 10 ∨ c = 11 := q.1; omega
              exact (nI_eq (b := 9) this (by omega)).mp z9
            rcases hst with q | q | q | q | q
            · have q1 : c = 0 := q.1; omega
            · have q1 : c = 1 := q.1; omega
            · have q1 : c ≤ 8 := q.2.1; omega
            · obtain ⟨a, r, er, za⟩ := q.2.2
              exact ⟨a, r, er, e9, za⟩
            · have q1 : c = 10 ∨ c = 11 := q.1; omega
          obtain ⟨a, r, er, e9, za⟩ := hop
          subst er
          simp only [List.length_cons] at hl ⊢
          rw [nI_pred, hs.l99, nI_clamp (show r.length < 2 ^ 31 by omega), K.top, nI_1]
          refine ⟨vp_nI (by omega) (by omega), vp_nI (by omega) (by omega), fun S16 e16 v17 e17 => ?_⟩
          have f16 : fr D99 S S16 := by rw [e16]; exact fr.si rfl
          have e1 : (1 : Int32) - vI a = vI (1 - a) := by rcases za with rfl | rfl <;> rfl
          rw [e1] at e16
          rw [e17]
          refine go S16 f16 ((1 - a) :: r) ?_ (by rw [List.length_cons]; omega) (K.pop.push (by rw [e16, m_gi_si, if_pos ⟨rfl, rfl⟩]) (fun j hj => by rw [e16, m_gi_si, if_neg (by omega)]))
          unfold run1
          rw [if_neg (show ¬ c = 0 by omega), if_neg (show ¬ c = 1 by omega), if_pos (show c = 9 by omega)]
      · have e : c = 1 := by
          have : c < 2 ^ 31 := by
            rcases hst with q | q | q | q | q
            · have q1 : c = 0 := q.1; omega
            · have q1 : c = 1 := q.1; omega
            · have q1 : c ≤ 8 := q.2.1; omega
            · have q1 : c = 9 := q.1; omega
            · have q1 : c = 10 ∨ c = 11 := q.1; omega
          exact (nI_eq (b := 1) this (by omega)).mp z1
        subst e
        rcases hst with q | q | q | q | q
        · cases q.1
        · exact h45 (Or.inr ⟨rfl, q.2.1⟩) q.2.2
        · have q1 : 2 ≤ 1 := q.1; omega
        · cases q.1
        · have q1 : (1 : Nat) = 10 ∨ (1 : Nat) = 11 := q.1; omega
theorem r_workOut {env : Nat → Int} {x from_ : Nat} {ts : List tok} (hx : x ≤ 4) (hl : from_ + ts.length ≤ 520) (hs : Sh L S) (hc : ∀ k, (h : k < ts.length) → m_gi S 91 (520 * x + from_ + k) = nI (ts[k]).1 ∧ m_gi S 92 (520 * x + from_ + k) = nI (ts[k]).2) (he : ∀ j, j < 6 → m_gi S 98 j = vI (env j)) (hg : good env 32 ts []) {v : Int} (hr : runs env ts [] = [v]) (h : ∀ S', fr D99 S S' → Q S' (vI v)) : M_X11_workOut l G 89 (nI x) (nI from_) (nI (from_ + ts.length)) S Q := by
  refine e_X11_workOut (b_X11_workOut_0 hs.k89 (fun v1 e1 => ?_))
  rw [show (520 : Int32) = nI 520 from rfl, nI_mul, nI_add] at e1
  rw [e1]
  refine r_run hx (by omega) ts [] _ S hs hc (by omega) he hg (by simp) (fun k hk => absurd hk (Nat.not_lt_zero k)) (fun S' f' K' => ?_)
  rw [hr] at K'
  have := K'.top
  rw [show ([] : List Int).length = 0 from rfl] at this
  rw [this]
  exact h S' f'
theorem tks_app (a b : List cls) : tks (a ++ b) = tks a ++ tks b := by unfold tks; rw [List.flatMap_append]
theorem tks_split {cs : List cls} {i : Nat} (h : i < cs.length) : tks cs = tks (cs.take i) ++ (cs[i].1 ++ (cs[i].2 ++ tks (cs.drop (i + 1)))) := by
  have e : cs = cs.take i ++ (cs[i] :: cs.drop (i + 1)) := by
    rw [List.getElem_cons_drop, List.take_append_drop]
  have e2 : tks (cs[i] :: cs.drop (i + 1)) = cs[i].1 ++ (cs[i].2 ++ tks (cs.drop (i + 1))) := by
    unfold tks; rw [List.flatMap_cons, List.append_assoc]
  have e3 := congrArg tks e
  rw [tks_app, e2] at e3
  exact e3
theorem LH.cod {x : Nat} {cs : List cls} (H : LH S x cs) {f : Nat} {a b ts : List tok} (e : tks cs = a ++ (ts ++ b)) (hf : f = a.length) : ∀ k, (h : k < ts.length) → m_gi S 91 (520 * x + f + k) = nI (ts[k]).1 ∧ m_gi S 92 (520 * x + f + k) = nI (ts[k]).2 := by
  intro k hk
  have hk2 : f + k < (tks cs).length := by rw [e, List.length_append, List.length_append]; omega
  have q := H.2 (f + k) hk2
  have g : (tks cs)[f + k] = ts[k] := by
    simp only [e]
    rw [List.getElem_append_right (by omega)]
    simp only [hf, Nat.add_sub_cancel_left]
    rw [List.getElem_append_left hk]
  rw [g, ← Nat.add_assoc] at q
  exact q
theorem tks_le : ∀ (cs : List cls) (b : Nat), (tks cs).length ≤ (enL b cs).length ∧ cs.length ≤ (enL b cs).length
  | [], b => ⟨Nat.le_refl 0, Nat.le_refl 0⟩
  | c :: cs, b => by
    have ih := tks_le cs (b + (enC b c).length)
    have h1 := enC_len (b := b) (c := c)
    have h2 : 1 ≤ (enC b c).length := by
      unfold enC
      split <;> simp only [List.length_append, List.length_singleton] <;> omega
    have e2 : tks (c :: cs) = c.1 ++ c.2 ++ tks cs := by unfold tks; rw [List.flatMap_cons]
    rw [e2]
    show (c.1 ++ c.2 ++ tks cs).length ≤ (enC b c ++ enL (b + (enC b c).length) cs).length ∧ (c :: cs).length ≤ (enC b c ++ enL (b + (enC b c).length) cs).length
    simp only [List.length_append, List.length_cons]
    omega
theorem LH.f {S' : mj_S} {x : Nat} {cs : List cls} (H : LH S x cs) (k : ∀ a j, 91 ≤ a → a ≤ 97 → m_gi S' a j = m_gi S a j) : LH S' x cs := ⟨H.1.ot (fun a j h1 h2 => k a j (by omega) h2), fun i hi => ⟨(k _ _ (by omega) (by omega)).trans (H.2 i hi).1, (k _ _ (by omega) (by omega)).trans (H.2 i hi).2⟩⟩
theorem r_worth {env : Nat → Int} {x : Nat} {cs : List cls} (hx : x ≤ 3) (hn : cs.length ≤ 240) (ht : (tks cs).length ≤ 240) (hb : ∀ j, j < 6 → bdv (env j)) (hc : ∀ c, c ∈ cs → clok c) : ∀ (m i : Nat) (S : mj_S), i + m = cs.length → Sh L S → LH S x cs → (∀ j, j < 6 → m_gi S 98 j = vI (env j)) → (∀ S', fr D99 S S' → Q S' (vI (wth env (cs.drop i)))) → V_X11_worthOf_6 l G 89 (nI x) (nI (140 * x + i)) S Q
  | 0, i, S, hi, hs, H, he, h => by
    have hcl : (nI x).toNatClampNeg = x := nI_clamp (by omega)
    refine b_X11_worthOf_6 hs.k89 ⟨94, hs.p89_9, ?_⟩
    rw [hs.l94, hcl, H.1.1, show (140 : Int32) = nI 140 from rfl, nI_mul, nI_add]
    refine ⟨vp_nI (by omega) (by omega), fun _ => ?_, fun z => absurd (nI_le (by omega) (by omega)) z⟩
    rw [List.drop_eq_nil_of_le (by omega)] at h
    exact h S fr.rf
  | m + 1, i, S, hi, hs, H, he, h => by
    have hcl : (nI x).toNatClampNeg = x := nI_clamp (by omega)
    have hii : i < cs.length := by omega
    have hck : (nI (140 * x + i)).toNatClampNeg = 140 * x + i := nI_clamp (by omega)
    have hin : vp_in (nI (140 * x + i)) 700 := vp_nI (by omega) (by omega)
    have C := H.1.2 i hii
    have hcc := hc cs[i] (List.getElem_mem hii)
    have sp := tks_split hii
    have spl : (tks cs).length = (tks (cs.take i)).length + ((cs[i]).1.length + ((cs[i]).2.length + (tks (cs.drop (i + 1))).length)) := by
      rw [sp]; simp only [List.length_append]
    have ed : cs.drop i = cs[i] :: cs.drop (i + 1) := (List.getElem_cons_drop hii).symm
    rw [ed] at h
    have h' : ∀ S', fr D99 S S' → Q S' (vI (if (cs[i]).1.length = 0 ∨ hd0 (runs env (cs[i]).1 []) ≠ 0 then hd0 (runs env (cs[i]).2 []) else wth env (cs.drop (i + 1)))) := h
    have h57 : ∀ S1, fr D99 S S1 → ((cs[i]).1.length = 0 ∨ hd0 (runs env (cs[i]).1 []) ≠ 0) → V_X11_worthOf_57 l G 89 (nI x) (nI (140 * x + i)) S1 Q := by
      intro S1 f1 hz
      rw [if_pos hz] at h'
      have hs1 := hs.fr f1
      have H1 := H.f (S' := S1) (fun a j q1 q2 => f1.i _ _ (D99_f (by omega)))
      have C1 := H1.1.2 i hii
      obtain ⟨g, v, bv, rv⟩ := hcc.2 env hb [] (by simp)
      rw [rv] at h'
      refine b_X11_worthOf_57 hs1.k89 ⟨96, hs1.p89_11, by rw [hs1.l96]; exact hin, 97, hs1.p89_12, by rw [hs1.l97]; exact hin, ?_⟩
      rw [hck, C1.2.1, C1.2.2]
      refine r_workOut (env := env) (ts := (cs[i]).2) (by omega) (by omega) hs1 (H1.cod (a := tks (cs.take i) ++ (cs[i]).1) (b := tks (cs.drop (i + 1))) (by rw [List.append_assoc]; exact sp) (by rw [List.length_append])) (fun j hj => (f1.i _ _ (D99_f (by omega))).trans (he j hj)) g rv (fun S2 f2 => h' S2 (f1.tr f2))
    refine b_X11_worthOf_6 hs.k89 ⟨94, hs.p89_9, ?_⟩
    rw [hs.l94, hcl, H.1.1, show (140 : Int32) = nI 140 from rfl, nI_mul, nI_add]
    refine ⟨vp_nI (by omega) (by omega), fun z => absurd z (nI_ge (by omega) (by omega)), fun _ => ⟨95, hs.p89_10, by rw [hs.l95]; exact hin, 96, hs.p89_11, by rw [hs.l96]; exact hin, ?_⟩⟩
    rw [hck, C.1, C.2.1]
    refine ⟨fun z => h57 S fr.rf (Or.inl ?_), fun z => ⟨95, hs.p89_10, by rw [hs.l95]; exact hin, 96, hs.p89_11, by rw [hs.l96]; exact hin, ?_⟩⟩
    · have := (nI_eq (by omega) (by omega)).mp z
      omega
    · rw [C.1, C.2.1]
      have hne : ¬ (cs[i]).1.length = 0 := fun y => z (by rw [y, Nat.add_zero])
      have hgc : gc 20 (cs[i]).1 := by
        rcases hcc.1 with q | q
        · exact absurd q hne
        · exact q
      obtain ⟨g, v, bv, rv⟩ := hgc env hb [] (by simp)
      refine r_workOut (env := env) (ts := (cs[i]).1) (by omega) (by omega) hs (H.cod (a := tks (cs.take i)) (b := (cs[i]).2 ++ tks (cs.drop (i + 1))) sp rfl) he g rv (fun S1 f1 => ⟨fun z2 v8 e8 => ?_, fun z2 => ?_⟩)
      · have hv : v = 0 := (vI_eq (b := 0) bv.b (by unfold bdv; omega)).mp z2
        rw [rv, if_neg (fun y => y.elim hne (fun y2 => y2 hv))] at h'
        rw [e8, nI_1]
        exact r_worth hx hn ht hb hc m (i + 1) S1 (by omega) (hs.fr f1) (H.f (fun a j q1 q2 => f1.i _ _ (D99_f (by omega)))) (fun j hj => (f1.i _ _ (D99_f (by omega))).trans (he j hj)) (fun S' f' => h' S' (f1.tr f'))
      · refine h57 S1 f1 (Or.inr ?_)
        rw [rv]
        exact fun y => z2 (by rw [show v = 0 from y]; rfl)
end RTK
/-- the law that holds, as the reference keeps it -/
def LRh (S : mj_S) (h : Option (List cls)) : Prop := match h with
  | none => m_gi S 89 30 = -1
  | some cs => ∃ i, i < 4 ∧ m_gi S 89 30 = nI i ∧ LH S i cs ∧ (enA [] cs).length ≤ 240 ∧ ∀ c, c ∈ cs → clok c
theorem LRh.keep {S S' : mj_S} {h : Option (List cls)} (H : LRh S h) (k : ∀ a j, 91 ≤ a → a ≤ 97 → m_gi S' a j = m_gi S a j) (k2 : m_gi S' 89 30 = m_gi S 89 30) : LRh S' h := by
  cases h with
  | none => exact k2.trans H
  | some cs =>
    obtain ⟨i, hi, e1, e2, e3⟩ := H
    exact ⟨i, hi, k2.trans e1, e2.f k, e3⟩
section RTK2
variable {l : Launch} {G : mj_G} {L : Nat} {R : rm} {s : sc} {S : mj_S} {Q : mj_S → Int32 → Prop} {H : Option (List cls)}
theorem DRL_98 {j : Nat} : DRL 98 j = true := rfl
theorem DR_law {a j : Nat} (h : 91 ≤ a ∧ a ≤ 97 ∨ a = 89) : DR a j = false := by
  unfold DR
  rw [← Bool.not_eq_true]
  simp only [Bool.or_eq_true, Bool.and_eq_true, Nat.ble_eq]
  omega
theorem r_takes {c : Nat} (C : RI L S R s) (K : LRh S H) (hc : c < r_nc R) (hy : s_yr s ≤ 2000) (h : ∀ S', fr DRL S S' → Q S' (nI (tkL R H s c))) : M_X11_takes l G 89 (nI c) S Q := by
  have h1 := C.rw.ve hc
  have h2 := C.sw.cl hc
  have h5 := C.rw.nc
  have hz : (0 : Int32) + nI c = nI c := by rw [show (0 : Int32) = nI 0 from rfl, nI_add, Nat.zero_add]
  have hcl : (nI c).toNatClampNeg = c := nI_clamp (by omega)
  have fin : ∀ (w : Int) (S' : mj_S), bdv w → tkW R H s c = w → fr DRL S S' → V_X11_takes_106 l G (vI w) S' Q := by
    intro w S' hw ew f'
    refine b_X11_takes_106 (s_mn (s_mx ?_))
    rw [mm_v hw, ← ew]
    exact h S' f'
  refine e_X11_takes (b_X11_takes_0 C.sh.k89 (s_of (k := 2) C hc (by omega) ⟨106, C.sh.p89_28, ?_⟩))
  rw [C.rr.ve hc, hz, hcl, C.rs.cl hc, d10 _ (by omega), nI_add]
  have hin : ∀ {S'}, Sh L S' → vp_in (nI c) (m_ln S' 106) := fun hs => by rw [hs.l106]; exact vp_nI (by omega) (by omega)
  refine ⟨hin C.sh, by decide, fun v4 e4 => ⟨fun z => ?_, fun z => ?_⟩⟩
  · cases H with
    | none =>
      rw [e4, ← vI_n]
      exact fin _ S (by unfold bdv; omega) rfl fr.rf
    | some cs =>
      obtain ⟨i, hi, e1, _⟩ := K
      rw [e1] at z
      exact absurd z (nI_m1 (by omega))
  · cases H with
    | none => exact absurd K z
    | some cs =>
      refine ⟨98, C.sh.p89_15, s_of (k := 2) C hc (by omega) ⟨by rw [C.sh.l98]; exact vp_nI (p := 0) (by omega) (by omega), fun S8 e8 => ?_⟩⟩
      rw [C.rr.ve hc] at e8
      have f8 : fr DRL S S8 := by rw [e8]; exact fr.si rfl
      have C8 := C.fr (DRL_DR f8)
      refine ⟨98, C8.sh.p89_15, 106, C8.sh.p89_28, hin C8.sh, by rw [C8.sh.l98]; exact vp_nI (p := 1) (by omega) (by omega), fun S11 e11 => ?_⟩
      rw [C8.rs.cl hc] at e11
      have f11 : fr DRL S S11 := f8.tr (by rw [e11]; exact fr.si rfl)
      have C11 := C.fr (DRL_DR f11)
      refine ⟨98, C11.sh.p89_15, s_of (k := 4) C11 hc (by omega) ⟨by rw [C11.sh.l98]; exact vp_nI (p := 2) (by omega) (by omega), fun S15 e15 => ?_⟩⟩
      rw [C11.rr.gp hc] at e15
      have f15 : fr DRL S S15 := f11.tr (by rw [e15]; exact fr.si rfl)
      have C15 := C.fr (DRL_DR f15)
      refine ⟨98, C15.sh.p89_15, 103, C15.sh.p89_22, by rw [C15.sh.l103]; exact vp_nI (p := 2) (by omega) (by omega), by rw [C15.sh.l98]; exact vp_nI (p := 3) (by omega) (by omega), fun S18 e18 => ?_⟩
      have e18' : S18 = m_si S15 98 3 (nI (r_li R)) := by rw [e18, ← C15.rr.li]; rfl
      have f18 : fr DRL S S18 := f15.tr (by rw [e18]; exact fr.si rfl)
      have C18 := C.fr (DRL_DR f18)
      refine ⟨98, C18.sh.p89_15, 106, C18.sh.p89_28, by rw [C18.sh.l106]; exact vp_nI (p := 17) (by omega) (by omega), by rw [C18.sh.l98]; exact vp_nI (p := 4) (by omega) (by omega), fun S21 e21 => ?_⟩
      have e21' : S21 = m_si S18 98 4 (nI (s_yr s)) := by rw [e21, ← C18.rs.yr]; rfl
      have f21 : fr DRL S S21 := f18.tr (by rw [e21]; exact fr.si rfl)
      have C21 := C.fr (DRL_DR f21)
      refine ⟨98, C21.sh.p89_15, by rw [C21.sh.l98]; exact vp_nI (p := 5) (by omega) (by omega), fun S23 e23 => ?_⟩
      have f23 : fr DRL S S23 := f21.tr (by rw [e23]; exact fr.si rfl)
      have hs := C.sh.fr f23
      have K23 : LRh S23 (some cs) := K.keep (fun a j q1 q2 => (DRL_DR f23).i a j (DR_law (by omega))) ((DRL_DR f23).i _ _ (DR_law (by omega)))
      obtain ⟨i', hi', e1', LH', e3', e5'⟩ := K23
      rw [e1']
      have hen : ∀ j, j < 6 → m_gi S23 98 j = vI (envR R s c j) := by
        intro j hj
        rw [e23, m_gi_si, e21', m_gi_si, e18', m_gi_si, e15, m_gi_si, e11, m_gi_si, e8, m_gi_si]
        have : j = 0 ∨ j = 1 ∨ j = 2 ∨ j = 3 ∨ j = 4 ∨ j = 5 := by omega
        rcases this with e | e | e | e | e | e <;> subst e <;> rfl
      have eE : enA [] cs = enL 0 cs := by rw [enA_enL]; rfl
      have tl := tks_le cs 0
      rw [← eE] at tl
      refine e_X11_worthOf (b_X11_worthOf_0 hs.k89 (fun v1 e1 => ?_))
      rw [show (140 : Int32) = nI 140 from rfl, nI_mul] at e1
      rw [e1]
      exact r_worth (env := envR R s c) (by omega) (by omega) (by omega) (envR_b C.rw C.sw hc hy) e5' cs.length 0 S23 (by omega) hs LH' hen (fun S' f' => fin _ S' (wth_b (envR_b C.rw C.sw hc hy) cs e5') rfl (f23.tr (D99_DRL f')))
theorem RK_of (K : LRh S H) : RK l G L S R (tkL R H) := by
  intro S' s hz C hy S2 c Q f2 hc h
  exact r_takes (C.fr f2) (K.keep (fun a j q1 q2 => (f2.i a j (DR_law (by omega))).trans (hz.2.1 a j q1 q2)) ((f2.i _ _ (DR_law (by omega))).trans hz.2.2)) hc hy h
end RTK2
