/-! fault and text of a law -/
def D20w (a _j : Nat) : Bool := Nat.beq a 20 || Nat.beq a 22
theorem D20w_f {a j : Nat} (h1 : a ≠ 20) (h2 : a ≠ 22) : D20w a j = false := by
  unfold D20w
  rw [← Bool.not_eq_true]
  simp only [Bool.or_eq_true, Nat.beq_eq]
  omega
theorem D20_w {S S' : mj_S} (f : fr D20 S S') : fr D20w S S' := f.wid (fun a j h => D20_f (fun z => by
  rw [z.1] at h; cases h) (fun z => by rw [z] at h; cases h))
/-- the laws, as the class keeps them -/
def LC (S : mj_S) (ls : List (List cls)) : Prop := m_gi S 23 0 = nI ls.length ∧ ∀ i, (h : i < ls.length) → m_gi S 29 i = nI (enA [] ls[i]).length ∧ ∀ k, (hk : k < (enA [] ls[i]).length) → m_gi S (25 + i) k = (enA [] ls[i])[k]
/-- and as the reference keeps them -/
def LRf (S : mj_S) (ls : List (List cls)) : Prop := m_gi S 89 13 = nI ls.length ∧ ∀ i, (h : i < ls.length) → LH S i ls[i]
def lok (ls : List (List cls)) : Prop := ls.length ≤ 4 ∧ ∀ cs, cs ∈ ls → (∀ c, c ∈ cs → clok c) ∧ (enA [] cs).length ≤ 240
def hlw (ls : List (List cls)) (ho : Int32) : Option (List cls) := if ho = -1 then none else ls[ho.toNatClampNeg]?
theorem LC.keep {S S' : mj_S} {ls : List (List cls)} (H : LC S ls) (hl : ls.length ≤ 4) (k : ∀ a j, 23 ≤ a → a ≤ 29 → ¬ (a = 23 ∧ (j = 1 ∨ j = 6)) → m_gi S' a j = m_gi S a j) : LC S' ls := ⟨(k _ _ (by omega) (by omega) (by omega)).trans H.1, fun i hi => ⟨(k _ _ (by omega) (by omega) (by omega)).trans (H.2 i hi).1, fun j hj => (k _ _ (by omega) (by omega) (by omega)).trans ((H.2 i hi).2 j hj)⟩⟩
theorem LRf.keep {S S' : mj_S} {ls : List (List cls)} (H : LRf S ls) (k : ∀ a j, 91 ≤ a → a ≤ 97 → m_gi S' a j = m_gi S a j) (k2 : m_gi S' 89 13 = m_gi S 89 13) : LRf S' ls := ⟨k2.trans H.1, fun i hi => (H.2 i hi).f k⟩
theorem lw_ok_some {nk : Nat} {ho : Int32} (h : lw_ok nk ho) (h1 : ¬ ho = -1) (hn : nk ≤ 4) : ∃ i, i < nk ∧ ho = nI i := by
  unfold lw_ok at h
  have hne : ho.toInt ≠ -1 := by
    intro e
    exact h1 (Int32.toInt_inj.mp (e.trans (by decide)))
  refine ⟨ho.toInt.toNat, by omega, ?_⟩
  apply Int32.toInt_inj.mp
  rw [nI_toInt (by omega)]
  omega
theorem LCh_of {S : mj_S} {ls : List (List cls)} {ho : Int32} (H : LC S ls) (ok : lok ls) (e : m_gi S 23 1 = ho) (hw : lw_ok ls.length ho) : LCh S (hlw ls ho) := by
  unfold hlw
  by_cases h : ho = -1
  · rw [if_pos h]; exact e.trans h
  · rw [if_neg h]
    obtain ⟨i, hi, ei⟩ := lw_ok_some hw h ok.1
    have h4 := ok.1
    rw [ei, nI_clamp (by omega), List.getElem?_eq_getElem hi]
    have hc := ok.2 _ (List.getElem_mem hi)
    exact ⟨i, by omega, e.trans ei, (H.2 i hi).1, hc.2, (H.2 i hi).2, hc.1⟩
theorem LRh_of {S : mj_S} {ls : List (List cls)} {ho : Int32} (H : LRf S ls) (ok : lok ls) (e : m_gi S 89 30 = ho) (hw : lw_ok ls.length ho) : LRh S (hlw ls ho) := by
  unfold hlw
  by_cases h : ho = -1
  · rw [if_pos h]; exact e.trans h
  · rw [if_neg h]
    obtain ⟨i, hi, ei⟩ := lw_ok_some hw h ok.1
    have h4 := ok.1
    rw [ei, nI_clamp (by omega), List.getElem?_eq_getElem hi]
    have hc := ok.2 _ (List.getElem_mem hi)
    exact ⟨i, by omega, e.trans ei, H.2 i hi, hc.2, hc.1⟩
section TX1
variable {l : Launch} {G : mj_G} {L : Nat} {S : mj_S} {t : Nat → Nat} {n : Nat} {T : tpe} {Q : mj_S → Int32 → Prop} {ls : List (List cls)}
theorem l_read (hs : Sh L S) (hT : TBL S) (hn : n ≤ 240) (ht : ∀ i, i < n → m_gi S 7 i = nI (t i)) (htw : ∀ i, i < n → t i < 256) (h0 : ∀ j, lawD t n 240 [] 0 = .inl j → ∀ S', fq D20w E8 S S' → Q S' (nI j)) (h1 : ∀ ds, lawD t n 240 [] 0 = .inr ds → ∀ S', fq D20w E8 S S' → m_gi S' 20 4 = nI (enA [] ds).length → (∀ i, (hi : i < (enA [] ds).length) → m_gi S' 22 i = (enA [] ds)[i]) → Q S' (-1)) : M_X1_read l G 20 7 (nI n) S Q := by
  refine e_X1_read (b_X1_read_0 hs.k20 hs.k7 (e_X5_begin (b_X5_begin_0_c1 hs.k20 hs.k7 (fun S1 e1 => s_mn ?_))))
  have l1 : m_ln S1 7 = 240 := by rw [e1]; exact hs.l7
  have emn : mn (nI n) (Int32.ofNat (m_ln S1 7)) = nI n := by
    rw [l1]
    unfold mn
    exact if_neg (nI_nlt (a := 240) hn (by omega))
  rw [emn]
  intro S4 e4 S5 e5 S2 e2
  have i2 : ∀ a j, m_gi S2 a j = if a = 20 ∧ j = 4 then 0 else if a = 20 ∧ j = 2 then 0 else if a = 20 ∧ j = 1 then nI n else m_gi S a j := fun a j => by
    rw [e2, m_gi_si, e5, m_gi_si, e4, m_gi_si, e1, m_gi_sp]
  have fb : fq D20w E8 S S2 := by
    refine ⟨by rw [e2, e5, e4, e1]; rfl, fun a j z => ?_, fun a j => by rw [e2, e5, e4, e1]; rfl, fun a j z => ?_⟩
    · have ha : a ≠ 20 := by intro y; rw [y] at z; cases z
      rw [i2, if_neg (by omega), if_neg (by omega), if_neg (by omega)]
    · have h4 : ¬ (a = 20 ∧ j = 0) := by rintro ⟨y1, y2⟩; rw [y1, y2] at z; revert z; decide
      rw [e2, m_gp_si, e5, m_gp_si, e4, m_gp_si, e1, m_gp_sp, if_neg h4]
  have hs2 := hs.fq8 fb
  have hT2 : TBL S2 := hT.keep (fun a j ha => fb.2.1 a j (D20w_f (by omega) (by omega)))
  have W2 : LW S2 t n 0 (enA [] []) := by
    refine ⟨⟨⟨Or.inl hs2.k20, by omega, hs2.l7, ?_⟩, ?_, ?_, Nat.zero_le _, hn, fun i hi => ?_, htw⟩, ?_, fun i hi => absurd hi (Nat.not_lt_zero i)⟩
    · rw [e2, m_gp_si, e5, m_gp_si, e4, m_gp_si, e1, m_gp_sp, if_pos ⟨rfl, rfl⟩]
    · rw [i2, if_neg (by omega), if_neg (by omega), if_pos (by omega)]
    · rw [i2, if_neg (by omega), if_pos (by omega)]; rfl
    · rw [i2, if_neg (by omega), if_neg (by omega), if_neg (by omega)]; exact ht i hi
    · rw [i2, if_pos (by omega)]; rfl
  have f02 : ∀ S', fr D20 S2 S' → fq D20w E8 S S' := fun S' f' => by
    have g := D20_w f'
    exact ⟨g.1.trans fb.1, fun a j z => (g.i a j z).trans (fb.2.1 a j z), fun a j => (g.2.2.1 a j).trans (fb.2.2.1 a j), fun a j z => (g.p a j).trans (fb.2.2.2 a j z)⟩
  exact l_readV 240 0 [] 0 S2 rfl hs2 hT2 W2 (Nat.le_refl 0) (fun j ej S' f' => h0 j ej S' (f02 S' f')) (fun ds eds S' f' e W' _ => h1 ds eds S' (f02 S' f') W'.2.1 W'.2.2)
theorem c_fault1 (hs : Sh L S) (hT : TBL S) (K : TCf S T) (ok : tp_ok T) (h0 : ∀ j, lawD T.1 T.2 240 [] 0 = .inl j → ∀ S', fq D20w E8 S S' → Q S' (nI j)) (h1 : ∀ ds, lawD T.1 T.2 240 [] 0 = .inr ds → ∀ S', fq D20w E8 S S' → Q S' (-1)) : M_X10_fault l G 6 1 S Q := by
  refine e_X10_fault (b_X10_fault_0 hs.k6 ⟨fun _ => ⟨fun z => absurd rfl z, fun _ => ⟨20, hs.p6_3, 7, hs.p6_0, ?_⟩⟩, fun z => absurd z (by decide)⟩)
  rw [K.1]
  exact l_read hs hT ok.1 K.2 ok.2 h0 (fun ds e S' f _ _ => h1 ds e S' f)
theorem d_fault1 (hs : Sh L S) (K : TRf S T) (ok : tp_ok T) (h0 : ∀ j, lawD T.1 T.2 240 [] 0 = .inl j → ∀ S', fr (Do 4) S S' → Q S' (nI j)) (h1 : ∀ ds, lawD T.1 T.2 240 [] 0 = .inr ds → ∀ S', fr (Do 4) S S' → Q S' (-1)) : M_X11_fault l G 89 1 S Q := by
  refine e_X11_fault (b_X11_fault_0 hs.k89 ⟨fun _ => ⟨fun z => absurd rfl z, fun _ => ?_⟩, fun z => absurd z (by decide)⟩)
  exact r_readLaw (x := 4) hs (by omega) ok.1 K.1 K.2 ok.2 h0 (fun ds e S' f _ => h1 ds e S' f)
/-- the cells that a law's text changes -/
def Dt1 (a j : Nat) : Bool := (Nat.beq a 20 || Nat.beq a 22) || ((Nat.beq a 6 && Nat.beq j 1) || ((Nat.beq a 23 && Nat.beq j 0) || (Nat.ble 25 a && Nat.ble a 29)))
theorem Dt1_f {a j : Nat} (h : Dt1 a j = false) : a ≠ 20 ∧ a ≠ 22 ∧ ¬ (a = 6 ∧ j = 1) ∧ ¬ (a = 23 ∧ j = 0) ∧ ¬ (25 ≤ a ∧ a ≤ 29) := by
  unfold Dt1 at h
  rw [← Bool.not_eq_true] at h
  simp only [Bool.or_eq_true, Bool.and_eq_true, Nat.beq_eq, Nat.ble_eq] at h
  omega
theorem c_text1 (hs : Sh L S) (hT : TBL S) (K : TCf S T) (ok : tp_ok T) (H : LC S ls) (hl : lok ls) (h4 : ls.length = 4 → Q S (-1)) (h0 : ls.length < 4 → ∀ j, lawD T.1 T.2 240 [] 0 = .inl j → ∀ S', fq D20w E8 S S' → Q S' (-1)) (h1 : ls.length < 4 → ∀ ds, lawD T.1 T.2 240 [] 0 = .inr ds → ∀ S', fq Dt1 E8 S S' → m_gi S' 6 1 = 0 → LC S' (ls ++ [ds]) → Q S' (nI ls.length)) : M_X10_text l G 6 1 S Q := by
  have hl4 := hl.1
  refine e_X10_text (b_X10_text_0 hs.k6 ⟨fun _ => b_X10_text_37 hs.k6 ⟨fun z => absurd rfl z, fun _ => ⟨23, hs.p6_4, ?_⟩⟩, fun z => absurd z (by decide)⟩)
  rw [H.1]
  refine ⟨fun z => ?_, fun z => ⟨20, hs.p6_3, 7, hs.p6_0, ?_⟩⟩
  · by_cases e : ls.length = 4
    · exact h4 e
    · exact absurd z (nI_ge (b := 4) (by omega) (by omega))
  · have hlt : ls.length < 4 := by
      by_cases e : ls.length < 4
      · exact e
      · exact absurd (nI_le (a := 4) (by omega) (by omega)) z
    rw [K.1]
    refine l_read hs hT ok.1 K.2 ok.2 (fun j ej S1 f1 => ⟨fun _ => h0 hlt j ej S1 f1, fun z => ?_⟩) (fun ds eds S1 f1 g4 g22 => ⟨fun z => absurd rfl z, fun _ S2 e2 => ?_⟩)
    · have := lawD_lt ok.1 ok.2 240 [] 0 j (Nat.zero_le _) ej
      exact absurd z (nI_m1 (by omega))
    · have hok := lawD_ok ok.1 ok.2 240 [] 0 ds (Nat.zero_le _) (Nat.le_refl 0) (fun c hc => by cases hc) eds
      have hs1 := hs.fq8 f1
      have hs2 : Sh L S2 := by rw [e2]; exact hs1
      have n20 : m_gi S2 20 4 = nI (enA [] ds).length := by rw [e2, m_gi_si, if_neg (by omega)]; exact g4
      have n23 : m_gi S2 23 0 = nI ls.length := by rw [e2, m_gi_si, if_neg (by omega), f1.2.1 _ _ (D20w_f (by omega) (by omega))]; exact H.1
      refine ⟨23, hs2.p6_4, 20, hs2.p6_3, 22, hs2.p20_3, 20, hs2.p6_3, ?_⟩
      rw [n20]
      refine e_X2_add (b_X2_add_0 hs2.k23 hs2.k22 ?_)
      rw [n23]
      refine ⟨fun z => absurd z (nI_ge (b := 4) hlt (by omega)), fun _ => s_wit (fun _ _ => ⟨fun _ => ⟨24, hs2.p23_2, ?_⟩, fun z => absurd z (by decide)⟩) (fun z => ?_)⟩
      · have pA : m_gp S2 24 ls.length = some (25 + ls.length) := by
          have : ls.length = 0 ∨ ls.length = 1 ∨ ls.length = 2 ∨ ls.length = 3 := by omega
          rcases this with e | e | e | e <;> rw [e]
          · exact hs2.p24_0
          · exact hs2.p24_1
          · exact hs2.p24_2
          · exact hs2.p24_3
        have lA : m_ln S2 (25 + ls.length) = 240 := by
          have : ls.length = 0 ∨ ls.length = 1 ∨ ls.length = 2 ∨ ls.length = 3 := by omega
          rcases this with e | e | e | e <;> rw [e]
          · exact hs2.l25
          · exact hs2.l26
          · exact hs2.l27
          · exact hs2.l28
        have c0 : (0 : Int32).toNatClampNeg = 0 := rfl
        have hen := hok.2
        have cn : (nI (enA [] ds).length).toNatClampNeg = (enA [] ds).length := nI_clamp (by omega)
        rw [n23, hs2.l24, c0, cn, nI_clamp (show ls.length < 2 ^ 31 by omega), hs2.l22]
        refine ⟨vp_nI hlt (by omega), 25 + ls.length, pA, ?_⟩
        rw [lA]
        refine ⟨⟨by decide, by decide, nI_pos (by omega), by omega, by omega⟩, fun S5 e5 => ?_⟩
        have hs5 : Sh L S5 := by rw [e5]; exact ⟨hs2.1, fun x hx => hs2.2 x hx⟩
        have n5 : m_gi S5 23 0 = nI ls.length := by rw [e5, m_gi_row, if_neg (by omega)]; exact n23
        refine ⟨29, hs5.p23_3, ?_⟩
        rw [n5, hs5.l29, nI_clamp (by omega)]
        refine ⟨vp_nI hlt (by omega), fun S7 e7 S8 e8 => ?_⟩
        have n7 : m_gi S7 23 0 = nI ls.length := by rw [e7, m_gi_si, if_neg (by omega)]; exact n5
        rw [n7, nI_1] at e8
        have n8 : m_gi S8 23 0 = nI (ls.length + 1) := by rw [e8, m_gi_si, if_pos ⟨rfl, rfl⟩]
        rw [n8, nI_pred]
        have g8 : ∀ a j, m_gi S8 a j = if a = 23 ∧ j = 0 then nI (ls.length + 1) else if a = 29 ∧ j = ls.length then nI (enA [] ds).length else if a = 25 + ls.length then va_cpy (m_gi S2 22) (m_gi S2 (25 + ls.length)) 0 0 (enA [] ds).length j else if a = 6 ∧ j = 1 then 0 else m_gi S1 a j := fun a j => by
          rw [e8, m_gi_si, e7, m_gi_si, e5, m_gi_row, e2, m_gi_si]
        refine h1 hlt ds eds S8 ?_ ?_ ⟨?_, fun i hi => ?_⟩
        · refine ⟨by rw [e8, e7, e5, e2]; exact f1.1, fun a j z => ?_, fun a j => by rw [e8, e7, e5, e2]; exact f1.2.2.1 a j, fun a j z => by rw [e8, e7, e5, e2]; exact f1.2.2.2 a j z⟩
          have z' := Dt1_f z
          rw [g8, if_neg z'.2.2.2.1, if_neg (by omega), if_neg (by omega), if_neg z'.2.2.1]
          exact f1.2.1 a j (D20w_f z'.1 z'.2.1)
        · rw [g8, if_neg (by omega), if_neg (by omega), if_neg (by omega), if_pos ⟨rfl, rfl⟩]
        · rw [n8, List.length_append, List.length_singleton]
        · rw [List.length_append, List.length_singleton] at hi
          by_cases e : i = ls.length
          · subst e
            have g : (ls ++ [ds])[ls.length]'(by rw [List.length_append, List.length_singleton]; omega) = ds := by simp
            rw [g]
            refine ⟨by rw [g8, if_neg (by omega), if_pos ⟨rfl, rfl⟩], fun k hk => ?_⟩
            rw [g8, if_neg (by omega), if_neg (by omega), if_pos rfl]
            have ec : va_cpy (m_gi S2 22) (m_gi S2 (25 + ls.length)) 0 0 (enA [] ds).length k = m_gi S2 22 k := by
              unfold va_cpy
              rw [if_pos ⟨by omega, by omega⟩, Nat.zero_add, Nat.sub_zero]
            rw [ec, e2, m_gi_si, if_neg (by omega)]
            exact g22 k hk
          · have hi' : i < ls.length := by omega
            have g : (ls ++ [ds])[i]'(by rw [List.length_append, List.length_singleton]; omega) = ls[i] := List.getElem_append_left hi'
            rw [g]
            have q := H.2 i hi'
            refine ⟨by rw [g8, if_neg (by omega), if_neg (by omega), if_neg (by omega), if_neg (by omega), f1.2.1 _ _ (D20w_f (by omega) (by omega))]; exact q.1, fun k hk => ?_⟩
            rw [g8, if_neg (by omega), if_neg (by omega), if_neg (by omega), if_neg (by omega), f1.2.1 _ _ (D20w_f (by omega) (by omega))]
            exact q.2 k hk
      · have := hok.2
        rcases z with z | z
        · exact absurd z (nI_pos (by omega))
        · exact absurd z (nI_nlt (a := 240) (by omega) (by omega))
def Dr1 (a j : Nat) : Bool := decide ((a = 89 ∧ (j = 2 ∨ j = 3 ∨ j = 4 ∨ j = 5 ∨ j = 13 ∨ j = 14)) ∨ (91 ≤ a ∧ a ≤ 97))
theorem Dr1_f {a j : Nat} (h : Dr1 a j = false) : ¬ ((a = 89 ∧ (j = 2 ∨ j = 3 ∨ j = 4 ∨ j = 5 ∨ j = 13 ∨ j = 14)) ∨ (91 ≤ a ∧ a ≤ 97)) := of_decide_eq_false h
theorem Do_no {x a j : Nat} (h : ¬ ((a = 89 ∧ (j = 3 ∨ j = 4 ∨ j = 5 ∨ j = 14)) ∨ (91 ≤ a ∧ a ≤ 97))) : Do x a j = false := by
  unfold Do
  rw [Dm_no (Dl_f (by omega)) (by omega), Bool.false_or, ← Bool.not_eq_true]
  simp only [Bool.and_eq_true, Nat.beq_eq]
  omega
/-- another text is left as it was -/
theorem LH.ox {S' : mj_S} {x y : Nat} {cs : List cls} (H : LH S y cs) (f : fr (Do x) S S') (hxy : y ≠ x) (hc : cs.length ≤ 140) (ht : (tks cs).length ≤ 520) : LH S' y cs := by
  have k : ∀ a j, ¬ ((a = 89 ∧ (j = 3 ∨ j = 4 ∨ j = 5)) ∨ ((a = 91 ∨ a = 92) ∧ 520 * x ≤ j ∧ j < 520 * x + 520) ∨ (a = 93 ∧ j = x)) → ¬ ((a = 94 ∧ j = x) ∨ ((a = 95 ∨ a = 96 ∨ a = 97) ∧ 140 * x ≤ j ∧ j < 140 * x + 140)) → a ≠ 89 → m_gi S' a j = m_gi S a j := by
    intro a j h1 h2 h3
    refine f.i a j ?_
    unfold Do
    rw [Dm_no (Dl_f h1) h2, Bool.false_or, ← Bool.not_eq_true]
    simp only [Bool.and_eq_true, Nat.beq_eq]
    omega
  refine ⟨⟨(k _ _ (by omega) (by omega) (by omega)).trans H.1.1, fun i hi => ⟨(k _ _ (by omega) (by omega) (by omega)).trans (H.1.2 i hi).1, (k _ _ (by omega) (by omega) (by omega)).trans (H.1.2 i hi).2.1, (k _ _ (by omega) (by omega) (by omega)).trans (H.1.2 i hi).2.2⟩⟩, fun i hi => ⟨(k _ _ (by omega) (by omega) (by omega)).trans (H.2 i hi).1, (k _ _ (by omega) (by omega) (by omega)).trans (H.2 i hi).2⟩⟩
/-- a clause has at least two steps -/
theorem enL_2 : ∀ (cs : List cls) (b : Nat), (∀ c, c ∈ cs → clok c) → 2 * cs.length ≤ (enL b cs).length
  | [], b, _ => Nat.le_refl 0
  | c :: cs, b, hc => by
    have ih := enL_2 cs (b + (enC b c).length) (fun d hd => hc d (List.mem_cons_of_mem _ hd))
    have h2 : c.2.length ≠ 0 := by
      intro e
      have e' : c.2 = [] := List.eq_nil_of_length_eq_zero e
      have := (hc c (List.mem_cons_self ..)).2
      rw [e'] at this
      obtain ⟨_, v, _, r⟩ := this (fun _ => 0) (fun _ _ => by unfold bdv; omega) [] (by simp)
      cases r
    have h1 : 2 ≤ (enC b c).length := by
      unfold enC
      split <;> simp only [List.length_append, List.length_singleton, List.length_map] <;> omega
    show 2 * (c :: cs).length ≤ (enC b c ++ enL (b + (enC b c).length) cs).length
    simp only [List.length_append, List.length_cons]
    omega
theorem d_text1 (hs : Sh L S) (K : TRf S T) (ok : tp_ok T) (H : LRf S ls) (hl : lok ls) (h4 : ls.length = 4 → Q S (-1)) (h0 : ls.length < 4 → ∀ j, lawD T.1 T.2 240 [] 0 = .inl j → ∀ S', fr (Do ls.length) S S' → LRf S' ls → Q S' (-1)) (h1 : ls.length < 4 → ∀ ds, lawD T.1 T.2 240 [] 0 = .inr ds → ∀ S', fr Dr1 S S' → m_gi S' 89 2 = 0 → LRf S' (ls ++ [ds]) → Q S' (nI ls.length)) : M_X11_text l G 89 1 S Q := by
  have hl4 := hl.1
  have keep : ∀ S', fr (Do ls.length) S S' → ∀ i, (hi : i < ls.length) → LH S' i ls[i] := by
    intro S' f' i hi
    have hc := hl.2 _ (List.getElem_mem hi)
    have eE : enA [] ls[i] = enL 0 ls[i] := by rw [enA_enL]; rfl
    have tl := tks_le ls[i] 0
    have t2 := enL_2 ls[i] 0 hc.1
    rw [eE] at hc
    exact (H.2 i hi).ox f' (by omega) (by omega) (by omega)
  refine e_X11_text (b_X11_text_0 hs.k89 ⟨fun _ => b_X11_text_22 hs.k89 ⟨fun z => absurd rfl z, fun _ => ?_⟩, fun z => absurd z (by decide)⟩)
  rw [H.1]
  refine ⟨fun z => ?_, fun z => ?_⟩
  · by_cases e : ls.length = 4
    · exact h4 e
    · exact absurd z (nI_ge (b := 4) (by omega) (by omega))
  · have hlt : ls.length < 4 := by
      by_cases e : ls.length < 4
      · exact e
      · exact absurd (nI_le (a := 4) (by omega) (by omega)) z
    refine r_readLaw hs (by omega) ok.1 K.1 K.2 ok.2 (fun j ej S1 f1 => ⟨fun _ => h0 hlt j ej S1 f1 ⟨(f1.i _ _ (Do_no (by omega))).trans H.1, keep S1 f1⟩, fun z => ?_⟩) (fun ds eds S1 f1 LH1 => ⟨fun z => absurd rfl z, fun _ S3 e3 S4 e4 => ?_⟩)
    · have := lawD_lt ok.1 ok.2 240 [] 0 j (Nat.zero_le _) ej
      exact absurd z (nI_m1 (by omega))
    · have n3 : m_gi S3 89 13 = nI ls.length := by rw [e3, m_gi_si, if_neg (by omega), f1.i _ _ (Do_no (by omega))]; exact H.1
      rw [n3, nI_1] at e4
      have n4 : m_gi S4 89 13 = nI (ls.length + 1) := by rw [e4, m_gi_si, if_pos ⟨rfl, rfl⟩]
      rw [n4, nI_pred]
      have k4 : ∀ a j, 91 ≤ a → a ≤ 97 → m_gi S4 a j = m_gi S1 a j := fun a j h1 h2 => by rw [e4, m_gi_si, if_neg (by omega), e3, m_gi_si, if_neg (by omega)]
      refine h1 hlt ds eds S4 ?_ ?_ ⟨?_, fun i hi => ?_⟩
      · have f1' : fr Dr1 S S1 := f1.wid (fun a j h => Do_no (by have := Dr1_f h; omega))
        have f3 : fr Dr1 S1 S3 := by rw [e3]; exact fr.si rfl
        have f4 : fr Dr1 S3 S4 := by rw [e4]; exact fr.si rfl
        exact (f1'.tr f3).tr f4
      · rw [e4, m_gi_si, if_neg (by omega), e3, m_gi_si, if_pos ⟨rfl, rfl⟩]
      · rw [n4, List.length_append, List.length_singleton]
      · rw [List.length_append, List.length_singleton] at hi
        by_cases e : i = ls.length
        · subst e
          have g : (ls ++ [ds])[ls.length]'(by rw [List.length_append, List.length_singleton]; omega) = ds := by simp
          rw [g]
          exact LH1.f k4
        · have hi' : i < ls.length := by omega
          have g : (ls ++ [ds])[i]'(by rw [List.length_append, List.length_singleton]; omega) = ls[i] := List.getElem_append_left hi'
          rw [g]
          exact (keep S1 f1 i hi').f k4
theorem c_fault2 {x : Int32} (hs : Sh L S) (h0 : ¬ x = 0) (h1 : ¬ x = 1) (h : Q S (-2)) : M_X10_fault l G 6 x S Q := e_X10_fault (b_X10_fault_0 hs.k6 ⟨fun _ => ⟨fun _ => h, fun z => absurd z h1⟩, fun z => absurd z h0⟩)
theorem d_fault2 {x : Int32} (hs : Sh L S) (h0 : ¬ x = 0) (h1 : ¬ x = 1) (h : Q S (-2)) : M_X11_fault l G 89 x S Q := e_X11_fault (b_X11_fault_0 hs.k89 ⟨fun _ => ⟨fun _ => h, fun z => absurd z h1⟩, fun z => absurd z h0⟩)
theorem c_text2 {x : Int32} (hs : Sh L S) (h0 : ¬ x = 0) (h1 : ¬ x = 1) (h : Q S (-1)) : M_X10_text l G 6 x S Q := e_X10_text (b_X10_text_0 hs.k6 ⟨fun _ => b_X10_text_37 hs.k6 ⟨fun _ => h, fun z => absurd z h1⟩, fun z => absurd z h0⟩)
theorem d_text2 {x : Int32} (hs : Sh L S) (h0 : ¬ x = 0) (h1 : ¬ x = 1) (h : Q S (-1)) : M_X11_text l G 89 x S Q := e_X11_text (b_X11_text_0 hs.k89 ⟨fun _ => b_X11_text_22 hs.k89 ⟨fun _ => h, fun z => absurd z h1⟩, fun z => absurd z h0⟩)
end TX1
