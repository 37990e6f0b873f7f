/-! the class reads a room: clauses -/
section CR3
variable {l : Launch} {G : mj_G} {L : Nat} {S : mj_S} {n p q : Nat} {t : Nat → Nat} {s : ps}
theorem isQ.b {q : Nat} (h : isQ q) : 32 ≤ q ∧ q ≤ 41 := by rcases h with e | e <;> omega
theorem fr_ac {c : Nat} {v : Nat → Int32} : fr (D8 q) S (ac_S S q c v) := by
  unfold ac_S
  exact ((((((fr.si (D8_t (by omega))).tr (fr.si (D8_t (by omega)))).tr (fr.si (D8_t (by omega)))).tr (fr.si (D8_t (by omega)))).tr (fr.si (D8_t (by omega)))).tr (fr.si (D8_t (by omega)))).tr (fr.si (D8_t (by omega)))
theorem fr_ap {c : Nat} {v : Nat → Int32} : fr (D8 q) S (ap_S S q c v) := by
  unfold ap_S
  exact ((fr.si (D8_t (by omega))).tr (fr.si (D8_t (by omega)))).tr (fr.si (D8_t (by omega)))
theorem fr_sr {v : Nat → Int32} : fr (D8 q) S (sr_S S q v) := by
  unfold sr_S
  exact (((fr.si (D8_t (by omega))).tr (fr.si (D8_t (by omega)))).tr (fr.si (D8_t (by omega)))).tr (fr.si (D8_t (by omega)))
theorem g_ac {c a j : Nat} {v : Nat → Int32} : m_gi (ac_S S q c v) a j = if a = q ∧ j = 7 then nI (c + 1) else if a = q ∧ j = 14 then m_gi S q 14 ||| (v 5 <<< (nI c &&& 31)) else if a = q + 5 ∧ j = c then v 4 else if a = q + 6 ∧ j = c then v 3 else if a = q + 4 ∧ j = c then v 2 else if a = q + 3 ∧ j = c then v 1 else if a = q + 1 ∧ j = c then v 0 else m_gi S a j := by
  unfold ac_S
  simp only [m_gi_si]
theorem g_ap {c a j : Nat} {v : Nat → Int32} : m_gi (ap_S S q c v) a j = if a = q ∧ j = 15 then nI (c + 1) else if a = q + 7 ∧ j = c then v 1 else if a = q + 8 ∧ j = c then v 0 else m_gi S a j := by
  unfold ap_S
  simp only [m_gi_si]
theorem g_sr {a j : Nat} {v : Nat → Int32} : m_gi (sr_S S q v) a j = if a = q ∧ j = 3 then v 3 else if a = q ∧ j = 2 then v 2 else if a = q ∧ j = 1 then v 1 else if a = q ∧ j = 0 then v 0 else m_gi S a j := by
  unfold sr_S
  simp only [m_gi_si]
theorem CP.C {v : Nat → Nat} (C : CP S q s) (hq : isQ q) (hc : p_nc s < 10) (hv : v 5 ≤ 1) : CP (ac_S S q (p_nc s) (fun k => nI (v k))) q (p_C s v) := by
  have hb := hq.b
  have k : ∀ a j, ¬ (a = q ∧ j = 7) → ¬ (a = q ∧ j = 14) → ¬ (q + 1 ≤ a ∧ a ≤ q + 6 ∧ j = p_nc s) → m_gi (ac_S S q (p_nc s) (fun k => nI (v k))) a j = m_gi S a j := by
    intro a j h1 h2 h3
    rw [g_ac, if_neg h1, if_neg h2, if_neg (by omega), if_neg (by omega), if_neg (by omega), if_neg (by omega), if_neg (by omega)]
  refine ⟨⟨C.1.1, (k _ _ (by omega) (by omega) (by omega)).trans C.1.2⟩, fun i hi => (k _ _ (by omega) (by omega) (by omega)).trans (C.2.1 i hi), ⟨?_, (k _ _ (by omega) (by omega) (by omega)).trans C.2.2.1.2.1, ?_⟩, fun c hc' => ?_, fun c hc' => ?_⟩
  · rw [g_ac, if_pos ⟨rfl, rfl⟩]; rfl
  · rw [g_ac, if_neg (by omega), if_pos ⟨rfl, rfl⟩, C.2.2.1.2.2]
    show p_bk s ||| (nI (v 5) <<< (nI (p_nc s) &&& 31)) = bs (p_nc s + 1) (fun c => decide ((if c = p_nc s then v 5 else p_cu s c 5) = 1))
    have e0 : bs (p_nc s) (fun c => decide ((if c = p_nc s then v 5 else p_cu s c 5) = 1)) = p_bk s := bs_cong (fun i hi => by rw [if_neg (by omega)])
    by_cases e : v 5 = 1
    · rw [bs_s1 (by rw [if_pos rfl, e]; rfl), e0, e]; rfl
    · have e' : v 5 = 0 := by omega
      rw [bs_s0' (by rw [if_pos rfl, e']; decide), e0, e', sh0_10 _ hc]
  · have hc'' : c < p_nc s + 1 := hc'
    by_cases e : c = p_nc s
    · subst e
      have cu : ∀ i, p_cu (p_C s v) (p_nc s) i = v i := fun i => if_pos rfl
      rw [cu, cu, cu, cu, cu]
      refine ⟨?_, ?_, ?_, ?_, ?_⟩
      · rw [g_ac, if_neg (by omega), if_neg (by omega), if_neg (by omega), if_neg (by omega), if_neg (by omega), if_neg (by omega), if_pos ⟨rfl, rfl⟩]
      · rw [g_ac, if_neg (by omega), if_neg (by omega), if_neg (by omega), if_neg (by omega), if_neg (by omega), if_pos ⟨rfl, rfl⟩]
      · rw [g_ac, if_neg (by omega), if_neg (by omega), if_neg (by omega), if_neg (by omega), if_pos ⟨rfl, rfl⟩]
      · rw [g_ac, if_neg (by omega), if_neg (by omega), if_neg (by omega), if_pos ⟨rfl, rfl⟩]
      · rw [g_ac, if_neg (by omega), if_neg (by omega), if_pos ⟨rfl, rfl⟩]
    · have cu : ∀ i, p_cu (p_C s v) c i = p_cu s c i := fun i => if_neg e
      have h := C.2.2.2.1 c (by omega)
      rw [cu, cu, cu, cu, cu]
      exact ⟨(k _ _ (by omega) (by omega) (by omega)).trans h.1, (k _ _ (by omega) (by omega) (by omega)).trans h.2.1, (k _ _ (by omega) (by omega) (by omega)).trans h.2.2.1, (k _ _ (by omega) (by omega) (by omega)).trans h.2.2.2.1, (k _ _ (by omega) (by omega) (by omega)).trans h.2.2.2.2⟩
  · have h := C.2.2.2.2 c hc'
    exact ⟨(k _ _ (by omega) (by omega) (by omega)).trans h.1, (k _ _ (by omega) (by omega) (by omega)).trans h.2⟩
theorem CP.P {v : Nat → Nat} (C : CP S q s) (hq : isQ q) : CP (ap_S S q (p_np s) (fun k => nI (v k))) q (p_P s v) := by
  have hb := hq.b
  have k : ∀ a j, ¬ (a = q ∧ j = 15) → ¬ (q + 7 ≤ a ∧ a ≤ q + 8 ∧ j = p_np s) → m_gi (ap_S S q (p_np s) (fun k => nI (v k))) a j = m_gi S a j := by
    intro a j h1 h3
    rw [g_ap, if_neg h1, if_neg (by omega), if_neg (by omega)]
  refine ⟨⟨C.1.1, (k _ _ (by omega) (by omega)).trans C.1.2⟩, fun i hi => (k _ _ (by omega) (by omega)).trans (C.2.1 i hi), ⟨(k _ _ (by omega) (by omega)).trans C.2.2.1.1, ?_, (k _ _ (by omega) (by omega)).trans C.2.2.1.2.2⟩, fun c hc' => ?_, fun c hc' => ?_⟩
  · rw [g_ap, if_pos ⟨rfl, rfl⟩]; rfl
  · have h := C.2.2.2.1 c hc'
    exact ⟨(k _ _ (by omega) (by omega)).trans h.1, (k _ _ (by omega) (by omega)).trans h.2.1, (k _ _ (by omega) (by omega)).trans h.2.2.1, (k _ _ (by omega) (by omega)).trans h.2.2.2.1, (k _ _ (by omega) (by omega)).trans h.2.2.2.2⟩
  · have hc'' : c < p_np s + 1 := hc'
    by_cases e : c = p_np s
    · subst e
      have cu : ∀ i, p_pe (p_P s v) (p_np s) i = v i := fun i => if_pos rfl
      rw [cu, cu]
      refine ⟨?_, ?_⟩
      · rw [g_ap, if_neg (by omega), if_pos ⟨rfl, rfl⟩]
      · rw [g_ap, if_neg (by omega), if_neg (by omega), if_pos ⟨rfl, rfl⟩]
    · have cu : ∀ i, p_pe (p_P s v) c i = p_pe s c i := fun i => if_neg e
      have h := C.2.2.2.2 c (by omega)
      rw [cu, cu]
      exact ⟨(k _ _ (by omega) (by omega)).trans h.1, (k _ _ (by omega) (by omega)).trans h.2⟩
theorem CP.Sr {v : Nat → Nat} (C : CP S q s) (hq : isQ q) : CP (m_si (sr_S S q (fun k => nI (v k))) 8 3 1) q (p_S s v) := by
  have hb := hq.b
  have k : ∀ a j, ¬ (a = q ∧ j < 4) → ¬ (a = 8 ∧ j = 3) → m_gi (m_si (sr_S S q (fun k => nI (v k))) 8 3 1) a j = m_gi S a j := by
    intro a j h1 h3
    rw [m_gi_si, if_neg h3, g_sr, if_neg (by omega), if_neg (by omega), if_neg (by omega), if_neg (by omega)]
  refine ⟨⟨C.1.1, ?_⟩, fun i hi => ?_, ⟨(k _ _ (by omega) (by omega)).trans C.2.2.1.1, (k _ _ (by omega) (by omega)).trans C.2.2.1.2.1, (k _ _ (by omega) (by omega)).trans C.2.2.1.2.2⟩, fun c hc' => ?_, fun c hc' => ?_⟩
  · rw [m_gi_si, if_pos ⟨rfl, rfl⟩]; rfl
  · rw [m_gi_si, if_neg (by omega), g_sr]
    show _ = nI (v i)
    match i, hi with
    | 0, _ => rw [if_neg (by omega), if_neg (by omega), if_neg (by omega), if_pos ⟨rfl, rfl⟩]
    | 1, _ => rw [if_neg (by omega), if_neg (by omega), if_pos ⟨rfl, rfl⟩]
    | 2, _ => rw [if_neg (by omega), if_pos ⟨rfl, rfl⟩]
    | 3, _ => rw [if_pos ⟨rfl, rfl⟩]
  · have h := C.2.2.2.1 c hc'
    exact ⟨(k _ _ (by omega) (by omega)).trans h.1, (k _ _ (by omega) (by omega)).trans h.2.1, (k _ _ (by omega) (by omega)).trans h.2.2.1, (k _ _ (by omega) (by omega)).trans h.2.2.2.1, (k _ _ (by omega) (by omega)).trans h.2.2.2.2⟩
  · have h := C.2.2.2.2 c hc'
    exact ⟨(k _ _ (by omega) (by omega)).trans h.1, (k _ _ (by omega) (by omega)).trans h.2⟩
def fre (s : ps) (x : Int32) : Prop := x = 115 ∧ p_rd s = false ∨ x = 99 ∧ p_nc s < 10 ∨ x = 112 ∧ p_np s < 6
theorem s_isFree {x : Int32} {Q : mj_S → Int32 → Prop} (hs : Sh L S) (hw : p_wf s) (C : CP S q s) (h1 : fre s x → Q S 1) (h0 : ¬ fre s x → Q S 0) : M_X7_isFree l G 8 x S Q := by
  have nc := hw.1.2
  refine e_X7_isFree (b_X7_isFree_0 hs.k8 ⟨fun z => ⟨q, C.1.1, ?_⟩, fun z => ⟨q, C.1.1, ?_⟩, fun z => ?_, fun z => ?_⟩)
  · have e : x = 99 := t_nI (k := 99) (by omega) z
    rw [C.2.2.1.1, show (10 : Int32) = nI 10 from rfl, nI_leI (by omega) (by omega)]
    refine ⟨fun y => h0 (fun w => ?_), fun y => h1 (Or.inr (Or.inl ⟨e, by omega⟩))⟩
    rcases w with w | w | w
    · exact absurd (e.symm.trans w.1) (by decide)
    · omega
    · exact absurd (e.symm.trans w.1) (by decide)
  · have e : x = 112 := t_nI (k := 112) (by omega) z
    rw [C.2.2.1.2.1, show (6 : Int32) = nI 6 from rfl, nI_leI (by omega) (by omega)]
    refine ⟨fun y => h0 (fun w => ?_), fun y => h1 (Or.inr (Or.inr ⟨e, by omega⟩))⟩
    rcases w with w | w | w
    · exact absurd (e.symm.trans w.1) (by decide)
    · exact absurd (e.symm.trans w.1) (by decide)
    · omega
  · have e : x = 115 := t_nI (k := 115) (by omega) z
    rw [C.1.2]
    cases hr : p_rd s with
    | true =>
      refine ⟨fun _ => h0 (fun w => ?_), fun y => absurd y (by decide)⟩
      rcases w with w | w | w
      · rw [hr] at w; exact absurd w.2 (by decide)
      · exact absurd (e.symm.trans w.1) (by decide)
      · exact absurd (e.symm.trans w.1) (by decide)
    | false => exact ⟨fun y => absurd rfl y, fun _ => h1 (Or.inl ⟨e, hr⟩)⟩
  · refine h0 (fun w => ?_)
    rcases w with w | w | w
    · exact z.2.2 (by rw [w.1]; decide)
    · exact z.1 (by rw [w.1]; decide)
    · exact z.2.1 (by rw [w.1]; decide)
theorem RDR.fz {S' : mj_S} {a : Nat} (h : RDR S a t n p) (h1 : S'.1 = S.1) (h2 : m_gp S' a 0 = m_gp S a 0) (h3 : ∀ j, j < 3 → m_gi S' a j = m_gi S a j) (h5 : ∀ j, m_gi S' 7 j = m_gi S 7 j) : RDR S' a t n p := by
  refine ⟨⟨?_, h.1.2.1, ?_, h2.trans h.1.2.2.2⟩, (h3 1 (by omega)).trans h.2.1, (h3 2 (by omega)).trans h.2.2.1, h.2.2.2.1, h.2.2.2.2.1, fun i hi => (h5 i).trans (h.2.2.2.2.2.1 i hi), h.2.2.2.2.2.2⟩
  · unfold m_kd; rw [h1]; exact h.1.1
  · unfold m_ln; rw [h1]; exact h.1.2.2.1
theorem TBL.f8q {S' : mj_S} (h : TBL S) (hq : isQ q) (f : fr (D8 q) S S') : TBL S' := h.keep (fun a j ha => f.i a j (D8_f (by omega) (by omega) (by have := hq.b; omega)))
theorem s_readClause {Q : mj_S → Int32 → Prop} (hs : Sh L S) (hT : TBL S) (hq : isQ q) (hw : p_wf s) (C : CP S q s) (T : RDR S 8 t n p) (h0 : ∀ j, cla t n s p = .inl j → ∀ S', fr (D8 q) S S' → Q S' (nI j)) (h1 : ∀ r, cla t n s p = .inr r → ∀ S', fr (D8 q) S S' → CP S' q r.1 → RDR S' 8 t n r.2 → Q S' (-1)) : M_X7_readClause l G 8 S Q := by
  have hb := hq.b
  have hpn := T.pn
  refine e_X7_readClause (b_X7_readClause_0 hs.k8 (s_peek T (fun S1 e1 T1 => ?_)))
  have f1 : fr D8i S S1 := by rw [e1]; exact fr.si rfl
  have C1 := C.fi hq f1
  have hs1 := hs.fr f1
  refine s_isFree hs1 hw C1 (fun g => ?_) (fun g => ?_)
  · have hlt : skp t n p < n := by
      rcases g with w | w | w
      · exact ((cr_is (p := skp t n p) T.tw (show 115 < 2 ^ 31 by omega)).mp w.1).1
      · exact ((cr_is (p := skp t n p) T.tw (show 99 < 2 ^ 31 by omega)).mp w.1).1
      · exact ((cr_is (p := skp t n p) T.tw (show 112 < 2 ^ 31 by omega)).mp w.1).1
    try simp only [Option.some.injEq, exists_eq_left', fi32, i10, i00, false_implies, true_implies, not_false_eq_true, not_true_eq_false, true_and, and_true, nI_1, lz0, lz1, ix0, ix11, ix2, T1.at_]
    intro S5 e5
    have T5 : RDR S5 8 t n (skp t n p + 1) := by rw [e5]; exact T1.mv hlt
    have f5 : fr D8i S S5 := f1.tr (by rw [e5]; exact fr.si rfl)
    have hs5 := hs.fr f5
    have c12 : (12 : Int32).toNatClampNeg = 12 := by decide
    refine ⟨19, hs5.p8_5, ⟨by decide, by decide, by decide, by rw [hs5.l3, c12]; omega, by rw [hs5.l19, c12]; omega⟩, fun S7 e7 => ?_⟩
    have f7 : fr D8i S S7 := f5.tr (by rw [e7]; exact fr.row (fun j => by unfold D8i; simp))
    have C7 := C.fi hq f7
    have hs7 := hs.fr f7
    have T7 : RDR S7 8 t n (skp t n p + 1) := T5.fz (by rw [e7]; rfl) (by rw [e7]; rfl) (fun j hj => by rw [e7, m_gi_row, if_neg (by omega)]) (fun j => by rw [e7, m_gi_row, if_neg (by omega)])
    have hT7 := hT.f8 f7
    have hv7 : ∀ i, i < 12 → m_gi S7 19 i = nI (tb US i) := by
      intro i hi
      rw [e7, m_gi_row, if_pos rfl, c12]
      show (if 0 ≤ i ∧ i < 0 + 12 then m_gi S5 3 (0 + (i - 0)) else m_gi S5 19 i) = _
      rw [if_pos (by omega), Nat.zero_add, Nat.sub_zero]
      exact ((hT.f8 f5).1 i hi).2.2.2
    unfold cla at h0 h1
    by_cases g1 : cr t n (skp t n p) = 115 ∧ p_rd s = false
    · rw [if_pos g1] at h0 h1
      refine ⟨fun z => absurd g1.1 z, fun _ => ?_⟩
      refine s_readItems (f := 0) (m := 4) (v := fun k => tb US (0 + k)) (by omega) T7 hs7 hT7 (fun k hk => hv7 _ (by omega)) (fun j ej S8 f8 => ?_) (fun r er S8 f8 T8 hv8 => ?_)
      all_goals
        have hs8 := hs7.fr f8
        have f08 : fr (D8 q) S S8 := D8i_8 (f7.tr f8)
        try simp only [Option.some.injEq, exists_eq_left', fi32, i10, i00, false_implies, true_implies, not_false_eq_true, not_true_eq_false, true_and, and_true, nI_1, lz0, lz1, ix0, ix11, ix2, (C7.fi hq f8).1.1, hs8.p8_5]
      · have ej' : itz t n 0 4 (skp t n p + 1) = .inl j := ej
        rw [ej'] at h0
        refine s_setRules (v := fun k => m_gi S8 19 k) hs8 hq (Or.inr rfl) (fun k hk => rfl) (fun S9 e9 S10 e10 => h0 j rfl S10 ?_)
        have f9 : fr (D8 q) S8 S9 := by rw [e9]; exact fr_sr
        have f10 : fr (D8 q) S9 S10 := by rw [e10]; exact fr.si (by unfold D8; simp)
        exact f08.tr (f9.tr f10)
      · have er' : itz t n 0 4 (skp t n p + 1) = .inr r := er
        rw [er'] at h1
        refine s_setRules (v := fun k => nI (r.1 k)) hs8 hq (Or.inr rfl) (fun k hk => by have := hv8 k hk; rw [Nat.zero_add] at this; exact this) (fun S9 e9 S10 e10 => h1 _ rfl S10 ?_ ?_ ?_)
        · have f9 : fr (D8 q) S8 S9 := by rw [e9]; exact fr_sr
          have f10 : fr (D8 q) S9 S10 := by rw [e10]; exact fr.si (by unfold D8; simp)
          exact f08.tr (f9.tr f10)
        · rw [e10, e9]; exact (C7.fi hq f8).Sr hq
        · refine T8.fz (by rw [e10, e9]; rfl) (by rw [e10, e9]; rfl) (fun j hj => ?_) (fun j => ?_)
          · rw [e10, m_gi_si, if_neg (by omega), e9, g_sr, if_neg (by omega), if_neg (by omega), if_neg (by omega), if_neg (by omega)]
          · rw [e10, m_gi_si, if_neg (by omega), e9, g_sr, if_neg (by omega), if_neg (by omega), if_neg (by omega), if_neg (by omega)]
    · rw [if_neg g1] at h0 h1
      by_cases g2 : cr t n (skp t n p) = 99 ∧ p_nc s < 10
      · rw [if_pos g2] at h0 h1
        refine ⟨fun _ => ⟨fun z => absurd g2.1 z, fun _ => ?_⟩, fun z => absurd (g2.1.symm.trans z) (by decide)⟩
        refine s_readItems (f := 4) (m := 6) (v := fun k => tb US (4 + k)) (by omega) T7 hs7 hT7 (fun k hk => hv7 _ (by omega)) (fun j ej S8 f8 => ?_) (fun r er S8 f8 T8 hv8 => ?_)
        all_goals
          have hs8 := hs7.fr f8
          have f08 : fr (D8 q) S S8 := D8i_8 (f7.tr f8)
          have C8 := C7.fi hq f8
          try simp only [Option.some.injEq, exists_eq_left', fi32, i10, i00, false_implies, true_implies, not_false_eq_true, not_true_eq_false, true_and, and_true, nI_1, lz0, lz1, ix0, ix11, ix2, C8.1.1, hs8.p8_5]
        · have ej' : itz t n 4 6 (skp t n p + 1) = .inl j := ej
          rw [ej'] at h0
          refine s_addCurtain (c := p_nc s) (v := fun k => m_gi S8 19 (4 + k)) hs8 hq g2.2 C8.2.2.1.1 (fun k hk => rfl) (fun S9 e9 => h0 j rfl S9 ?_)
          have f9 : fr (D8 q) S8 S9 := by rw [e9]; exact fr_ac
          exact f08.tr f9
        · have er' : itz t n 4 6 (skp t n p + 1) = .inr r := er
          rw [er'] at h1
          have hb5 := (itz_ok (by omega) er' hlt T.tw).1 5 (by omega)
          refine s_addCurtain (c := p_nc s) (v := fun k => nI (r.1 k)) hs8 hq g2.2 C8.2.2.1.1 hv8 (fun S9 e9 => h1 _ rfl S9 ?_ ?_ ?_)
          · have f9 : fr (D8 q) S8 S9 := by rw [e9]; exact fr_ac
            exact f08.tr f9
          · rw [e9]; exact C8.C hq g2.2 (Nat.le_trans hb5.2 (by decide))
          · refine T8.fz (by rw [e9]; rfl) (by rw [e9]; rfl) (fun j hj => ?_) (fun j => ?_)
            · rw [e9, g_ac, if_neg (by omega), if_neg (by omega), if_neg (by omega), if_neg (by omega), if_neg (by omega), if_neg (by omega), if_neg (by omega)]
            · rw [e9, g_ac, if_neg (by omega), if_neg (by omega), if_neg (by omega), if_neg (by omega), if_neg (by omega), if_neg (by omega), if_neg (by omega)]
      · rw [if_neg g2] at h0 h1
        have g3 : cr t n (skp t n p) = 112 ∧ p_np s < 6 := by
          rcases g with w | w | w
          · exact absurd w g1
          · exact absurd w g2
          · exact w
        rw [if_pos g3] at h0 h1
        refine ⟨fun _ => ⟨fun _ => ?_, fun z => absurd (g3.1.symm.trans z) (by decide)⟩, fun z => absurd (g3.1.symm.trans z) (by decide)⟩
        refine s_readItems (f := 10) (m := 2) (v := fun k => tb US (10 + k)) (by omega) T7 hs7 hT7 (fun k hk => hv7 _ (by omega)) (fun j ej S8 f8 => ?_) (fun r er S8 f8 T8 hv8 => ?_)
        all_goals
          have hs8 := hs7.fr f8
          have f08 : fr (D8 q) S S8 := D8i_8 (f7.tr f8)
          have C8 := C7.fi hq f8
          try simp only [Option.some.injEq, exists_eq_left', fi32, i10, i00, false_implies, true_implies, not_false_eq_true, not_true_eq_false, true_and, and_true, nI_1, lz0, lz1, ix0, ix11, ix2, C8.1.1, hs8.p8_5]
        · have ej' : itz t n 10 2 (skp t n p + 1) = .inl j := ej
          rw [ej'] at h0
          refine s_addPerson (c := p_np s) (v := fun k => m_gi S8 19 (10 + k)) hs8 hq g3.2 C8.2.2.1.2.1 (fun k hk => rfl) (fun S9 e9 => h0 j rfl S9 ?_)
          have f9 : fr (D8 q) S8 S9 := by rw [e9]; exact fr_ap
          exact f08.tr f9
        · have er' : itz t n 10 2 (skp t n p + 1) = .inr r := er
          rw [er'] at h1
          refine s_addPerson (c := p_np s) (v := fun k => nI (r.1 k)) hs8 hq g3.2 C8.2.2.1.2.1 hv8 (fun S9 e9 => h1 _ rfl S9 ?_ ?_ ?_)
          · have f9 : fr (D8 q) S8 S9 := by rw [e9]; exact fr_ap
            exact f08.tr f9
          · rw [e9]; exact C8.P hq
          · refine T8.fz (by rw [e9]; rfl) (by rw [e9]; rfl) (fun j hj => ?_) (fun j => ?_)
            · rw [e9, g_ap, if_neg (by omega), if_neg (by omega), if_neg (by omega)]
            · rw [e9, g_ap, if_neg (by omega), if_neg (by omega), if_neg (by omega)]
  · unfold cla at h0
    have g1 : ¬ (cr t n (skp t n p) = 115 ∧ p_rd s = false) := fun z => g (Or.inl z)
    have g2 : ¬ (cr t n (skp t n p) = 99 ∧ p_nc s < 10) := fun z => g (Or.inr (Or.inl z))
    have g3 : ¬ (cr t n (skp t n p) = 112 ∧ p_np s < 6) := fun z => g (Or.inr (Or.inr z))
    rw [if_neg g1, if_neg g2, if_neg g3] at h0
    try simp only [Option.some.injEq, exists_eq_left', fi32, i10, i00, false_implies, true_implies, not_false_eq_true, not_true_eq_false, true_and, and_true, nI_1, lz0, lz1, ix0, ix11, ix2, T1.at_]
    exact h0 _ rfl S1 (D8i_8 f1)
end CR3
