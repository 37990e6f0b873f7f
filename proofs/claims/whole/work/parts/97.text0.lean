/-! fault and text of a room -/
def Dtx (q : Nat) (a j : Nat) : Bool := D8 q a j || ((Nat.beq a 6 && Nat.beq j 1) || Den a j)
def Etx (a j : Nat) : Bool := E8 a j || E6 a j
def Drx (a j : Nat) : Bool := D100 a j || ((Nat.beq a 89 && Nat.beq j 2) || Dtk a j)
theorem fq.wd {D D' E E' : Nat → Nat → Bool} {S S' : mj_S} (h : fq D E S S') (hD : ∀ a j, D' a j = false → D a j = false) (hE : ∀ a j, E' a j = false → E a j = false) : fq D' E' S S' := ⟨h.1, fun a j z => h.2.1 a j (hD a j z), h.2.2.1, fun a j z => h.2.2.2 a j (hE a j z)⟩
theorem rdr_lt {T : tpe} (ok : tp_ok T) : ∀ (g : Nat) (s : ps) (p j : Nat), rdr T.1 T.2 g s p = .inl j → p ≤ T.2 → j < 1000 := by
  intro g
  induction g with
  | zero => intro s p j e _; cases e; omega
  | succ g ih =>
    intro s p j e hp
    have e' : (match cla T.1 T.2 s p with
      | .inl j => (.inl j : Nat ⊕ ps)
      | .inr r => if T.2 ≤ skp T.1 T.2 r.2 then (if whl r.1 = true then .inr r.1 else .inl T.2) else if T.1 (skp T.1 T.2 r.2) = 59 then rdr T.1 T.2 g r.1 (skp T.1 T.2 r.2 + 1) else .inl (skp T.1 T.2 r.2)) = .inl j := e
    cases ec : cla T.1 T.2 s p with
    | inl i => rw [ec] at e'; cases e'; exact cla_lt ec hp ok.1 ok.2
    | inr w =>
      rw [ec] at e'
      simp only at e'
      by_cases g1 : T.2 ≤ skp T.1 T.2 w.2
      · rw [if_pos g1] at e'
        split at e'
        · cases e'
        · cases e'; have := ok.1; omega
      · rw [if_neg g1] at e'
        split at e'
        · exact ih _ _ _ e' (by omega)
        · cases e'; have := ok.1; omega
section TX
variable {l : Launch} {G : mj_G} {L : Nat} {S : mj_S} {T : tpe} {q r : Nat} {Q : mj_S → Int32 → Prop}
theorem TCf.k (h : TCf S T) {S' : mj_S} (k1 : m_gi S' 6 1 = m_gi S 6 1) (k2 : ∀ j, m_gi S' 7 j = m_gi S 7 j) : TCf S' T := ⟨k1.trans h.1, fun i hi => (k2 i).trans (h.2 i hi)⟩
theorem TRf.k (h : TRf S T) {S' : mj_S} (k1 : m_gi S' 89 2 = m_gi S 89 2) (k2 : ∀ j, m_gi S' 90 j = m_gi S 90 j) : TRf S' T := ⟨k1.trans h.1, fun i hi => (k2 i).trans (h.2 i hi)⟩
theorem c_fault0 (hs : Sh L S) (hT : TBL S) (K : TCf S T) (ok : tp_ok T) (hq : isQ q) (p6 : m_gp S 6 6 = some q) (h0 : ∀ j, rdr T.1 T.2 18 p_0 0 = .inl j → ∀ S', fq (D8 q) E8 S S' → Q S' (nI j)) (h1 : ∀ s', rdr T.1 T.2 18 p_0 0 = .inr s' → ∀ S', fq (D8 q) E8 S S' → Q S' (-1)) : M_X10_fault l G 6 0 S Q := by
  refine e_X10_fault (b_X10_fault_0 hs.k6 ⟨fun z => absurd rfl z, fun _ => ⟨8, hs.p6_2, 7, hs.p6_0, q, p6, ?_⟩⟩)
  rw [K.1]
  exact s_read hs hT hq ok.1 K.2 ok.2 h0 (fun s' e _ _ S' f _ => h1 s' e S' f)
theorem d_fault0 (hs : Sh L S) (K : TRf S T) (ok : tp_ok T) (h0 : ∀ j, rdr T.1 T.2 18 p_0 0 = .inl j → ∀ S', fr D100 S S' → Q S' (nI j)) (h1 : ∀ s', rdr T.1 T.2 18 p_0 0 = .inr s' → ∀ S', fr D100 S S' → Q S' (-1)) : M_X11_fault l G 89 0 S Q := by
  refine e_X11_fault (b_X11_fault_0 hs.k89 ⟨fun z => absurd rfl z, fun _ => ?_⟩)
  exact s_readRoom hs ok.1 K.1 K.2 ok.2 h0 (fun s' e _ _ S' f _ => h1 s' e S' f)
theorem Dtx_f {a j : Nat} (h : Dtx q a j = false) : D8 q a j = false ∧ ¬ (a = 6 ∧ j = 1) ∧ Den a j = false := by
  unfold Dtx at h
  rw [Bool.or_eq_false_iff, Bool.or_eq_false_iff] at h
  refine ⟨h.1, fun z => ?_, h.2.2⟩
  have := h.2.1
  rw [z.1, z.2] at this
  revert this; decide
theorem Etx_f {a j : Nat} (h : Etx a j = false) : E8 a j = false ∧ E6 a j = false := by
  unfold Etx at h
  rw [Bool.or_eq_false_iff] at h
  exact h
theorem c_text0 (hs : Sh L S) (hT : TBL S) (K : TCf S T) (ok : tp_ok T) (hq : isQ q) (hr : isQ r) (hne : q ≠ r) (p5 : m_gp S 6 5 = some r) (p6 : m_gp S 6 6 = some q) (h0 : ∀ j, rdr T.1 T.2 18 p_0 0 = .inl j → ∀ S', fq (D8 q) E8 S S' → Q S' (-1)) (h1 : ∀ s', rdr T.1 T.2 18 p_0 0 = .inr s' → p_wf s' → p_ok s' → ∀ S', fq (Dtx q) Etx S S' → CI L S' q 50 q (p_R s') (p_s s') → m_gp S' 6 6 = some r → m_gi S' 6 1 = 0 → m_gi S' 74 0 = 0 → m_gi S' 74 4 = 0 → m_gi S' 6 16 = 0 → m_gi S' 6 17 = 0 → m_gi S' 6 18 = 0 → Q S' (nI (p_n s'))) : M_X10_text l G 6 0 S Q := by
  have hb := hq.b
  refine e_X10_text (b_X10_text_0 hs.k6 ⟨fun z => absurd rfl z, fun _ => ⟨8, hs.p6_2, 7, hs.p6_0, q, p6, ?_⟩⟩)
  rw [K.1]
  refine s_read hs hT hq ok.1 K.2 ok.2 (fun j ej S4 f4 => ?_) (fun s' es hw hk S4 f4 CR => ?_)
  · have hj : j < 2 ^ 31 := by have := rdr_lt ok 18 p_0 0 j ej (Nat.zero_le _); omega
    exact ⟨fun _ => b_X10_text_37 (hs.fq8 f4).k6 ⟨fun _ => h0 j ej S4 f4, fun z => absurd z (by decide)⟩, fun z => absurd z (nI_m1 hj)⟩
  · refine ⟨fun z => absurd rfl z, fun _ S6 e6 => ?_⟩
    have hs4 := hs.fq8 f4
    have hs6 : Sh L S6 := by rw [e6]; exact hs4
    have CR6 : CRm S6 q s' := by
      have k : ∀ a j, q ≤ a → m_gi S6 a j = m_gi S4 a j := fun a j h => by rw [e6, m_gi_si, if_neg (by omega)]
      exact ⟨CR.1.keep (fun a j h1 _ => k a j h1), fun c hc => (k _ _ (by omega)).trans (CR.2.1 c hc), (k _ _ (by omega)).trans CR.2.2.1, fun p hp => (k _ _ (by omega)).trans (CR.2.2.2 p hp)⟩
    have p56 : m_gp S6 6 5 = some r := by rw [e6, m_gp_si, f4.2.2.2 6 5 (by decide)]; exact p5
    have p66 : m_gp S6 6 6 = some q := by rw [e6, m_gp_si, f4.2.2.2 6 6 (by decide)]; exact p6
    refine s_enterSpare hs6 hq hr hne p56 p66 hw hk CR6 (fun S' f' CI' g6 a b c d e => h1 s' es hw hk S' ?_ CI' g6 ?_ a b c d e)
    · have x1 : fq (Dtx q) Etx S S4 := f4.wd (fun a j h => (Dtx_f h).1) (fun a j h => (Etx_f h).1)
      have x2 : fq (Dtx q) Etx S4 S6 := by
        refine ⟨by rw [e6]; rfl, fun a j z => ?_, fun a j => by rw [e6]; rfl, fun a j z => by rw [e6]; rfl⟩
        rw [e6, m_gi_si, if_neg (Dtx_f z).2.1]
      exact (x1.tr x2).tr (f'.wd (fun a j h => (Dtx_f h).2.2) (fun a j h => (Etx_f h).2))
    · rw [f'.2.1 6 1 (by decide), e6, m_gi_si, if_pos ⟨rfl, rfl⟩]
theorem d_text0 (hs : Sh L S) (K : TRf S T) (ok : tp_ok T) (h0 : ∀ j, rdr T.1 T.2 18 p_0 0 = .inl j → ∀ S', fr D100 S S' → Q S' (-1)) (h1 : ∀ s', rdr T.1 T.2 18 p_0 0 = .inr s' → p_wf s' → p_ok s' → ∀ S', fr Drx S S' → RI L S' (p_R s') (p_s s') → m_gi S' 89 2 = 0 → m_gi S' 89 44 = 0 → m_gi S' 89 37 = 0 → m_gi S' 89 46 = 0 → (∀ j, 17 ≤ j → j < 199 → m_gi S' 106 j = 0) → Q S' (nI (p_n s'))) : M_X11_text l G 89 0 S Q := by
  refine e_X11_text (b_X11_text_0 hs.k89 ⟨fun z => absurd rfl z, fun _ => ?_⟩)
  refine s_readRoom hs ok.1 K.1 K.2 ok.2 (fun j ej S4 f4 => ?_) (fun s' es hw hk S4 f4 C4 => ?_)
  · exact ⟨fun _ => b_X11_text_22 (hs.fr f4).k89 ⟨fun _ => h0 j ej S4 f4, fun z => absurd z (by decide)⟩, fun z => absurd z (nI_m1 (by have := rdr_lt ok 18 p_0 0 j ej (Nat.zero_le _); omega))⟩
  · refine ⟨fun z => absurd rfl z, fun _ S6 e6 => ?_⟩
    have hs4 := hs.fr f4
    have hs6 : Sh L S6 := by rw [e6]; exact hs4
    have C6 : RP S6 s' := C4.k (fun j a b => by rw [e6, m_gi_si, if_neg (by omega)]) (fun a j x y => by rw [e6, m_gi_si, if_neg (by omega)])
    refine s_takeRoom hs6 hw hk C6 (fun S' f' R' a b c d => h1 s' es hw hk S' ?_ R' ?_ a b c d)
    · have x1 : fr Drx S S4 := f4.wid (fun a j h => by unfold Drx at h; rw [Bool.or_eq_false_iff] at h; exact h.1)
      have x2 : fr Drx S4 S6 := by rw [e6]; exact fr.si rfl
      exact (x1.tr x2).tr (f'.wid (fun a j h => by unfold Drx at h; rw [Bool.or_eq_false_iff, Bool.or_eq_false_iff] at h; exact h.2.2))
    · rw [f'.i 89 2 (by decide), e6, m_gi_si, if_pos ⟨rfl, rfl⟩]
end TX
