/-! the reference's readRoom -/
def D100 (a j : Nat) : Bool := (Nat.beq a 89 && (Nat.beq j 3 || (Nat.beq j 4 || (Nat.beq j 20 || Nat.beq j 21)))) || (Nat.ble 100 a && Nat.ble a 102)
theorem D100_f {a j : Nat} (h1 : ¬ (a = 89 ∧ (j = 3 ∨ j = 4 ∨ j = 20 ∨ j = 21))) (h2 : a < 100 ∨ 102 < a) : D100 a j = false := by
  rw [← Bool.not_eq_true]
  intro z
  unfold D100 at z
  simp only [Bool.or_eq_true, Bool.and_eq_true, Nat.beq_eq, Nat.ble_eq] at z
  omega
theorem D100_t {a j : Nat} (h : (a = 89 ∧ (j = 3 ∨ j = 4 ∨ j = 20 ∨ j = 21)) ∨ (100 ≤ a ∧ a ≤ 102)) : D100 a j = true := by
  unfold D100
  simp only [Bool.or_eq_true, Bool.and_eq_true, Nat.beq_eq, Nat.ble_eq]
  exact h
theorem Dit_100 {u b m : Nat} {S S' : mj_S} (hu : 100 ≤ u ∧ u ≤ 102) (f : fr (Dit u b m) S S') : fr D100 S S' := f.wid (fun a j h => by
  refine Dit_no (fun z => ?_) (fun z => ?_)
  · rw [D100_t (by omega)] at h; cases h
  · rw [D100_t (by omega)] at h; cases h)
theorem D89_100 {S S' : mj_S} (f : fr D89 S S') : fr D100 S S' := f.wid (fun a j h => by
  rw [← Bool.not_eq_true]
  intro z
  unfold D89 at z
  simp only [Bool.or_eq_true, Bool.and_eq_true, Nat.beq_eq] at z
  rw [D100_t (by omega)] at h; cases h)
section RRm
variable {l : Launch} {G : mj_G} {L : Nat} {n : Nat} {t : Nat → Nat}
theorem RP.k {S S' : mj_S} {s : ps} (h : RP S s) (k1 : ∀ j, 20 ≤ j → j ≤ 21 → m_gi S' 89 j = m_gi S 89 j) (k2 : ∀ a j, 100 ≤ a → a ≤ 102 → m_gi S' a j = m_gi S a j) : RP S' s := ⟨⟨(k1 _ (by omega) (by omega)).trans h.1.1, (k1 _ (by omega) (by omega)).trans h.1.2⟩, fun k hk => (k2 _ _ (by omega) (by omega)).trans (h.2.1 k hk), fun c hc k hk => (k2 _ _ (by omega) (by omega)).trans (h.2.2.1 c hc k hk), fun c hc k hk => (k2 _ _ (by omega) (by omega)).trans (h.2.2.2 c hc k hk)⟩
theorem s_rr283 {S : mj_S} {p : Nat} {Q : mj_S → Int32 → Prop} (T : RRD S t n p) (w : m_gi S 89 4 = -1) (h : ∀ S', fr D100 S S' → Q S' (nI p)) : V_X11_readRoom_283 l G 89 S Q := by
  refine b_X11_readRoom_283 T.1.1 (s_bad T w (fun S' e' => ?_))
  rw [show m_gi S' 89 4 = nI p from by rw [e', m_gi_si, if_pos ⟨rfl, rfl⟩]]
  exact h S' (by rw [e']; exact fr.si (D100_t (by omega)))
/-- after the loop with a fault at j that stands -/
theorem s_rr260e {S : mj_S} {j : Nat} {Q : mj_S → Int32 → Prop} (hs : Sh L S) (B : IBad S t n j) (h : ∀ S', fr D100 S S' → Q S' (nI j)) : V_X11_readRoom_260 l G 89 S Q := by
  rcases B with ⟨w, hj⟩ | ⟨w, T, hsk, hjn, h59⟩
  · refine b_X11_readRoom_260 hs.k89 ⟨fun _ => ?_, fun z => absurd (w.symm.trans z) (nI_m1 (by omega))⟩
    rw [w]; exact h S fr.rf
  · refine b_X11_readRoom_260 hs.k89 ⟨fun z => absurd w z, fun _ => s_look T (fun S1 e1 T1 => ⟨fun _ => ?_, fun z => ?_⟩)⟩
    · rw [hsk] at T1
      refine s_rr283 T1 (by rw [e1, m_gi_si, if_neg (by omega)]; exact w) (fun S' f' => h S' ?_)
      exact (show fr D100 S S1 by rw [e1]; exact fr.si (D100_t (by omega))).tr f'
    · rw [hsk] at z
      have := (cr_m1 T.tw).mp z
      omega
theorem s_rr238e {S : mj_S} {j : Nat} {x1 : Int32} {Q : mj_S → Int32 → Prop} (hs : Sh L S) (B : IBad S t n j) (h : ∀ S', fr D100 S S' → Q S' (nI j)) : V_X11_readRoom_238 l G 89 x1 0 S Q := by
  refine b_X11_readRoom_238 hs.k89 ⟨fun _ S1 e1 => ?_, fun z => absurd rfl z⟩
  have e : S1 = S := by
    rw [e1, show m_gi S 89 3 + 0 = m_gi S 89 3 from by simp, m_si_self]
  rw [e]
  exact b_X11_readRoom_49 hs.k89 ⟨fun _ => s_rr260e hs B h, fun z => absurd rfl z⟩
theorem s_rr216e {S : mj_S} {j : Nat} {x1 : Int32} {Q : mj_S → Int32 → Prop} (hs : Sh L S) (B : IBad S t n j) (h : ∀ S', fr D100 S S' → Q S' (nI j)) : V_X11_readRoom_216 l G 89 x1 S Q := by
  have B0 := B
  rcases B with ⟨w, hj⟩ | ⟨w, T, hsk, hjn, h59⟩
  · exact b_X11_readRoom_216 hs.k89 ⟨fun _ => s_rr238e hs B0 h, fun z => absurd (w.symm.trans z) (nI_m1 (by omega))⟩
  · refine b_X11_readRoom_216 hs.k89 ⟨fun z => absurd w z, fun _ => s_look T (fun S1 e1 T1 => ⟨fun _ => ?_, fun z => ?_⟩)⟩
    · rw [hsk] at T1
      have f1 : fr D100 S S1 := by rw [e1]; exact fr.si (D100_t (by omega))
      exact s_rr238e (hs.fr f1) (Or.inr ⟨by rw [e1, m_gi_si, if_neg (by omega)]; exact w, T1, hsk, hjn, h59⟩) (fun S' f' => h S' (f1.tr f'))
    · rw [hsk] at z
      exact absurd ((cr_is T.tw (k := 59) (by omega)).mp z).2 h59
theorem IBad.s20 {S S' : mj_S} {j : Nat} (B : IBad S t n j) (h1 : S'.1 = S.1) (h2 : m_gp S' 89 1 = m_gp S 89 1) (h3 : ∀ i, i < 5 → m_gi S' 89 i = m_gi S 89 i) (h4 : ∀ i, m_gi S' 90 i = m_gi S 90 i) : IBad S' t n j := by
  rcases B with ⟨w, hj⟩ | ⟨w, T, hsk, hjn, h59⟩
  · exact Or.inl ⟨(h3 4 (by omega)).trans w, hj⟩
  · exact Or.inr ⟨(h3 4 (by omega)).trans w, T.keep h1 h2 (h3 2 (by omega)) (h3 3 (by omega)) h4, hsk, hjn, h59⟩
theorem s_rr49 : ∀ (g : Nat) (s : ps) (p : Nat) (S : mj_S) (Q : mj_S → Int32 → Prop), g + p_k s = 18 → p_wf s → Sh L S → RP S s → RRD S t n p → m_gi S 89 4 = -1 → (∀ j, rdr t n g s p = .inl j → ∀ S', fr D100 S S' → Q S' (nI j)) → (∀ s', rdr t n g s p = .inr s' → p_wf s' → p_ok s' → ∀ S', fr D100 S S' → RP S' s' → Q S' (-1)) → V_X11_readRoom_49 l G 89 (if p_rd s = true then 1 else 0) 1 S Q
  | 0, s, p, S, Q, eg, hw, hs, C, T, w, h0, h1 => by
    have := p_k_le hw
    omega
  | g + 1, s, p, S, Q, eg, hw, hs, C, T, w, h0, h1 => by
    have hpn := T.pn
    have nc := hw.1.2
    have h0' : ∀ j, (match cla t n s p with
      | .inl j => (.inl j : Nat ⊕ ps)
      | .inr r => if n ≤ skp t n r.2 then (if whl r.1 = true then .inr r.1 else .inl n) else if t (skp t n r.2) = 59 then rdr t n g r.1 (skp t n r.2 + 1) else .inl (skp t n r.2)) = .inl j → ∀ S', fr D100 S S' → Q S' (nI j) := h0
    have h1' : ∀ s', (match cla t n s p with
      | .inl j => (.inl j : Nat ⊕ ps)
      | .inr r => if n ≤ skp t n r.2 then (if whl r.1 = true then .inr r.1 else .inl n) else if t (skp t n r.2) = 59 then rdr t n g r.1 (skp t n r.2 + 1) else .inl (skp t n r.2)) = .inr s' → p_wf s' → p_ok s' → ∀ S', fr D100 S S' → RP S' s' → Q S' (-1) := h1
    clear h0 h1
    -- what comes after a clause that was read well
    have after : ∀ r, cla t n s p = .inr r → ∀ S1, fr D100 S S1 → RP S1 r.1 → RRD S1 t n r.2 → m_gi S1 89 4 = -1 → V_X11_readRoom_216 l G 89 (if p_rd r.1 = true then 1 else 0) S1 Q := by
      intro r er S1 f1 C1 T1 w1
      rw [er] at h0' h1'
      simp only at h0' h1'
      have hok := cla_ok hw er hpn.1 T.tw
      have hs1 := hs.fr f1
      have hq2 := skp_b (t := t) hok.2.1
      refine b_X11_readRoom_216 hs1.k89 ⟨fun z => absurd w1 z, fun _ => s_look T1 (fun S3 e3 T3 => ?_)⟩
      have f3 : fr D100 S S3 := f1.tr (by rw [e3]; exact fr.si (D100_t (by omega)))
      have hs3 := hs.fr f3
      have w3 : m_gi S3 89 4 = -1 := by rw [e3, m_gi_si, if_neg (by omega)]; exact w1
      have C3 : RP S3 r.1 := C1.k (fun j a b => by rw [e3, m_gi_si, if_neg (by omega)]) (fun a j x y => by rw [e3, m_gi_si, if_neg (by omega)])
      rw [show (59 : Int32) = nI 59 from rfl, cr_is T.tw (by omega)]
      refine ⟨fun z => ?_, fun z => ?_⟩
      · refine b_X11_readRoom_238 hs3.k89 ⟨fun _ S4 e4 => ?_, fun y => absurd rfl y⟩
        have e : S4 = S3 := by
          rw [e4, show m_gi S3 89 3 + 0 = m_gi S3 89 3 from by simp, m_si_self]
        rw [e]
        refine b_X11_readRoom_49 hs3.k89 ⟨fun _ => b_X11_readRoom_260 hs3.k89 ⟨fun y => absurd w3 y, fun _ => s_look T3 (fun S5 e5 T5 => ?_)⟩, fun y => absurd rfl y⟩
        rw [skp_id hok.2.1] at e5 T5 ⊢
        have f5 : fr D100 S S5 := f3.tr (by rw [e5]; exact fr.si (D100_t (by omega)))
        have hs5 := hs.fr f5
        have w5 : m_gi S5 89 4 = -1 := by rw [e5, m_gi_si, if_neg (by omega)]; exact w3
        have C5 : RP S5 r.1 := C3.k (fun j a b => by rw [e5, m_gi_si, if_neg (by omega)]) (fun a j x y => by rw [e5, m_gi_si, if_neg (by omega)])
        by_cases ee : n ≤ skp t n r.2
        · rw [if_pos ee] at h0' h1'
          refine ⟨fun y => absurd ((cr_m1 T.tw).mpr ee) y, fun _ => s_isWhole hs5 hok.1 C5 (fun ok => ?_) (fun nok => ?_)⟩
          · rw [if_pos (whl_t.mpr ok)] at h1'
            refine ⟨fun _ => ?_, fun y => absurd y (by decide)⟩
            rw [w5]
            exact h1' r.1 rfl hok.1 ok S5 f5 C5
          · rw [if_neg (fun z => nok (whl_t.mp z))] at h0'
            refine ⟨fun y => absurd rfl y, fun _ => s_rr283 T5 w5 (fun S' f' => ?_)⟩
            rw [show skp t n r.2 = n by omega]
            exact h0' n rfl S' (f5.tr f')
        · rw [if_neg ee, if_neg (fun y => z ⟨by omega, y⟩)] at h0'
          exact ⟨fun _ => s_rr283 T5 w5 (fun S' f' => h0' _ rfl S' (f5.tr f')), fun y => absurd ((cr_m1 T.tw).mp y) ee⟩
      · rw [if_neg (by omega), if_pos z.2] at h0' h1'
        refine b_X11_readRoom_238 hs3.k89 ⟨fun y => absurd y (by decide), fun _ S4 e4 => ?_⟩
        rw [T3.at_, nI_1] at e4
        have f4 : fr D100 S S4 := f3.tr (by rw [e4]; exact fr.si (D100_t (by omega)))
        refine s_rr49 g r.1 _ S4 Q (by omega) hok.1 (hs.fr f4) (C3.k (fun j a b => by rw [e4, m_gi_si, if_neg (by omega)]) (fun a j x y => by rw [e4, m_gi_si, if_neg (by omega)])) (by rw [e4]; exact T3.mv (by omega)) (by rw [e4, m_gi_si, if_neg (by omega)]; exact w3) (fun j ej S' f' => h0' j ej S' (f4.tr f')) (fun s' es a b S' f' => h1' s' es a b S' (f4.tr f'))
    -- a clause that was read with a fault
    have bad : ∀ j, cla t n s p = .inl j → ∀ S1 x, fr D100 S S1 → IBad S1 t n j → V_X11_readRoom_216 l G 89 x S1 Q := by
      intro j ej S1 x f1 B
      rw [ej] at h0'
      exact s_rr216e (hs.fr f1) B (fun S' f' => h0' j rfl S' (f1.tr f'))
    clear h0' h1'
    refine b_X11_readRoom_49 hs.k89 ⟨fun z => absurd z (by decide), fun _ => ⟨fun z => absurd w z, fun _ => s_look T (fun S1 e1 T1 => ?_)⟩⟩
    have f1 : fr D100 S S1 := by rw [e1]; exact fr.si (D100_t (by omega))
    have hs1 := hs.fr f1
    have w1 : m_gi S1 89 4 = -1 := by rw [e1, m_gi_si, if_neg (by omega)]; exact w
    have C1 : RP S1 s := C.k (fun j a b => by rw [e1, m_gi_si, if_neg (by omega)]) (fun a j x y => by rw [e1, m_gi_si, if_neg (by omega)])
    have hq1 := skp_b (t := t) hpn.1
    -- neither s
    have t102 : ¬ (cr t n (skp t n p) = 115 ∧ p_rd s = false) → V_X11_readRoom_102 l G 89 (if p_rd s = true then 1 else 0) (cr t n (skp t n p)) S1 Q := by
      intro g1
      have t158 : ¬ (cr t n (skp t n p) = 99 ∧ p_nc s < 10) → V_X11_readRoom_158 l G 89 (if p_rd s = true then 1 else 0) (cr t n (skp t n p)) S1 Q := by
        intro g2
        have t212 : ¬ (cr t n (skp t n p) = 112 ∧ p_np s < 6) → V_X11_readRoom_212 l G 89 (if p_rd s = true then 1 else 0) S1 Q := by
          intro g3
          refine b_X11_readRoom_212 hs1.k89 (s_bad T1 w1 (fun S2 e2 => ?_))
          refine bad (skp t n p) ?_ S2 _ (f1.tr (by rw [e2]; exact fr.si (D100_t (by omega)))) (Or.inl ⟨by rw [e2, m_gi_si, if_pos ⟨rfl, rfl⟩], by omega⟩)
          unfold cla
          rw [if_neg g1, if_neg g2, if_neg g3]
        refine b_X11_readRoom_158 hs1.k89 ⟨fun z => t212 (fun y => z y.1), fun z => ?_⟩
        rw [C1.1.2, show (6 : Int32) = nI 6 from rfl, nI_leI (by omega) (by omega)]
        refine ⟨fun y => t212 (fun u => by omega), fun y S2 e2 => ⟨102, ?_⟩⟩
        have hlt := ((cr_is T.tw (k := 112) (by omega)).mp z).1
        rw [T1.at_, nI_1] at e2
        have f2 : fr D100 S S2 := f1.tr (by rw [e2]; exact fr.si (D100_t (by omega)))
        have hs2 := hs.fr f2
        have w2 : m_gi S2 89 4 = -1 := by rw [e2, m_gi_si, if_neg (by omega)]; exact w1
        have C2 : RP S2 s := C1.k (fun j a b => by rw [e2, m_gi_si, if_neg (by omega)]) (fun a j x y => by rw [e2, m_gi_si, if_neg (by omega)])
        have T2 : RRD S2 t n (skp t n p + 1) := by rw [e2]; exact T1.mv hlt
        have ecl : cla t n s p = cl1 (itz t n 10 2 (skp t n p + 1)) (p_P s) := by unfold cla; rw [if_neg g1, if_neg g2, if_pos ⟨z, by omega⟩]
        have i2 : (2 : Int32) * nI (p_np s) = nI (2 * p_np s) := nI_mul 2 _
        refine ⟨hs2.p89_19, ?_⟩
        rw [z, C2.1.2, i2]
        refine s_items (sg := 112) (f := 10) (m := 2) (B := 2 * p_np s) (Or.inr (Or.inr ⟨rfl, rfl, rfl⟩)) (by omega) (by omega) (by omega) T2 hs2.k102 (by rw [hs2.l102]; omega) w2 (fun j ej S3 f3 B S4 e4 => ?_) (fun r er S3 f3 T3 w3 hv S4 e4 => ?_)
        · have ej' : itz t n 10 2 (skp t n p + 1) = .inl j := ej
          rw [ej'] at ecl
          exact bad j ecl S4 _ (f2.tr ((Dit_100 (by omega) f3).tr (by rw [e4]; exact fr.si (D100_t (by omega))))) (B.s20 (by rw [e4]; rfl) (by rw [e4]; rfl) (fun i hi => by rw [e4, m_gi_si, if_neg (by omega)]) (fun i => by rw [e4, m_gi_si, if_neg (by omega)]))
        · have er' : itz t n 10 2 (skp t n p + 1) = .inr r := er
          rw [er'] at ecl
          have k3 : ∀ a j, ¬ (a = 89 ∧ (j = 3 ∨ j = 4)) → ¬ (a = 102 ∧ 2 * p_np s ≤ j ∧ j < 2 * p_np s + 2) → m_gi S3 a j = m_gi S2 a j := fun a j x y => f3.i a j (Dit_no x y)
          refine after (p_P s r.1, r.2) ecl S4 (f2.tr ((Dit_100 (by omega) f3).tr (by rw [e4]; exact fr.si (D100_t (by omega))))) ?_ ?_ ?_
          · refine ⟨⟨?_, ?_⟩, fun k hk => ?_, fun c hc k hk => ?_, fun c hc k hk => ?_⟩
            · rw [e4, m_gi_si, if_neg (by omega), k3 _ _ (by omega) (by omega)]; exact C2.1.1
            · rw [e4, m_gi_si, if_pos ⟨rfl, rfl⟩, k3 _ _ (by omega) (by omega), C2.1.2, nI_1]; rfl
            · rw [e4, m_gi_si, if_neg (by omega), k3 _ _ (by omega) (by omega)]; exact C2.2.1 k hk
            · rw [e4, m_gi_si, if_neg (by omega), k3 _ _ (by omega) (by omega)]; exact C2.2.2.1 c hc k hk
            · rw [e4, m_gi_si, if_neg (by omega)]
              have hc' : c < p_np s + 1 := hc
              show m_gi S3 102 (2 * c + k) = nI (if c = p_np s then r.1 k else p_pe s c k)
              by_cases e : c = p_np s
              · rw [if_pos e, e]; exact hv k hk
              · rw [if_neg e, k3 _ _ (by omega) (by omega)]; exact C2.2.2.2 c (by omega) k hk
          · refine T3.keep (by rw [e4]; rfl) (by rw [e4]; rfl) ?_ ?_ (fun j => ?_)
            · rw [e4, m_gi_si, if_neg (by omega)]
            · rw [e4, m_gi_si, if_neg (by omega)]
            · rw [e4, m_gi_si, if_neg (by omega)]
          · rw [e4, m_gi_si, if_neg (by omega)]; exact w3
      refine b_X11_readRoom_102 hs1.k89 ⟨fun z => t158 (fun y => z y.1), fun z => ?_⟩
      rw [C1.1.1, show (10 : Int32) = nI 10 from rfl, nI_leI (by omega) (by omega)]
      refine ⟨fun y => t158 (fun u => by omega), fun y S2 e2 => ⟨101, ?_⟩⟩
      have hlt := ((cr_is T.tw (k := 99) (by omega)).mp z).1
      rw [T1.at_, nI_1] at e2
      have f2 : fr D100 S S2 := f1.tr (by rw [e2]; exact fr.si (D100_t (by omega)))
      have hs2 := hs.fr f2
      have w2 : m_gi S2 89 4 = -1 := by rw [e2, m_gi_si, if_neg (by omega)]; exact w1
      have C2 : RP S2 s := C1.k (fun j a b => by rw [e2, m_gi_si, if_neg (by omega)]) (fun a j x y => by rw [e2, m_gi_si, if_neg (by omega)])
      have T2 : RRD S2 t n (skp t n p + 1) := by rw [e2]; exact T1.mv hlt
      have ecl : cla t n s p = cl1 (itz t n 4 6 (skp t n p + 1)) (p_C s) := by unfold cla; rw [if_neg g1, if_pos ⟨z, by omega⟩]
      have i2 : (6 : Int32) * nI (p_nc s) = nI (6 * p_nc s) := nI_mul 6 _
      refine ⟨hs2.p89_18, ?_⟩
      rw [z, C2.1.1, i2]
      refine s_items (sg := 99) (f := 4) (m := 6) (B := 6 * p_nc s) (Or.inr (Or.inl ⟨rfl, rfl, rfl⟩)) (by omega) (by omega) (by omega) T2 hs2.k101 (by rw [hs2.l101]; omega) w2 (fun j ej S3 f3 B S4 e4 => ?_) (fun r er S3 f3 T3 w3 hv S4 e4 => ?_)
      · have ej' : itz t n 4 6 (skp t n p + 1) = .inl j := ej
        rw [ej'] at ecl
        exact bad j ecl S4 _ (f2.tr ((Dit_100 (by omega) f3).tr (by rw [e4]; exact fr.si (D100_t (by omega))))) (B.s20 (by rw [e4]; rfl) (by rw [e4]; rfl) (fun i hi => by rw [e4, m_gi_si, if_neg (by omega)]) (fun i => by rw [e4, m_gi_si, if_neg (by omega)]))
      · have er' : itz t n 4 6 (skp t n p + 1) = .inr r := er
        rw [er'] at ecl
        have k3 : ∀ a j, ¬ (a = 89 ∧ (j = 3 ∨ j = 4)) → ¬ (a = 101 ∧ 6 * p_nc s ≤ j ∧ j < 6 * p_nc s + 6) → m_gi S3 a j = m_gi S2 a j := fun a j x y => f3.i a j (Dit_no x y)
        refine after (p_C s r.1, r.2) ecl S4 (f2.tr ((Dit_100 (by omega) f3).tr (by rw [e4]; exact fr.si (D100_t (by omega))))) ?_ ?_ ?_
        · refine ⟨⟨?_, ?_⟩, fun k hk => ?_, fun c hc k hk => ?_, fun c hc k hk => ?_⟩
          · rw [e4, m_gi_si, if_pos ⟨rfl, rfl⟩, k3 _ _ (by omega) (by omega), C2.1.1, nI_1]; rfl
          · rw [e4, m_gi_si, if_neg (by omega), k3 _ _ (by omega) (by omega)]; exact C2.1.2
          · rw [e4, m_gi_si, if_neg (by omega), k3 _ _ (by omega) (by omega)]; exact C2.2.1 k hk
          · rw [e4, m_gi_si, if_neg (by omega)]
            have hc' : c < p_nc s + 1 := hc
            show m_gi S3 101 (6 * c + k) = nI (if c = p_nc s then r.1 k else p_cu s c k)
            by_cases e : c = p_nc s
            · rw [if_pos e, e]; exact hv k hk
            · rw [if_neg e, k3 _ _ (by omega) (by omega)]; exact C2.2.2.1 c (by omega) k hk
          · rw [e4, m_gi_si, if_neg (by omega), k3 _ _ (by omega) (by omega)]; exact C2.2.2.2 c hc k hk
        · refine T3.keep (by rw [e4]; rfl) (by rw [e4]; rfl) ?_ ?_ (fun j => ?_)
          · rw [e4, m_gi_si, if_neg (by omega)]
          · rw [e4, m_gi_si, if_neg (by omega)]
          · rw [e4, m_gi_si, if_neg (by omega)]
        · rw [e4, m_gi_si, if_neg (by omega)]; exact w3
    refine ⟨fun z => t102 (fun y => z y.1), fun z => ?_⟩
    cases hrd : p_rd s with
    | true =>
      have : V_X11_readRoom_102 l G 89 (if p_rd s = true then 1 else 0) (cr t n (skp t n p)) S1 Q := t102 (fun y => by rw [hrd] at y; exact absurd y.2 (by decide))
      rw [hrd] at this
      exact ⟨fun _ => this, fun y => absurd y (by decide)⟩
    | false =>
      refine ⟨fun y => absurd rfl y, fun _ S2 e2 => ⟨100, ?_⟩⟩
      have hlt := ((cr_is T.tw (k := 115) (by omega)).mp z).1
      rw [T1.at_, nI_1] at e2
      have f2 : fr D100 S S2 := f1.tr (by rw [e2]; exact fr.si (D100_t (by omega)))
      have hs2 := hs.fr f2
      have w2 : m_gi S2 89 4 = -1 := by rw [e2, m_gi_si, if_neg (by omega)]; exact w1
      have C2 : RP S2 s := C1.k (fun j a b => by rw [e2, m_gi_si, if_neg (by omega)]) (fun a j x y => by rw [e2, m_gi_si, if_neg (by omega)])
      have T2 : RRD S2 t n (skp t n p + 1) := by rw [e2]; exact T1.mv hlt
      have ecl : cla t n s p = cl1 (itz t n 0 4 (skp t n p + 1)) (p_S s) := by unfold cla; rw [if_pos ⟨z, hrd⟩]
      refine ⟨hs2.p89_17, ?_⟩
      rw [z]
      refine s_items (sg := 115) (f := 0) (m := 4) (B := 0) (Or.inl ⟨rfl, rfl, rfl⟩) (by omega) (by omega) (by omega) T2 hs2.k100 (by rw [hs2.l100]; omega) w2 (fun j ej S3 f3 B => ?_) (fun r er S3 f3 T3 w3 hv => ?_)
      · have ej' : itz t n 0 4 (skp t n p + 1) = .inl j := ej
        rw [ej'] at ecl
        exact bad j ecl S3 _ (f2.tr (Dit_100 (by omega) f3)) B
      · have er' : itz t n 0 4 (skp t n p + 1) = .inr r := er
        rw [er'] at ecl
        have k3 : ∀ a j, ¬ (a = 89 ∧ (j = 3 ∨ j = 4)) → ¬ (a = 100 ∧ 0 ≤ j ∧ j < 0 + 4) → m_gi S3 a j = m_gi S2 a j := fun a j x y => f3.i a j (Dit_no x y)
        refine after (p_S s r.1, r.2) ecl S3 (f2.tr (Dit_100 (by omega) f3)) ?_ T3 w3
        refine ⟨⟨?_, ?_⟩, fun k hk => ?_, fun c hc k hk => ?_, fun c hc k hk => ?_⟩
        · rw [k3 _ _ (by omega) (by omega)]; exact C2.1.1
        · rw [k3 _ _ (by omega) (by omega)]; exact C2.1.2
        · have := hv k hk; rw [Nat.zero_add] at this; exact this
        · rw [k3 _ _ (by omega) (by omega)]; exact C2.2.2.1 c hc k hk
        · rw [k3 _ _ (by omega) (by omega)]; exact C2.2.2.2 c hc k hk
end RRm
