/-! the class hangs rails, settles, reads -/
def cok (s : ps) (c : Nat) : Prop := p_cu s c 0 < p_n s ∧ (if p_cu s c 1 = 0 then p_cu s c 0 % p_ru s 0 + 1 < p_ru s 0 else p_cu s c 0 + p_ru s 0 < p_n s) ∧ ∀ o, o < c → ¬ (p_cu s o 0 = p_cu s c 0 ∧ p_cu s o 1 = p_cu s c 1)
section HR
variable {l : Launch} {G : mj_G} {L : Nat} {q : Nat} {s : ps}
theorem p_n_le (hw : p_wf s) : p_n s ≤ 20 := by
  have := hw.ru
  exact Nat.mul_le_mul this.1.2 this.2.1.2
theorem h_bk (hw : p_wf s) {c a u : Nat} (hc : c ≤ p_nc s) : bk (p_R s) (al (p_nc s)) u a c = true ↔ ∃ o, o < c ∧ p_cu s o 1 = u ∧ p_cu s o 0 = a := by
  have nc := hw.1.2.1
  rw [bk_true]
  constructor
  · rintro ⟨o, h1, _, h3, h4⟩; exact ⟨o, h1, h3, h4⟩
  · rintro ⟨o, h1, h3, h4⟩; exact ⟨o, h1, by rw [b_al (by omega)]; exact decide_eq_true (by omega), h3, h4⟩
theorem h_r (hw : p_wf s) {c : Nat} (hc : c < p_nc s) (e0 : p_cu s c 1 = 0) : bt (pr (p_R s) (al (p_nc s)) c) (p_cu s c 0) = true ↔ cok s c := by
  have hn := p_n_le hw
  unfold pr
  rw [b_bs _ _ (show r_n (p_R s) ≤ 32 from Nat.le_trans hn (by omega))]
  rw [Bool.and_eq_true, Bool.and_eq_true, decide_eq_true_iff, decide_eq_true_iff, Bool.not_eq_true', ← Bool.not_eq_true, h_bk hw (by omega)]
  unfold cok
  rw [if_pos e0]
  constructor
  · rintro ⟨h1, h2, h3⟩
    exact ⟨h1, h2, fun o ho z => h3 ⟨o, ho, by rw [z.2, e0], z.1⟩⟩
  · rintro ⟨h1, h2, h3⟩
    exact ⟨h1, h2, fun ⟨o, ho, z1, z2⟩ => h3 o ho ⟨z2, by rw [z1, e0]⟩⟩
theorem h_b (hw : p_wf s) {c : Nat} (hc : c < p_nc s) (e0 : p_cu s c 1 = 1) : bt (pb (p_R s) (al (p_nc s)) c) (p_cu s c 0) = true ↔ cok s c := by
  have hn := p_n_le hw
  unfold pb
  rw [b_bs _ _ (show r_n (p_R s) ≤ 32 from Nat.le_trans hn (by omega))]
  rw [Bool.and_eq_true, Bool.and_eq_true, decide_eq_true_iff, decide_eq_true_iff, Bool.not_eq_true', ← Bool.not_eq_true, h_bk hw (by omega)]
  unfold cok
  rw [if_neg (by omega)]
  constructor
  · rintro ⟨h1, h2, h3⟩
    exact ⟨h1, h2, fun o ho z => h3 ⟨o, ho, by rw [z.2, e0], z.1⟩⟩
  · rintro ⟨h1, h2, h3⟩
    exact ⟨h1, h2, fun ⟨o, ho, z1, z2⟩ => h3 o ho ⟨z2, by rw [z1, e0]⟩⟩
theorem h_pr (hw : p_wf s) {c : Nat} (hc : c < p_nc s) (h : cok s c) (e0 : p_cu s c 1 = 0) : pr (p_R s) (al (p_nc s)) c &&& (on (p_cu s c 0) ^^^ (-1)) = pr (p_R s) (al (p_nc s)) (c + 1) := by
  have hn := p_n_le hw
  have nc := hw.1.2.1
  have hb : bt (al (p_nc s)) c = true := by rw [b_al (by omega)]; exact decide_eq_true hc
  exact bs_off (Nat.le_trans hn (by omega)) h.1 (fun i _ => by rw [bk_s1 hb (show r_rl (p_R s) c = 0 from e0)]; show _ = (decide (i % r_w (p_R s) + 1 < r_w (p_R s)) && !bk (p_R s) (al (p_nc s)) 0 i c && !decide (i = r_nr (p_R s) c)); cases decide (i % r_w (p_R s) + 1 < r_w (p_R s)) <;> cases bk (p_R s) (al (p_nc s)) 0 i c <;> cases decide (i = r_nr (p_R s) c) <;> rfl)
theorem h_pb (hw : p_wf s) {c : Nat} (hc : c < p_nc s) (h : cok s c) (e0 : p_cu s c 1 = 1) : pb (p_R s) (al (p_nc s)) c &&& (on (p_cu s c 0) ^^^ (-1)) = pb (p_R s) (al (p_nc s)) (c + 1) := by
  have hn := p_n_le hw
  have nc := hw.1.2.1
  have hb : bt (al (p_nc s)) c = true := by rw [b_al (by omega)]; exact decide_eq_true hc
  exact bs_off (Nat.le_trans hn (by omega)) h.1 (fun i _ => by rw [bk_s1 hb (show r_rl (p_R s) c = 1 from e0)]; show _ = (decide (i + r_w (p_R s) < r_n (p_R s)) && !bk (p_R s) (al (p_nc s)) 1 i c && !decide (i = r_nr (p_R s) c)); cases decide (i + r_w (p_R s) < r_n (p_R s)) <;> cases bk (p_R s) (al (p_nc s)) 1 i c <;> cases decide (i = r_nr (p_R s) c) <;> rfl)
theorem s_hangV (hq : isQ q) (hw : p_wf s) : ∀ (k c : Nat) (S : mj_S) (Q : mj_S → Int32 → Prop), k + c = p_nc s → Sh L S → CP S q s → (∀ d, d < c → m_gi S (q + 2) d = nI (r_fr (p_R s) d)) → (∀ d, d < c → cok s d) → ((∀ d, d < p_nc s → cok s d) → ∀ S', fr (Dst q) S S' → (∀ j, m_gi S' q j = m_gi S q j) → (∀ d, d < p_nc s → m_gi S' (q + 2) d = nI (r_fr (p_R s) d)) → Q S' 1) → ((¬ ∀ d, d < p_nc s → cok s d) → ∀ S', fr (Dst q) S S' → Q S' 0) → V_X6_hangRails_12 l G q (pr (p_R s) (al (p_nc s)) c) (pb (p_R s) (al (p_nc s)) c) (nI c) S Q
  | 0, c, S, Q, ek, hs, C, hf, hk, h1, h0 => by
    have nc := hw.1.2.1
    refine b_X6_hangRails_12 (hs.rk hq.rm) ?_
    rw [C.2.2.1.1]
    refine ⟨fun _ => ?_, fun z => absurd (nI_le (by omega) (by omega)) z⟩
    have e : c = p_nc s := by omega
    rw [e] at hf hk
    exact h1 hk S fr.rf (fun _ => rfl) hf
  | k + 1, c, S, Q, ek, hs, C, hf, hk, h1, h0 => by
    have nc := hw.1.2.1
    have hb := hq.b
    have hc : c < p_nc s := by omega
    have hu := hw.cu hc
    have hcp := C.2.2.2.1 c hc
    have hr := hq.rm
    have cc : (nI c).toNatClampNeg = c := nI_clamp (by omega)
    have hin : vp_in (nI c) 10 := vp_nI (by omega) (by omega)
    have nr := hw.ru
    have tail : cok s c → ∀ (x1 x2 x4 : Int32), x1 = pr (p_R s) (al (p_nc s)) (c + 1) → x2 = pb (p_R s) (al (p_nc s)) (c + 1) → (x4 = 0 → p_cu s c 1 ≠ 0) → (¬ x4 = 0 → p_cu s c 1 = 0) → V_X6_hangRails_94 l G q x1 x2 (nI c) x4 S Q := by
      intro ok x1 x2 x4 e1 e2 z0 z1
      refine b_X6_hangRails_94 (hs.rk hr) ⟨q + 2, hs.rp9 hr, q + 1, hs.rp8 hr, by rw [hs.rl8 hr]; exact hin, ?_⟩
      rw [hs.rl9 hr, cc, hcp.1, C.2.1 0 (by omega), nI_add, nI_1]
      have go : ∀ S3 : mj_S, S3 = m_si S (q + 2) c (nI (r_fr (p_R s) c)) → ∀ v4 : Int32, v4 = nI (c + 1) → V_X6_hangRails_12 l G q x1 x2 v4 S3 Q := by
        intro S3 e3 v4 e4
        have f3 : fr (Dst q) S S3 := by rw [e3]; exact fr.si Dst_t2
        rw [e4, e1, e2]
        refine s_hangV hq hw k (c + 1) S3 Q (by omega) (hs.fr f3) (C.fs hq f3) (fun d hd => ?_) (fun d hd => ?_) (fun g S' f' kj kf => h1 g S' (f3.tr f') (fun j => by rw [kj, e3, m_gi_si, if_neg (by omega)]) kf) (fun g S' f' => h0 g S' (f3.tr f'))
        · rw [e3, m_gi_si]
          by_cases e : d = c
          · rw [if_pos ⟨rfl, e⟩, e]
          · rw [if_neg (by omega)]; exact hf d (by omega)
        · by_cases e : d = c
          · rw [e]; exact ok
          · exact hk d (by omega)
      refine ⟨fun z => ⟨hin, fun S3 e3 v4 e4 => go S3 ?_ v4 e4⟩, fun z => ⟨hin, fun S3 e3 v4 e4 => go S3 ?_ v4 e4⟩⟩
      · rw [e3]; unfold r_fr; rw [if_neg (show ¬ r_rl (p_R s) c = 0 from z0 z)]; rfl
      · rw [e3]; unfold r_fr; rw [if_pos (show r_rl (p_R s) c = 0 from z1 z), nI_1]; rfl
    refine b_X6_hangRails_12 (hs.rk hr) ?_
    rw [C.2.2.1.1]
    refine ⟨fun z => absurd z (nI_ge (by omega) (by omega)), fun _ => ⟨q + 3, hs.rp10 hr, by rw [hs.rl10 hr]; exact hin, ?_⟩⟩
    rw [cc, hcp.2.1, nI_e0 (by omega)]
    refine ⟨fun z => b_X6_hangRails_34 (hs.rk hr) ⟨fun _ => ?_, fun y => absurd rfl y⟩, fun z => b_X6_hangRails_34 (hs.rk hr) ⟨fun y => absurd y (by decide), fun _ => ?_⟩⟩
    · have e1 : p_cu s c 1 = 1 := by omega
      refine b_X6_hangRails_46 (hs.rk hr) ⟨q + 1, hs.rp8 hr, by rw [hs.rl8 hr]; exact hin, ?_⟩
      rw [cc, hcp.1]
      refine s_has (by omega) (fun g => ?_) (fun g => ?_)
      · have ok := (h_b hw hc e1).mp g
        try simp only [Option.some.injEq, exists_eq_left', fi32, i10, i00, false_implies, true_implies, not_false_eq_true, not_true_eq_false, true_and, and_true, nI_1, lz0, lz1, ix0, ix11, ix2, hs.rp8 hr, hs.rl8 hr, hin, cc, hcp.1]
        refine tail ok _ _ _ ?_ (h_pb hw hc ok e1) (fun _ => z) (fun y => absurd rfl y)
        exact (pr_s0 (Or.inr (show r_rl (p_R s) c ≠ 0 from z))).symm
      · try simp only [Option.some.injEq, exists_eq_left', fi32, i10, i00, false_implies, true_implies, not_false_eq_true, not_true_eq_false, true_and, and_true, nI_1, lz0, lz1, ix0, ix11, ix2]
        refine h0 (fun y => ?_) S fr.rf
        have := (h_b hw hc e1).mpr (y c hc)
        rw [g] at this; cases this
    · refine b_X6_hangRails_46 (hs.rk hr) ⟨q + 1, hs.rp8 hr, by rw [hs.rl8 hr]; exact hin, ?_⟩
      rw [cc, hcp.1]
      refine s_has (by omega) (fun g => ?_) (fun g => ?_)
      · have ok := (h_r hw hc z).mp g
        try simp only [Option.some.injEq, exists_eq_left', fi32, i10, i00, false_implies, true_implies, not_false_eq_true, not_true_eq_false, true_and, and_true, nI_1, lz0, lz1, ix0, ix11, ix2, hs.rp8 hr, hs.rl8 hr, hin, cc, hcp.1]
        refine tail ok _ _ _ (h_pr hw hc ok z) ?_ (fun y => absurd y (by decide)) (fun _ => z)
        exact (pb_s0 (Or.inr (show r_rl (p_R s) c ≠ 1 from by show p_cu s c 1 ≠ 1; omega))).symm
      · try simp only [Option.some.injEq, exists_eq_left', fi32, i10, i00, false_implies, true_implies, not_false_eq_true, not_true_eq_false, true_and, and_true, nI_1, lz0, lz1, ix0, ix11, ix2]
        refine h0 (fun y => ?_) S fr.rf
        have := (h_r hw hc z).mpr (y c hc)
        rw [g] at this; cases this
/-- a room's text has been taken into the room q -/
def CRm (S : mj_S) (q : Nat) (s : ps) : Prop := RC S q (p_R s) ∧ (∀ c, c < p_nc s → m_gi S (q + 6) c = nI (p_cu s c 3)) ∧ m_gi S q 14 = p_bk s ∧ ∀ p, p < p_np s → m_gi S (q + 8) p = nI (p_pe s p 0)
theorem s_settle {S : mj_S} {Q : mj_S → Int32 → Prop} (hs : Sh L S) (hq : isQ q) (hw : p_wf s) (C : CP S q s) (h1 : p_ok s → ∀ S', fr (Dst q) S S' → CRm S' q s → Q S' 1) (h0 : ¬ p_ok s → ∀ S', fr (Dst q) S S' → Q S' 0) : M_X6_settle l G q S Q := by
  have nc := hw.1.2
  have hb := hq.b
  refine e_X6_settle (b_X6_settle_0 (hs.rk hq.rm) (s_laySquares hs hq hw C (fun S1 f1 g4 g5 g6 => ?_)))
  have C1 := C.fs hq f1
  have hs1 := hs.fr f1
  rw [C1.2.2.1.2.1, nI_e0 (by omega)]
  refine ⟨fun z => ?_, fun z => h0 (fun y => by have := y.1; omega) S1 f1⟩
  have n20 := p_n_le hw
  have key : ∀ k c, k + c = p_np s → (∀ d, d < c → p_pe s d 0 < p_n s) → V_X6_settle_15 l G q (nI c) S1 Q := by
    intro k
    induction k with
    | zero =>
      intro c ek hd
      have e : c = p_np s := by omega
      refine b_X6_settle_15 (hs1.rk hq.rm) ?_
      rw [C1.2.2.1.2.1]
      refine ⟨fun _ => ?_, fun y => absurd (nI_le (by omega) (by omega)) y⟩
      refine e_X6_hangRails (b_X6_hangRails_0 (hs1.rk hq.rm) (fun v1 e1 v2 e2 => ?_))
      rw [e1, e2, g5, g6, ← pr_0 (H := al (p_nc s)), ← pb_0 (H := al (p_nc s))]
      refine s_hangV hq hw (p_nc s) 0 S1 Q (by omega) hs1 C1 (fun d hd => by omega) (fun d hd => by omega) (fun g S' f' kj kf => h1 ⟨by omega, fun p hp => hd p (by omega), g⟩ S' (f1.tr f') ?_) (fun g S' f' => h0 (fun y => g y.2.2) S' (f1.tr f'))
      have C2 := C1.fs hq f'
      refine ⟨⟨⟨C2.2.1 0 (by omega), C2.2.1 1 (by omega), C2.2.1 2 (by omega), C2.2.1 3 (by omega)⟩, ⟨(kj 4).trans g4, (kj 5).trans g5, (kj 6).trans g6, C2.2.2.1.1, C2.2.2.1.2.1⟩, fun c hc => ?_, fun p hp => (C2.2.2.2.2 p hp).1⟩, fun c hc => (C2.2.2.2.1 c hc).2.2.2.1, C2.2.2.1.2.2, fun p hp => (C2.2.2.2.2 p hp).2⟩
      have hcc := C2.2.2.2.1 c hc
      exact ⟨hcc.1, kf c hc, hcc.2.1, hcc.2.2.1, hcc.2.2.2.2⟩
    | succ k ih =>
      intro c ek hd
      have hc : c < p_np s := by omega
      have cc : (nI c).toNatClampNeg = c := nI_clamp (by omega)
      have hpe := hw.pe hc
      refine b_X6_settle_15 (hs1.rk hq.rm) ?_
      rw [C1.2.2.1.2.1]
      refine ⟨fun y => absurd y (nI_ge (by omega) (by omega)), fun _ => ⟨q + 8, hs1.rp17 hq.rm, by rw [hs1.rl17 hq.rm]; exact vp_nI (by omega) (by omega), ?_⟩⟩
      rw [cc, (C1.2.2.2.2 c hc).2, g4, nI_ltI (by omega) (by omega), nI_1]
      refine ⟨fun y v4 e4 => ?_, fun y => h0 (fun w => y (w.2.1 c hc)) S1 f1⟩
      rw [e4]
      refine ih (c + 1) (by omega) (fun d hd' => ?_)
      by_cases e : d = c
      · rw [e]; exact y
      · exact hd d (by omega)
  exact key (p_np s) 0 (by omega) (fun d hd => by omega)
end HR
section RDc
variable {l : Launch} {G : mj_G} {L : Nat} {q n : Nat} {t : Nat → Nat}
theorem s_clear {S : mj_S} {Q : mj_S → Prop} (hs : Sh L S) (hT : TBL S) (hq : isQ q) (h : ∀ S', S' = sr_S (m_si (m_si (m_si S q 7 0) q 14 0) q 15 0) q (fun k => nI (tb US k)) → Q S') : M_X6_clear l G q S Q := by
  have hb := hq.b
  refine e_X6_clear (b_X6_clear_0 (hs.rk hq.rm) (fun S1 e1 S2 e2 S3 e3 => ?_))
  have f3 : fr (D8 q) S S3 := by rw [e3, e2, e1]; exact ((fr.si (D8_t (by omega))).tr (fr.si (D8_t (by omega)))).tr (fr.si (D8_t (by omega)))
  have hs3 := hs.fr f3
  have hT3 := hT.f8q hq f3
  exact s_setRules hs3 hq (Or.inl rfl) (fun k hk => (hT3.1 k (by omega)).2.2.2) (fun S' e' => h S' (by rw [e', e3, e2, e1]))
theorem s_readV (hq : isQ q) : ∀ (g : Nat) (s : ps) (p : Nat) (S : mj_S) (Q : mj_S → Int32 → Prop), g + p_k s = 18 → p_wf s → Sh L S → TBL S → CP S q s → RDR S 8 t n p → (∀ j, rdr t n g s p = .inl j → ∀ S', fr (D8 q) S S' → Q S' (nI j)) → (∀ s', rdr t n g s p = .inr s' → p_wf s' → p_ok s' → ∀ S', fr (D8 q) S S' → CRm S' q s' → Q S' (-1)) → V_X7_read_26 l G 8 (nI (18 - g)) S Q
  | 0, s, p, S, Q, eg, hw, hs, hT, C, T, h0, h1 => by
    have := p_k_le hw
    omega
  | g + 1, s, p, S, Q, eg, hw, hs, hT, C, T, h0, h1 => by
    have hpn := T.pn
    have hb := hq.b
    have h0' : ∀ j, (match cla t n s p with
      | .inl j => (.inl j : Nat ⊕ ps)
      | .inr r => if n ≤ skp t n r.2 then (if whl r.1 = true then .inr r.1 else .inl n) else if t (skp t n r.2) = 59 then rdr t n g r.1 (skp t n r.2 + 1) else .inl (skp t n r.2)) = .inl j → ∀ S', fr (D8 q) S S' → Q S' (nI j) := h0
    have h1' : ∀ s', (match cla t n s p with
      | .inl j => (.inl j : Nat ⊕ ps)
      | .inr r => if n ≤ skp t n r.2 then (if whl r.1 = true then .inr r.1 else .inl n) else if t (skp t n r.2) = 59 then rdr t n g r.1 (skp t n r.2 + 1) else .inl (skp t n r.2)) = .inr s' → p_wf s' → p_ok s' → ∀ S', fr (D8 q) S S' → CRm S' q s' → Q S' (-1) := h1
    clear h0 h1
    refine b_X7_read_26 hs.k8 ⟨fun z => absurd z (nI_nlt (a := 17) (b := 18 - (g + 1)) (by omega) (by omega)), fun _ => ?_⟩
    refine s_readClause hs hT hq hw C T (fun j ej S1 f1 => ?_) (fun r er S1 f1 C1 T1 => ?_)
    · rw [ej] at h0'
      have hj := cla_lt ej hpn.1 hpn.2 T.tw
      exact ⟨fun z => absurd z (nI_m1 (by omega)), fun _ => h0' j rfl S1 f1⟩
    · rw [er] at h0' h1'
      have hok := cla_ok hw er hpn.1 T.tw
      refine ⟨fun _ => s_peek T1 (fun S3 e3 T3 => ?_), fun z => absurd rfl z⟩
      have f13 : fr D8i S1 S3 := by rw [e3]; exact fr.si rfl
      have f3 : fr (D8 q) S S3 := f1.tr (D8i_8 f13)
      have C3 := C1.fi hq f13
      have hs3 := hs.fr f3
      have hq2 := skp_b (t := t) hok.2.1
      simp only at h0' h1'
      by_cases ee : n ≤ skp t n r.2
      · rw [if_pos ee] at h0' h1'
        refine ⟨fun z => absurd ((cr_m1 T.tw).mpr ee) z, fun _ => ⟨q, C3.1.1, ?_⟩⟩
        refine s_settle hs3 hq hok.1 C3 (fun ok S8 f8 CR => ?_) (fun nok S8 f8 => ?_)
        · rw [if_pos (whl_t.mpr ok)] at h1'
          exact ⟨fun z => absurd z (by decide), fun _ => h1' r.1 rfl hok.1 ok S8 (f3.tr (Dst_8 f8)) CR⟩
        · rw [if_neg (fun z => nok (whl_t.mp z))] at h0'
          refine ⟨fun _ => ?_, fun z => absurd rfl z⟩
          have e1 : m_gi S8 8 1 = nI n := (f8.i _ _ (Dst_f (by omega) (by omega))).trans T3.2.1
          rw [e1]
          exact h0' n rfl S8 (f3.tr (Dst_8 f8))
      · rw [if_neg ee] at h0' h1'
        refine ⟨fun _ => ?_, fun z => absurd ((cr_m1 T.tw).mp z) ee⟩
        rw [show (59 : Int32) = nI 59 from rfl, cr_is T.tw (by omega), T3.at_, nI_1, nI_1]
        by_cases e59 : t (skp t n r.2) = 59
        · rw [if_pos e59] at h0' h1'
          refine ⟨fun _ S5 e5 v6 e6 => ?_, fun z => absurd ⟨by omega, e59⟩ z⟩
          have f5 : fr D8i S1 S5 := f13.tr (by rw [e5]; exact fr.si rfl)
          have f05 : fr (D8 q) S S5 := f1.tr (D8i_8 f5)
          rw [e6, show 18 - (g + 1) + 1 = 18 - g by have := p_k_le hok.1; omega]
          exact s_readV hq g r.1 _ S5 Q (by omega) hok.1 (hs.fr f05) (hT.f8q hq f05) (C1.fi hq f5) (by rw [e5]; exact T3.mv (by omega)) (fun j ej S' f' => h0' j ej S' (f05.tr f')) (fun s' es a b S' f' => h1' s' es a b S' (f05.tr f'))
        · rw [if_neg e59] at h0'
          exact ⟨fun z => absurd z.2 e59, fun _ => h0' _ rfl S3 f3⟩
/-- frames that may also change references -/
def E8 (a j : Nat) : Bool := (Nat.beq a 8 || Nat.beq a 20) && (Nat.beq j 0 || Nat.beq j 4)
theorem Sh.fq8 {D : Nat → Nat → Bool} {S S' : mj_S} (h : Sh L S) (f : fq D E8 S S') : Sh L S' := by
  refine ⟨f.1.trans h.1, fun x hx => (f.2.2.2 _ _ ?_).trans (h.2 x hx)⟩
  have : ∀ x ∈ PT, E8 x.1.1 x.1.2 = false := by decide +kernel
  exact this x hx
theorem s_read {S : mj_S} {Q : mj_S → Int32 → Prop} (hs : Sh L S) (hT : TBL S) (hq : isQ q) (hn : n ≤ 240) (ht : ∀ i, i < n → m_gi S 7 i = nI (t i)) (htw : ∀ i, i < n → t i < 256) (h0 : ∀ j, rdr t n 18 p_0 0 = .inl j → ∀ S', fq (D8 q) E8 S S' → Q S' (nI j)) (h1 : ∀ s', rdr t n 18 p_0 0 = .inr s' → p_wf s' → p_ok s' → ∀ S', fq (D8 q) E8 S S' → CRm S' q s' → Q S' (-1)) : M_X7_read l G 8 7 (nI n) q S Q := by
  have hb := hq.b
  refine e_X7_read (b_X7_read_0 hs.k8 hs.k7 (hs.rk hq.rm) (e_X5_begin (b_X5_begin_0_c6 hs.k8 hs.k7 (fun S1 e1 => s_mn ?_))))
  have l1 : m_ln S1 7 = 240 := by rw [e1]; exact hs.l7
  have emn : mn (nI n) (Int32.ofNat (m_ln S1 7)) = nI n := by
    rw [l1]
    unfold mn
    exact if_neg (nI_nlt (a := 240) hn (by omega))
  rw [emn]
  intro S4 e4 S5 e5 S2 e2 S3 e3
  have fb : fq (D8 q) E8 S S3 := by
    refine ⟨by rw [e3, e2, e5, e4, e1]; rfl, fun a j z => ?_, fun a j => by rw [e3, e2, e5, e4, e1]; rfl, fun a j z => ?_⟩
    · have ha : a ≠ 8 := by intro y; rw [y] at z; unfold D8 at z; simp at z
      rw [e3, m_gi_sp, e2, m_gi_si, if_neg (by omega), e5, m_gi_si, if_neg (by omega), e4, m_gi_si, if_neg (by omega), e1, m_gi_sp]
    · have h0 : ¬ (a = 8 ∧ j = 4) := by rintro ⟨y1, y2⟩; rw [y1, y2] at z; revert z; decide
      have h4 : ¬ (a = 8 ∧ j = 0) := by rintro ⟨y1, y2⟩; rw [y1, y2] at z; revert z; decide
      rw [e3, m_gp_sp, if_neg h0, e2, m_gp_si, e5, m_gp_si, e4, m_gp_si, e1, m_gp_sp, if_neg h4]
  have hs3 := hs.fq8 fb
  have hT3 : TBL S3 := hT.keep (fun a j ha => fb.2.1 a j (D8_f (by omega) (by omega) (by omega)))
  have i3 : ∀ a j, a ≠ 8 → m_gi S3 a j = m_gi S a j := by
    intro a j ha
    rw [e3, m_gi_sp, e2, m_gi_si, if_neg (by omega), e5, m_gi_si, if_neg (by omega), e4, m_gi_si, if_neg (by omega), e1, m_gi_sp]
  have p4 : m_gp S3 8 4 = some q := by rw [e3, m_gp_sp, if_pos ⟨rfl, rfl⟩]
  refine ⟨q, p4, s_clear hs3 hT3 hq (fun S6 e6 => ?_)⟩
  have f6 : fr (D8 q) S3 S6 := by rw [e6]; exact (((fr.si (D8_t (by omega))).tr (fr.si (D8_t (by omega)))).tr (fr.si (D8_t (by omega)))).tr fr_sr
  have f06 : ∀ S', fr (D8 q) S6 S' → fq (D8 q) E8 S S' := fun S' f' => by
    have g := f6.tr f'
    exact ⟨g.1.trans fb.1, fun a j z => (g.i a j z).trans (fb.2.1 a j z), fun a j => (g.2.2.1 a j).trans (fb.2.2.1 a j), fun a j z => (g.p a j).trans (fb.2.2.2 a j z)⟩
  have T6 : RDR S6 8 t n 0 := by
    have hk8 : m_kd S6 8 = 6 := (hs3.fr f6).k8
    have i6 : ∀ a j, a < q → m_gi S6 a j = m_gi S3 a j := by
      intro a j ha
      rw [e6, g_sr, if_neg (by omega), if_neg (by omega), if_neg (by omega), if_neg (by omega), m_gi_si, if_neg (by omega), m_gi_si, if_neg (by omega), m_gi_si, if_neg (by omega)]
    refine ⟨⟨Or.inr hk8, by omega, (hs3.fr f6).l7, ?_⟩, ?_, ?_, Nat.zero_le _, hn, fun i hi => ?_, htw⟩
    · rw [f6.p, e3, m_gp_sp, if_neg (by omega), e2, m_gp_si, e5, m_gp_si, e4, m_gp_si, e1, m_gp_sp, if_pos ⟨rfl, rfl⟩]
    · rw [i6 _ _ (by omega), e3, m_gi_sp, e2, m_gi_si, if_neg (by omega), e5, m_gi_si, if_neg (by omega), e4, m_gi_si, if_pos ⟨rfl, rfl⟩]
    · rw [i6 _ _ (by omega), e3, m_gi_sp, e2, m_gi_si, if_neg (by omega), e5, m_gi_si, if_pos ⟨rfl, rfl⟩]; rfl
    · rw [i6 _ _ (by omega), i3 _ _ (by omega)]; exact ht i hi
  have C6 : CP S6 q p_0 := by
    refine ⟨⟨by rw [f6.p]; exact p4, ?_⟩, fun k hk => ?_, ⟨?_, ?_, ?_⟩, fun c hc => absurd hc (Nat.not_lt_zero c), fun c hc => absurd hc (Nat.not_lt_zero c)⟩
    · rw [e6, g_sr, if_neg (by omega), if_neg (by omega), if_neg (by omega), if_neg (by omega), m_gi_si, if_neg (by omega), m_gi_si, if_neg (by omega), m_gi_si, if_neg (by omega), e3, m_gi_sp, e2, m_gi_si, if_pos ⟨rfl, rfl⟩]; rfl
    · rw [e6, g_sr]
      show _ = nI (tb US k)
      match k, hk with
      | 0, _ => rw [if_neg (by omega), if_neg (by omega), if_neg (by omega), if_pos ⟨rfl, rfl⟩]
      | 1, _ => rw [if_neg (by omega), if_neg (by omega), if_pos ⟨rfl, rfl⟩]
      | 2, _ => rw [if_neg (by omega), if_pos ⟨rfl, rfl⟩]
      | 3, _ => rw [if_pos ⟨rfl, rfl⟩]
    · rw [e6, g_sr, if_neg (by omega), if_neg (by omega), if_neg (by omega), if_neg (by omega), m_gi_si, if_neg (by omega), m_gi_si, if_neg (by omega), m_gi_si, if_pos ⟨rfl, rfl⟩]; rfl
    · rw [e6, g_sr, if_neg (by omega), if_neg (by omega), if_neg (by omega), if_neg (by omega), m_gi_si, if_pos ⟨rfl, rfl⟩]; rfl
    · rw [e6, g_sr, if_neg (by omega), if_neg (by omega), if_neg (by omega), if_neg (by omega), m_gi_si, if_neg (by omega), m_gi_si, if_pos ⟨rfl, rfl⟩]; rfl
  exact s_readV (t := t) (n := n) hq 18 p_0 0 S6 Q rfl p_0_wf (hs3.fr f6) (hT3.f8q hq f6) C6 T6 (fun j ej S' f' => h0 j ej S' (f06 S' f')) (fun s' es a b S' f' => h1 s' es a b S' (f06 S' f'))
end RDc
