/-! the reference: the same answers -/
theorem jE_symm {R : rm} {H : Int32} {a b : Nat} (h : jE R H a b) : jE R H b a := by
  unfold jE cp_E at h ⊢
  rcases h with h | h | h | h
  · exact Or.inr (Or.inl h)
  · exact Or.inl h
  · exact Or.inr (Or.inr (Or.inr h))
  · exact Or.inr (Or.inr (Or.inl h))
theorem jn_meet {R : rm} (hR : r_wf R) {H : Int32} {a b i : Nat} (ha : a < r_n R) (hb : b < r_n R) (h1 : bt (jn R H (on a)) i = true) (h2 : bt (jn R H (on b)) i = true) : jn R H (on a) = jn R H (on b) := by
  have hn := hR.n
  have key : ∀ a b, a < r_n R → b < r_n R → bt (jn R H (on a)) i = true → bt (jn R H (on b)) i = true → cp_ge (jn R H (on a)) (jn R H (on b)) := by
    intro a b ha hb h1 h2
    have ia := jn_is hR H (on_in ha (show r_n R ≤ 32 by omega))
    have ib := jn_is hR H (on_in hb (show r_n R ≤ 32 by omega))
    have hab : bt (jn R H (on b)) a = true := by
      cases e : bt (jn R H (on b)) a with
      | true => rfl
      | false =>
        have := ia.2.2 (jn R H (on a) &&& (jn R H (on b) ^^^ (-1))) ?_ ?_ i h1
        · rw [b_and, b_not _ (b_lt h1), h2] at this; simp at this
        · refine on_ge (by omega) ?_
          rw [b_and, b_not _ (by omega), e, jn_self hR H ha]; rfl
        · intro u v hu hE
          rw [b_and, Bool.and_eq_true] at hu ⊢
          have hu32 := b_lt hu.1
          have hv := ia.2.1 u v hu.1 hE
          have hv32 := b_lt hv
          refine ⟨hv, ?_⟩
          rw [b_not _ hv32]
          rw [b_not _ hu32] at hu
          cases e2 : bt (jn R H (on b)) v with
          | false => rfl
          | true => rw [ib.2.1 v u e2 (jE_symm hE)] at hu; cases hu.2
    exact ia.2.2 _ (on_ge (by omega) hab) ib.2.1
  exact cp_anti (key a b ha hb h1 h2) (key b a hb ha h2 h1)
/-- does c part A from B -/
def tcb (R : rm) (s : sc) (A B : Int32) (c : Nat) : Bool := bt (hg R s) c && ((bt A (r_nr R c) && bt B (r_fr R c)) || (bt B (r_nr R c) && bt A (r_fr R c)))
theorem tcb_bo {R : rm} {s : sc} (hR : r_wf R) {a b c : Nat} (ha : a < r_n R) (hb : b < r_n R) (hne : ¬ st R s a = st R s b) : (bo R s (st R s a) c && bo R s (st R s b) c) = tcb R s (st R s a) (st R s b) c := by
  have dis : ∀ i, ¬ (bt (st R s a) i = true ∧ bt (st R s b) i = true) := fun i z => hne (jn_meet hR ha hb z.1 z.2)
  have d1 := dis (r_nr R c)
  have d2 := dis (r_fr R c)
  unfold bo tcb
  revert d1 d2
  cases bt (hg R s) c <;> cases bt (st R s a) (r_nr R c) <;> cases bt (st R s b) (r_nr R c) <;> cases bt (st R s a) (r_fr R c) <;> cases bt (st R s b) (r_fr R c) <;> simp
theorem by_in {R : rm} (hR : r_wf R) {W X : Int32} : ∀ {c : Nat}, c ≤ r_nc R → cp_in (by_ R W X c) (r_n R)
  | 0, _ => fun i hi => by rw [show by_ R W X 0 = 0 from rfl, b_0] at hi; cases hi
  | c + 1, h => by
    have hn := hR.n
    have ih := by_in hR (W := W) (X := X) (c := c) (by omega)
    have h1 := on_in (hR.nr (show c < r_nc R by omega)) (show r_n R ≤ 32 by omega)
    have h2 := on_in (hR.fr (show c < r_nc R by omega)) (show r_n R ≤ 32 by omega)
    have : cp_in (if bt W c = true ∧ bt X (r_nr R c) = true then by_ R W X c ||| on (r_fr R c) else by_ R W X c) (r_n R) := by
      split
      · exact in_or ih h2
      · exact ih
    unfold by_
    dsimp only
    split
    · exact in_or this h1
    · exact this
theorem or_as (a b c : Int32) : a ||| (b ||| c) = (a ||| b) ||| c := by
  apply b_ext
  intro i _
  rw [b_or, b_or, b_or, b_or, Bool.or_assoc]
section R3
variable {l : Launch} {G : mj_G} {L : Nat} {R : rm} {s : sc} {S : mj_S}
theorem s_rinK {n : Nat} {x1 : Int32} {Q : mj_S → Int32 → Prop} (hn : n < 1000000) (h1 : ∀ q, ixn (n + 1) x1 = some q → Q S 1) (h0 : ixn (n + 1) x1 = none → Q S 0) : M_X11_in l G x1 0 (nI n) S Q := by
  have := s_rinN (l := l) (G := G) (S := S) (x := x1) (n := n + 1) (Q := Q) (by omega) h1 h0
  rw [nI_pred] at this
  exact this
theorem d_state {x1 : Int32} {Q : mj_S → Int32 → Prop} (C : RI L S R s) (h : Q S (A_state R s x1)) : M_X11_state l G 89 x1 S Q := by
  have hn := C.rw.n
  unfold A_state at h
  refine e_X11_state (b_X11_state_0 C.sh.k89 (s_risSquare C (fun q e => ?_) (fun e => ?_)))
  · obtain ⟨hq, ex⟩ := ixn_some (by omega) e
    rw [e] at h
    try simp only [Option.some.injEq, exists_eq_left', fi32, i10, i00, false_implies, true_implies, not_false_eq_true, not_true_eq_false, true_and, and_true, nI_1, lz0, lz1, ix0, ix11, ix2]
    rw [ex]
    exact s_stateOf C hq (s_nameOf C.sh h)
  · rw [e] at h
    try simp only [Option.some.injEq, exists_eq_left', fi32, i10, i00, false_implies, true_implies, not_false_eq_true, not_true_eq_false, true_and, and_true, nI_1, lz0, lz1, ix0, ix11, ix2]
    exact h
theorem d_lord {x1 : Int32} {Q : mj_S → Int32 → Prop} (C : RI L S R s) (h : Q S (A_lord R s x1)) : M_X11_lord l G 89 x1 S Q := by
  have hn := C.rw.n
  unfold A_lord at h
  refine e_X11_lord (b_X11_lord_0 C.sh.k89 (s_risSquare C (fun q e => ?_) (fun e => ?_)))
  · obtain ⟨hq, ex⟩ := ixn_some (by omega) e
    rw [e] at h
    try simp only [Option.some.injEq, exists_eq_left', fi32, i10, i00, false_implies, true_implies, not_false_eq_true, not_true_eq_false, true_and, and_true, nI_1, lz0, lz1, ix0, ix11, ix2]
    rw [ex]
    exact s_stateOf C hq (s_lordOf C h)
  · rw [e] at h
    try simp only [Option.some.injEq, exists_eq_left', fi32, i10, i00, false_implies, true_implies, not_false_eq_true, not_true_eq_false, true_and, and_true, nI_1, lz0, lz1, ix0, ix11, ix2]
    exact h
theorem d_borders {x1 : Int32} {Q : mj_S → Int32 → Prop} (C : RI L S R s) (h : Q S (A_borders R s x1)) : M_X11_borders l G 89 x1 S Q := by
  have hn := C.rw.n
  have nc := C.rw.nc
  unfold A_borders at h
  refine e_X11_borders (b_X11_borders_0 C.sh.k89 (s_risSquare C (fun q e => ?_) (fun e => ?_)))
  · obtain ⟨hq, ex⟩ := ixn_some (by omega) e
    rw [e] at h
    try simp only [Option.some.injEq, exists_eq_left', fi32, i10, i00, false_implies, true_implies, not_false_eq_true, not_true_eq_false, true_and, and_true, nI_1, lz0, lz1, ix0, ix11, ix2]
    rw [ex]
    refine s_stateOf C hq ?_
    refine dn (P := fun c => V_X11_borders_21 l G 89 (st R s q) (bs c (bo R s (st R s q))) (nI c) S Q) (r_nc R) ?_ ?_
    · refine b_X11_borders_21 C.sh.k89 ?_
      try simp only [Option.some.injEq, exists_eq_left', fi32, i10, i00, false_implies, true_implies, not_false_eq_true, not_true_eq_false, true_and, and_true, nI_1, lz0, lz1, ix0, ix11, ix2, C.sh.p89_22, C.sh.p89_23, C.sh.p89_24, C.sh.p89_28, C.sh.p89_32, C.sh.p89_33, C.sh.l103, C.sh.l104, C.sh.l105, C.sh.l106, C.sh.l108, C.sh.l109, C.rr.n, C.rr.nc, C.rr.np, C.rr.w, C.rr.h, C.rr.li, C.rr.mo, C.rs.bk, C.rs.yr, ix4, ix6, geT (show r_nc R < 2 ^ 31 by omega)]
      exact h
    · intro c hc ih
      have h1 := C.rw.nr hc
      have h2 := C.rw.fr hc
      refine b_X11_borders_21 C.sh.k89 ?_
      try simp only [Option.some.injEq, exists_eq_left', fi32, i10, i00, false_implies, true_implies, not_false_eq_true, not_true_eq_false, true_and, and_true, nI_1, lz0, lz1, ix0, ix11, ix2, C.sh.p89_22, C.sh.p89_23, C.sh.p89_24, C.sh.p89_28, C.sh.p89_32, C.sh.p89_33, C.sh.l103, C.sh.l104, C.sh.l105, C.sh.l106, C.sh.l108, C.sh.l109, C.rr.n, C.rr.nc, C.rr.np, C.rr.w, C.rr.h, C.rr.li, C.rr.mo, C.rs.bk, C.rs.yr, ix4, ix6, gtF hc (show r_nc R < 2 ^ 31 by omega)]
      refine s_hangs C hc (fun hb => ?_) (fun hb => ?_)
      · try simp only [Option.some.injEq, exists_eq_left', fi32, i10, i00, false_implies, true_implies, not_false_eq_true, not_true_eq_false, true_and, and_true, nI_1, lz0, lz1, ix0, ix11, ix2]
        refine s_firstSide C hc (s_rhas (by omega) (fun hb1 => ?_) (fun hb1 => ?_))
        · refine s_secondSide C hc (s_rhas (by omega) (fun hb2 => ?_) (fun hb2 => ?_))
          · rw [bs_s0' (by simp [bo, hb, hb1, hb2])] at ih
            try simp only [Option.some.injEq, exists_eq_left', fi32, i10, i00, false_implies, true_implies, not_false_eq_true, not_true_eq_false, true_and, and_true, nI_1, lz0, lz1, ix0, ix11, ix2]
            exact ih
          · rw [bs_s1 (by simp [bo, hb, hb1, hb2])] at ih
            try simp only [Option.some.injEq, exists_eq_left', fi32, i10, i00, false_implies, true_implies, not_false_eq_true, not_true_eq_false, true_and, and_true, nI_1, lz0, lz1, ix0, ix11, ix2]
            exact ih
        · refine s_secondSide C hc (s_rhas (by omega) (fun hb2 => ?_) (fun hb2 => ?_))
          · rw [bs_s1 (by simp [bo, hb, hb1, hb2])] at ih
            simp only [show ((0 : Int32) = 1) = False from eq_false (by decide)]
            try simp only [Option.some.injEq, exists_eq_left', fi32, i10, i00, false_implies, true_implies, not_false_eq_true, not_true_eq_false, true_and, and_true, nI_1, lz0, lz1, ix0, ix11, ix2]
            exact ih
          · rw [bs_s0' (by simp [bo, hb, hb1, hb2])] at ih
            try simp only [Option.some.injEq, exists_eq_left', fi32, i10, i00, false_implies, true_implies, not_false_eq_true, not_true_eq_false, true_and, and_true, nI_1, lz0, lz1, ix0, ix11, ix2]
            exact ih
      · rw [bs_s0' (by simp [bo, hb])] at ih
        try simp only [Option.some.injEq, exists_eq_left', fi32, i10, i00, false_implies, true_implies, not_false_eq_true, not_true_eq_false, true_and, and_true, nI_1, lz0, lz1, ix0, ix11, ix2]
        exact ih
  · rw [e] at h
    try simp only [Option.some.injEq, exists_eq_left', fi32, i10, i00, false_implies, true_implies, not_false_eq_true, not_true_eq_false, true_and, and_true, nI_1, lz0, lz1, ix0, ix11, ix2]
    exact h
theorem d_touch {x1 x2 : Int32} {Q : mj_S → Int32 → Prop} (C : RI L S R s) (h : Q S (A_touch R s x1 x2)) : M_X11_touch l G 89 x1 x2 S Q := by
  have hn := C.rw.n
  have nc := C.rw.nc
  unfold A_touch at h
  refine e_X11_touch (b_X11_touch_0 C.sh.k89 (s_risSquare C (fun q e => ?_) (fun e => ?_)))
  · obtain ⟨hq, ex⟩ := ixn_some (by omega) e
    try simp only [Option.some.injEq, exists_eq_left', fi32, i10, i00, false_implies, true_implies, not_false_eq_true, not_true_eq_false, true_and, and_true, nI_1, lz0, lz1, ix0, ix11, ix2]
    refine s_risSquare C (fun q2 e2 => ?_) (fun e2 => ?_)
    · obtain ⟨hq2, ex2⟩ := ixn_some (by omega) e2
      rw [e, e2] at h
      dsimp only at h
      try simp only [Option.some.injEq, exists_eq_left', fi32, i10, i00, false_implies, true_implies, not_false_eq_true, not_true_eq_false, true_and, and_true, nI_1, lz0, lz1, ix0, ix11, ix2]
      rw [ex, ex2]
      refine s_stateOf C hq (s_stateOf C hq2 ?_)
      refine dn (P := fun c => (∀ c', c' < c → tcb R s (st R s q) (st R s q2) c' = false) → V_X11_touch_34 l G 89 (st R s q) (st R s q2) (nI c) S Q) (r_nc R) ?_ ?_ (fun _ z => absurd z (by omega))
      · intro hf
        refine b_X11_touch_34 C.sh.k89 ?_
        try simp only [Option.some.injEq, exists_eq_left', fi32, i10, i00, false_implies, true_implies, not_false_eq_true, not_true_eq_false, true_and, and_true, nI_1, lz0, lz1, ix0, ix11, ix2, C.sh.p89_22, C.sh.p89_23, C.sh.p89_24, C.sh.p89_28, C.sh.p89_32, C.sh.p89_33, C.sh.l103, C.sh.l104, C.sh.l105, C.sh.l106, C.sh.l108, C.sh.l109, C.rr.n, C.rr.nc, C.rr.np, C.rr.w, C.rr.h, C.rr.li, C.rr.mo, C.rs.bk, C.rs.yr, ix4, ix6, geT (show r_nc R < 2 ^ 31 by omega)]
        by_cases hne : st R s q = st R s q2
        · rw [if_pos hne] at h; exact h
        · rw [if_neg hne, if_pos] at h
          · exact h
          · apply b_ext
            intro i _
            rw [b_and, b_bs _ _ (by omega), b_bs _ _ (by omega), b_0]
            by_cases hi : i < r_nc R
            · have := hf i hi
              rw [← tcb_bo C.rw hq hq2 hne] at this
              simp only [hi, decide_true, Bool.true_and]; exact this
            · simp [hi]
      · intro c hc ih hf
        have h1 := C.rw.nr hc
        have h2 := C.rw.fr hc
        refine b_X11_touch_34 C.sh.k89 ?_
        try simp only [Option.some.injEq, exists_eq_left', fi32, i10, i00, false_implies, true_implies, not_false_eq_true, not_true_eq_false, true_and, and_true, nI_1, lz0, lz1, ix0, ix11, ix2, C.sh.p89_22, C.sh.p89_23, C.sh.p89_24, C.sh.p89_28, C.sh.p89_32, C.sh.p89_33, C.sh.l103, C.sh.l104, C.sh.l105, C.sh.l106, C.sh.l108, C.sh.l109, C.rr.n, C.rr.nc, C.rr.np, C.rr.w, C.rr.h, C.rr.li, C.rr.mo, C.rs.bk, C.rs.yr, ix4, ix6, gtF hc (show r_nc R < 2 ^ 31 by omega)]
        refine ⟨fun z => by rw [if_pos z] at h; exact h, fun hne => ?_⟩
        have yes : tcb R s (st R s q) (st R s q2) c = true → Q S 1 := by
          intro ht
          rw [if_neg hne, if_neg] at h
          · exact h
          · intro z
            have := congrArg (fun w => bt w c) z
            simp only [b_and, b_0] at this
            rw [b_bs _ _ (by omega), b_bs _ _ (by omega)] at this
            simp only [hc, decide_true, Bool.true_and] at this
            rw [tcb_bo C.rw hq hq2 hne, ht] at this
            cases this
        have no : tcb R s (st R s q) (st R s q2) c = false → V_X11_touch_34 l G 89 (st R s q) (st R s q2) (nI (c + 1)) S Q := by
          intro ht
          refine ih (fun c' hc' => ?_)
          by_cases e3 : c' = c
          · rw [e3]; exact ht
          · exact hf c' (by omega)
        refine s_hangs C hc (fun hb => ?_) (fun hb => ?_)
        · have snd : (bt (st R s q) (r_nr R c) && bt (st R s q2) (r_fr R c)) = false → V_X11_touch_85 l G 89 (st R s q) (st R s q2) (nI c) S Q := by
            intro hz
            refine b_X11_touch_85 C.sh.k89 (s_firstSide C hc (s_rhas (by omega) (fun hb1 => ?_) (fun hb1 => ?_)))
            · try simp only [Option.some.injEq, exists_eq_left', fi32, i10, i00, false_implies, true_implies, not_false_eq_true, not_true_eq_false, true_and, and_true, nI_1, lz0, lz1, ix0, ix11, ix2]
              refine s_secondSide C hc (s_rhas (by omega) (fun hb2 => ?_) (fun hb2 => ?_))
              · try simp only [Option.some.injEq, exists_eq_left', fi32, i10, i00, false_implies, true_implies, not_false_eq_true, not_true_eq_false, true_and, and_true, nI_1, lz0, lz1, ix0, ix11, ix2]
                exact yes (by simp [tcb, hb, hb1, hb2])
              · try simp only [Option.some.injEq, exists_eq_left', fi32, i10, i00, false_implies, true_implies, not_false_eq_true, not_true_eq_false, true_and, and_true, nI_1, lz0, lz1, ix0, ix11, ix2]
                exact no (by simp [tcb, hb2, hz])
            · try simp only [Option.some.injEq, exists_eq_left', fi32, i10, i00, false_implies, true_implies, not_false_eq_true, not_true_eq_false, true_and, and_true, nI_1, lz0, lz1, ix0, ix11, ix2]
              exact no (by simp [tcb, hb1, hz])
          try simp only [Option.some.injEq, exists_eq_left', fi32, i10, i00, false_implies, true_implies, not_false_eq_true, not_true_eq_false, true_and, and_true, nI_1, lz0, lz1, ix0, ix11, ix2]
          refine s_firstSide C hc (s_rhas (by omega) (fun hb1 => ?_) (fun hb1 => ?_))
          · try simp only [Option.some.injEq, exists_eq_left', fi32, i10, i00, false_implies, true_implies, not_false_eq_true, not_true_eq_false, true_and, and_true, nI_1, lz0, lz1, ix0, ix11, ix2]
            refine s_secondSide C hc (s_rhas (by omega) (fun hb2 => ?_) (fun hb2 => ?_))
            · try simp only [Option.some.injEq, exists_eq_left', fi32, i10, i00, false_implies, true_implies, not_false_eq_true, not_true_eq_false, true_and, and_true, nI_1, lz0, lz1, ix0, ix11, ix2]
              exact yes (by simp [tcb, hb, hb1, hb2])
            · try simp only [Option.some.injEq, exists_eq_left', fi32, i10, i00, false_implies, true_implies, not_false_eq_true, not_true_eq_false, true_and, and_true, nI_1, lz0, lz1, ix0, ix11, ix2]
              exact snd (by simp [hb2])
          · try simp only [Option.some.injEq, exists_eq_left', fi32, i10, i00, false_implies, true_implies, not_false_eq_true, not_true_eq_false, true_and, and_true, nI_1, lz0, lz1, ix0, ix11, ix2]
            exact snd (by simp [hb1])
        · try simp only [Option.some.injEq, exists_eq_left', fi32, i10, i00, false_implies, true_implies, not_false_eq_true, not_true_eq_false, true_and, and_true, nI_1, lz0, lz1, ix0, ix11, ix2]
          exact no (by simp [tcb, hb])
    · rw [e, e2] at h
      try simp only [Option.some.injEq, exists_eq_left', fi32, i10, i00, false_implies, true_implies, not_false_eq_true, not_true_eq_false, true_and, and_true, nI_1, lz0, lz1, ix0, ix11, ix2]
      exact h
  · rw [e] at h
    try simp only [Option.some.injEq, exists_eq_left', fi32, i10, i00, false_implies, true_implies, not_false_eq_true, not_true_eq_false, true_and, and_true, nI_1, lz0, lz1, ix0, ix11, ix2]
    exact h
theorem s_rdrawnBack {Q : mj_S → Int32 → Prop} (C : RI L S R s) (h : Q S (db R s)) : M_X11_drawnBack l G 89 S Q := by
  refine e_X11_drawnBack (b_X11_drawnBack_0 C.sh.k89 ⟨106, C.sh.p89_28, by rw [C.sh.l106]; exact vp_nI (p := 10) (by omega) (by omega), s_rfallen C ?_⟩)
  rw [show (10 : Int32).toNatClampNeg = 10 by decide, C.rs.bk]; exact h
theorem d_gathered {Q : mj_S → Int32 → Prop} (C : RI L S R s) (h : Q S (A_gathered R s)) : M_X11_gathered l G 89 S Q := by
  have hn := C.rw.n
  unfold A_gathered at h
  refine e_X11_gathered (b_X11_gathered_0 C.sh.k89 ?_)
  try simp only [Option.some.injEq, exists_eq_left', fi32, i10, i00, false_implies, true_implies, not_false_eq_true, not_true_eq_false, true_and, and_true, nI_1, lz0, lz1, ix0, ix11, ix2, C.sh.p89_22, C.sh.p89_23, C.sh.p89_24, C.sh.p89_28, C.sh.p89_32, C.sh.p89_33, C.sh.l103, C.sh.l104, C.sh.l105, C.sh.l106, C.sh.l108, C.sh.l109, C.rr.n, C.rr.nc, C.rr.np, C.rr.w, C.rr.h, C.rr.li, C.rr.mo, C.rs.bk, C.rs.yr, ix4, ix6, nI_e0 (show r_n R < 2 ^ 31 by omega)]
  exact ⟨fun z => by rw [if_neg z] at h; exact s_rdrawnBack C h, fun z => by rw [if_pos z] at h; exact h⟩
theorem s_lowEnough {n : Nat} {Q : mj_S → Int32 → Prop} (C : RI L S R s) (hn9 : n < 100) (h : Q S (bs (r_nc R) (we R s n))) : M_X11_lowEnough l G 89 (nI n) S Q := by
  have nc := C.rw.nc
  refine e_X11_lowEnough (b_X11_lowEnough_0 C.sh.k89 ?_)
  refine dn (P := fun c => V_X11_lowEnough_4 l G 89 (nI n) (bs c (we R s n)) (nI c) S Q) (r_nc R) ?_ ?_
  · refine b_X11_lowEnough_4 C.sh.k89 ?_
    try simp only [Option.some.injEq, exists_eq_left', fi32, i10, i00, false_implies, true_implies, not_false_eq_true, not_true_eq_false, true_and, and_true, nI_1, lz0, lz1, ix0, ix11, ix2, C.sh.p89_22, C.sh.p89_23, C.sh.p89_24, C.sh.p89_28, C.sh.p89_32, C.sh.p89_33, C.sh.l103, C.sh.l104, C.sh.l105, C.sh.l106, C.sh.l108, C.sh.l109, C.rr.n, C.rr.nc, C.rr.np, C.rr.w, C.rr.h, C.rr.li, C.rr.mo, C.rs.bk, C.rs.yr, ix4, ix6, geT (show r_nc R < 2 ^ 31 by omega)]
    exact h
  · intro c hc ih
    have h1 := C.rw.gp hc
    refine b_X11_lowEnough_4 C.sh.k89 ?_
    try simp only [Option.some.injEq, exists_eq_left', fi32, i10, i00, false_implies, true_implies, not_false_eq_true, not_true_eq_false, true_and, and_true, nI_1, lz0, lz1, ix0, ix11, ix2, C.sh.p89_22, C.sh.p89_23, C.sh.p89_24, C.sh.p89_28, C.sh.p89_32, C.sh.p89_33, C.sh.l103, C.sh.l104, C.sh.l105, C.sh.l106, C.sh.l108, C.sh.l109, C.rr.n, C.rr.nc, C.rr.np, C.rr.w, C.rr.h, C.rr.li, C.rr.mo, C.rs.bk, C.rs.yr, ix4, ix6, gtF hc (show r_nc R < 2 ^ 31 by omega)]
    refine s_hangs C hc (fun hb => ?_) (fun hb => ?_)
    · try simp only [Option.some.injEq, exists_eq_left', fi32, i10, i00, false_implies, true_implies, not_false_eq_true, not_true_eq_false, true_and, and_true, nI_1, lz0, lz1, ix0, ix11, ix2]
      refine s_of (k := 4) C hc (by omega) ?_
      rw [C.rr.gp hc]
      refine ⟨fun z => ?_, fun z => ?_⟩
      · have z' := (nI_ltI (show r_gp R c < 2 ^ 31 by omega) (by omega)).mp z
        rw [bs_s0' (by simp [we, show ¬ n ≤ r_gp R c by omega])] at ih; exact ih
      · have z' : ¬ r_gp R c < n := fun y => z ((nI_ltI (show r_gp R c < 2 ^ 31 by omega) (by omega)).mpr y)
        rw [bs_s1 (by simp [we, hb]; omega)] at ih; exact ih
    · rw [bs_s0' (by simp [we, hb])] at ih
      try simp only [Option.some.injEq, exists_eq_left', fi32, i10, i00, false_implies, true_implies, not_false_eq_true, not_true_eq_false, true_and, and_true, nI_1, lz0, lz1, ix0, ix11, ix2]
      exact ih
theorem RI.n0 (C : RI L S R s) : (m_gi S 89 25 ≤ 0) = (r_n R = 0) := by
  have hn := C.rw.n
  rw [C.rr.n]
  exact propext ⟨fun q => by have := (nI_leI (b := 0) (by omega) (by omega)).mp q; omega, fun q => by rw [q]; decide⟩
theorem d_lead {x1 : Int32} {Q : mj_S → Int32 → Prop} (C : RI L S R s) (h : Q S (A_lead R s x1)) : M_X11_lead l G 89 x1 S Q := by
  unfold A_lead at h
  refine e_X11_lead (b_X11_lead_0 C.sh.k89 ?_)
  simp only [C.n0]
  refine ⟨fun e => by rw [if_pos e] at h; exact h, fun e => ?_⟩
  rw [if_neg e] at h
  refine s_rinK (n := 9) (by omega) (fun q e2 => ?_) (fun e2 => ?_)
  · rw [e2] at h
    obtain ⟨hq, ex⟩ := ixn_some (by omega) e2
    try simp only [Option.some.injEq, exists_eq_left', fi32, i10, i00, false_implies, true_implies, not_false_eq_true, not_true_eq_false, true_and, and_true, nI_1, lz0, lz1, ix0, ix11, ix2]
    rw [ex]
    exact s_lowEnough C (by omega) h
  · rw [e2] at h
    try simp only [Option.some.injEq, exists_eq_left', fi32, i10, i00, false_implies, true_implies, not_false_eq_true, not_true_eq_false, true_and, and_true, nI_1, lz0, lz1, ix0, ix11, ix2]
    exact h
theorem d_guests {Q : mj_S → Int32 → Prop} (C : RI L S R s) (h : Q S (A_guests R s)) : M_X11_guests l G 89 S Q := by
  have np := C.rw.np
  have hn := C.rw.n
  unfold A_guests at h
  refine e_X11_guests (b_X11_guests_0 C.sh.k89 ?_)
  try simp only [Option.some.injEq, exists_eq_left', fi32, i10, i00, false_implies, true_implies, not_false_eq_true, not_true_eq_false, true_and, and_true, nI_1, lz0, lz1, ix0, ix11, ix2, C.sh.p89_22, C.sh.p89_23, C.sh.p89_24, C.sh.p89_28, C.sh.p89_32, C.sh.p89_33, C.sh.l103, C.sh.l104, C.sh.l105, C.sh.l106, C.sh.l108, C.sh.l109, C.rr.n, C.rr.nc, C.rr.np, C.rr.w, C.rr.h, C.rr.li, C.rr.mo, C.rs.bk, C.rs.yr, ix4, ix6, nI_e0 (show r_n R < 2 ^ 31 by omega)]
  refine ⟨fun e => ?_, fun e => by rw [if_pos e] at h; exact h⟩
  rw [if_neg e] at h
  refine dn (P := fun p => V_X11_guests_13 l G 89 (bs p (fun p => !decide (lo R s (st R s (s_pl s p)) (r_np R) = some p))) (nI p) S Q) (r_np R) ?_ ?_
  · refine b_X11_guests_13 C.sh.k89 ?_
    try simp only [Option.some.injEq, exists_eq_left', fi32, i10, i00, false_implies, true_implies, not_false_eq_true, not_true_eq_false, true_and, and_true, nI_1, lz0, lz1, ix0, ix11, ix2, C.sh.p89_22, C.sh.p89_23, C.sh.p89_24, C.sh.p89_28, C.sh.p89_32, C.sh.p89_33, C.sh.l103, C.sh.l104, C.sh.l105, C.sh.l106, C.sh.l108, C.sh.l109, C.rr.n, C.rr.nc, C.rr.np, C.rr.w, C.rr.h, C.rr.li, C.rr.mo, C.rs.bk, C.rs.yr, ix4, ix6, geT (show r_np R < 2 ^ 31 by omega)]
    exact h
  · intro p hp ih
    have hin : vp_in (nI (11 + p)) 199 := vp_nI (by omega) (by omega)
    refine b_X11_guests_13 C.sh.k89 ?_
    try simp only [Option.some.injEq, exists_eq_left', fi32, i10, i00, false_implies, true_implies, not_false_eq_true, not_true_eq_false, true_and, and_true, nI_1, lz0, lz1, ix0, ix11, ix2, C.sh.p89_22, C.sh.p89_23, C.sh.p89_24, C.sh.p89_28, C.sh.p89_32, C.sh.p89_33, C.sh.l103, C.sh.l104, C.sh.l105, C.sh.l106, C.sh.l108, C.sh.l109, C.rr.n, C.rr.nc, C.rr.np, C.rr.w, C.rr.h, C.rr.li, C.rr.mo, C.rs.bk, C.rs.yr, ix4, ix6, gtF hp (show r_np R < 2 ^ 31 by omega), hin, nI_clamp (show 11 + p < 2 ^ 31 by omega), C.rs.pl hp]
    refine s_stateOf C (C.sw.pl hp) (s_lordOf C ?_)
    try simp only [Option.some.injEq, exists_eq_left', fi32, i10, i00, false_implies, true_implies, not_false_eq_true, not_true_eq_false, true_and, and_true, nI_1, lz0, lz1, ix0, ix11, ix2, oI_e (o := lo R s (st R s (s_pl s p)) (r_np R)) (p := p) (fun m z => by have := lo_lt z; omega) (by omega)]
    refine ⟨fun z => ?_, fun z => ?_⟩
    · rw [bs_s0' (by simp [z])] at ih; exact ih
    · rw [bs_s1 (by simp [z])] at ih; exact ih
theorem d_cross {Q : mj_S → Int32 → Prop} (C : RI L S R s) (h : Q S (A_cross R s)) : M_X11_cross l G 89 S Q := by
  have hn := C.rw.n
  have nc := C.rw.nc
  unfold A_cross at h
  refine e_X11_cross (b_X11_cross_0 C.sh.k89 ?_)
  try simp only [Option.some.injEq, exists_eq_left', fi32, i10, i00, false_implies, true_implies, not_false_eq_true, not_true_eq_false, true_and, and_true, nI_1, lz0, lz1, ix0, ix11, ix2, C.sh.p89_22, C.sh.p89_23, C.sh.p89_24, C.sh.p89_28, C.sh.p89_32, C.sh.p89_33, C.sh.l103, C.sh.l104, C.sh.l105, C.sh.l106, C.sh.l108, C.sh.l109, C.rr.n, C.rr.nc, C.rr.np, C.rr.w, C.rr.h, C.rr.li, C.rr.mo, C.rs.bk, C.rs.yr, ix4, ix6, nI_e0 (show r_n R < 2 ^ 31 by omega)]
  refine ⟨fun e => ?_, fun e => by rw [if_pos e] at h; exact h⟩
  rw [if_neg e] at h
  refine dn (P := fun q => V_X11_cross_13 l G 89 (bs q (fun q => decide (3 ≤ cp_n (hg R s &&& bs (r_nc R) (be R q)) 10))) (nI q) S Q) (r_n R) ?_ ?_
  · refine b_X11_cross_13 C.sh.k89 ?_
    try simp only [Option.some.injEq, exists_eq_left', fi32, i10, i00, false_implies, true_implies, not_false_eq_true, not_true_eq_false, true_and, and_true, nI_1, lz0, lz1, ix0, ix11, ix2, C.sh.p89_22, C.sh.p89_23, C.sh.p89_24, C.sh.p89_28, C.sh.p89_32, C.sh.p89_33, C.sh.l103, C.sh.l104, C.sh.l105, C.sh.l106, C.sh.l108, C.sh.l109, C.rr.n, C.rr.nc, C.rr.np, C.rr.w, C.rr.h, C.rr.li, C.rr.mo, C.rs.bk, C.rs.yr, ix4, ix6, geT (show r_n R < 2 ^ 31 by omega)]
    exact h
  · intro q hq ih
    refine b_X11_cross_13 C.sh.k89 ?_
    try simp only [Option.some.injEq, exists_eq_left', fi32, i10, i00, false_implies, true_implies, not_false_eq_true, not_true_eq_false, true_and, and_true, nI_1, lz0, lz1, ix0, ix11, ix2, C.sh.p89_22, C.sh.p89_23, C.sh.p89_24, C.sh.p89_28, C.sh.p89_32, C.sh.p89_33, C.sh.l103, C.sh.l104, C.sh.l105, C.sh.l106, C.sh.l108, C.sh.l109, C.rr.n, C.rr.nc, C.rr.np, C.rr.w, C.rr.h, C.rr.li, C.rr.mo, C.rs.bk, C.rs.yr, ix4, ix6, gtF hq (show r_n R < 2 ^ 31 by omega)]
    have hext := cp_n_ext (x := hg R s &&& bs (r_nc R) (be R q)) (m := r_nc R) (fun i hi => by rw [b_and, Bool.and_eq_true] at hi; exact hg_in C.rw i hi.1) 10 nc
    refine dn (P := fun c => V_X11_cross_26 l G 89 (bs q (fun q => decide (3 ≤ cp_n (hg R s &&& bs (r_nc R) (be R q)) 10))) (nI q) (nI (cp_n (hg R s &&& bs (r_nc R) (be R q)) c)) (nI c) S Q) (r_nc R) ?_ ?_
    · refine b_X11_cross_26 C.sh.k89 ?_
      have hle := cp_n_le (hg R s &&& bs (r_nc R) (be R q)) (r_nc R)
      try simp only [Option.some.injEq, exists_eq_left', fi32, i10, i00, false_implies, true_implies, not_false_eq_true, not_true_eq_false, true_and, and_true, nI_1, lz0, lz1, ix0, ix11, ix2, C.sh.p89_22, C.sh.p89_23, C.sh.p89_24, C.sh.p89_28, C.sh.p89_32, C.sh.p89_33, C.sh.l103, C.sh.l104, C.sh.l105, C.sh.l106, C.sh.l108, C.sh.l109, C.rr.n, C.rr.nc, C.rr.np, C.rr.w, C.rr.h, C.rr.li, C.rr.mo, C.rs.bk, C.rs.yr, ix4, ix6, geT (show r_nc R < 2 ^ 31 by omega)]
      refine ⟨fun z => ?_, fun z => ?_⟩
      · have z' := (nI_ltI (b := 3) (by omega) (by omega)).mp z
        rw [bs_s0' (by simp; omega)] at ih; exact ih
      · have z' : ¬ cp_n (hg R s &&& bs (r_nc R) (be R q)) (r_nc R) < 3 := fun y => z ((nI_ltI (b := 3) (by omega) (by omega)).mpr y)
        rw [bs_s1 (by simp; omega)] at ih; exact ih
    · intro c hc ih2
      have hbc : bt (hg R s &&& bs (r_nc R) (be R q)) c = (bt (hg R s) c && be R q c) := by
        rw [b_and, b_bs _ _ (by omega)]; simp [hc]
      have hcn : cp_n (hg R s &&& bs (r_nc R) (be R q)) (c + 1) = cp_n (hg R s &&& bs (r_nc R) (be R q)) c + (if (bt (hg R s) c && be R q c) = true then 1 else 0) := by rw [← hbc]; rfl
      rw [hcn] at ih2
      refine b_X11_cross_26 C.sh.k89 ?_
      try simp only [Option.some.injEq, exists_eq_left', fi32, i10, i00, false_implies, true_implies, not_false_eq_true, not_true_eq_false, true_and, and_true, nI_1, lz0, lz1, ix0, ix11, ix2, C.sh.p89_22, C.sh.p89_23, C.sh.p89_24, C.sh.p89_28, C.sh.p89_32, C.sh.p89_33, C.sh.l103, C.sh.l104, C.sh.l105, C.sh.l106, C.sh.l108, C.sh.l109, C.rr.n, C.rr.nc, C.rr.np, C.rr.w, C.rr.h, C.rr.li, C.rr.mo, C.rs.bk, C.rs.yr, ix4, ix6, gtF hc (show r_nc R < 2 ^ 31 by omega)]
      have a0 : ∀ m, nI m + (0 : Int32) = nI m := fun m => by rw [show (0 : Int32) = nI 0 from rfl, nI_add]; rfl
      refine s_hangs C hc (fun hb => ?_) (fun hb => ?_)
      · try simp only [Option.some.injEq, exists_eq_left', fi32, i10, i00, false_implies, true_implies, not_false_eq_true, not_true_eq_false, true_and, and_true, nI_1, lz0, lz1, ix0, ix11, ix2]
        refine s_isAt C hc hq (fun hb2 => ?_) (fun hb2 => ?_)
        · rw [if_pos (by unfold be; rw [hb]; simpa using hb2)] at ih2
          try simp only [Option.some.injEq, exists_eq_left', fi32, i10, i00, false_implies, true_implies, not_false_eq_true, not_true_eq_false, true_and, and_true, nI_1, lz0, lz1, ix0, ix11, ix2]
          exact ih2
        · rw [if_neg (by unfold be; rw [hb]; simpa using hb2)] at ih2
          try simp only [Option.some.injEq, exists_eq_left', fi32, i10, i00, false_implies, true_implies, not_false_eq_true, not_true_eq_false, true_and, and_true, nI_1, lz0, lz1, ix0, ix11, ix2, a0]
          exact ih2
      · rw [if_neg (by rw [hb]; simp)] at ih2
        try simp only [Option.some.injEq, exists_eq_left', fi32, i10, i00, false_implies, true_implies, not_false_eq_true, not_true_eq_false, true_and, and_true, nI_1, lz0, lz1, ix0, ix11, ix2, a0]
        exact ih2
theorem d_realm {Q : mj_S → Int32 → Prop} (C : RI L S R s) (h : Q S (rlm R s (r_n R)).1) : M_X11_realm l G 89 S Q := by
  have hn := C.rw.n
  refine e_X11_realm (b_X11_realm_0 C.sh.k89 ?_)
  refine dn (P := fun q => V_X11_realm_6 l G 89 (rlm R s q).1 (rlm R s q).2 (nI q) S Q) (r_n R) ?_ ?_
  · refine b_X11_realm_6 C.sh.k89 ?_
    try simp only [Option.some.injEq, exists_eq_left', fi32, i10, i00, false_implies, true_implies, not_false_eq_true, not_true_eq_false, true_and, and_true, nI_1, lz0, lz1, ix0, ix11, ix2, C.sh.p89_22, C.sh.p89_23, C.sh.p89_24, C.sh.p89_28, C.sh.p89_32, C.sh.p89_33, C.sh.l103, C.sh.l104, C.sh.l105, C.sh.l106, C.sh.l108, C.sh.l109, C.rr.n, C.rr.nc, C.rr.np, C.rr.w, C.rr.h, C.rr.li, C.rr.mo, C.rs.bk, C.rs.yr, ix4, ix6, geT (show r_n R < 2 ^ 31 by omega)]
    exact h
  · intro q hq ih
    refine b_X11_realm_6 C.sh.k89 ?_
    try simp only [Option.some.injEq, exists_eq_left', fi32, i10, i00, false_implies, true_implies, not_false_eq_true, not_true_eq_false, true_and, and_true, nI_1, lz0, lz1, ix0, ix11, ix2, C.sh.p89_22, C.sh.p89_23, C.sh.p89_24, C.sh.p89_28, C.sh.p89_32, C.sh.p89_33, C.sh.l103, C.sh.l104, C.sh.l105, C.sh.l106, C.sh.l108, C.sh.l109, C.rr.n, C.rr.nc, C.rr.np, C.rr.w, C.rr.h, C.rr.li, C.rr.mo, C.rs.bk, C.rs.yr, ix4, ix6, gtF hq (show r_n R < 2 ^ 31 by omega)]
    refine s_stateOf C hq (s_bc ⟨fun z => ?_, fun z => ?_⟩)
    · unfold rlm at ih
      rw [if_pos z] at ih; exact ih
    · unfold rlm at ih
      rw [if_neg z] at ih; exact ih
theorem d_air {x1 : Int32} {Q : mj_S → Int32 → Prop} (C : RI L S R s) (h : Q S (A_air R s x1)) : M_X11_air l G 89 x1 S Q := by
  have np := C.rw.np
  unfold A_air at h
  refine e_X11_air (b_X11_air_0 C.sh.k89 (s_risPerson C (fun p e => ?_) (fun e => ?_)))
  · obtain ⟨hp, ex⟩ := ixn_some (by omega) e
    rw [e] at h
    have hin : vp_in (nI (11 + p)) 199 := vp_nI (by omega) (by omega)
    rw [ex]
    try simp only [Option.some.injEq, exists_eq_left', fi32, i10, i00, false_implies, true_implies, not_false_eq_true, not_true_eq_false, true_and, and_true, nI_1, lz0, lz1, ix0, ix11, ix2, C.sh.p89_22, C.sh.p89_23, C.sh.p89_24, C.sh.p89_28, C.sh.p89_32, C.sh.p89_33, C.sh.l103, C.sh.l104, C.sh.l105, C.sh.l106, C.sh.l108, C.sh.l109, C.rr.n, C.rr.nc, C.rr.np, C.rr.w, C.rr.h, C.rr.li, C.rr.mo, C.rs.bk, C.rs.yr, ix4, ix6, hin, nI_clamp (show 11 + p < 2 ^ 31 by omega), C.rs.pl hp]
    have hpos := pin_pos hp (jn_self C.rw (hg R s) (C.sw.pl hp))
    have hle := pin_le (s := s) (X := st R s (s_pl s p)) (k := r_np R)
    exact s_stateOf C (C.sw.pl hp) (s_bc (s_personsIn C ⟨nI_ne0 hpos (by omega), h⟩))
  · rw [e] at h
    try simp only [Option.some.injEq, exists_eq_left', fi32, i10, i00, false_implies, true_implies, not_false_eq_true, not_true_eq_false, true_and, and_true, nI_1, lz0, lz1, ix0, ix11, ix2]
    exact h
theorem s_hasRight {p c : Nat} {Q : mj_S → Int32 → Prop} (C : RI L S R s) (hp : p < r_np R) (hc : c < r_nc R) (h1 : ri R (st R s (s_pl s p)) c = true → Q S 1) (h0 : ri R (st R s (s_pl s p)) c = false → Q S 0) : M_X11_hasRight l G 89 (nI p) (nI c) S Q := by
  have np := C.rw.np
  have hn := C.rw.n
  have n1 := C.rw.nr hc
  have n2 := C.rw.fr hc
  have hin : vp_in (nI (11 + p)) 199 := vp_nI (by omega) (by omega)
  refine e_X11_hasRight (b_X11_hasRight_0 C.sh.k89 ?_)
  try simp only [Option.some.injEq, exists_eq_left', fi32, i10, i00, false_implies, true_implies, not_false_eq_true, not_true_eq_false, true_and, and_true, nI_1, lz0, lz1, ix0, ix11, ix2, C.sh.p89_22, C.sh.p89_23, C.sh.p89_24, C.sh.p89_28, C.sh.p89_32, C.sh.p89_33, C.sh.l103, C.sh.l104, C.sh.l105, C.sh.l106, C.sh.l108, C.sh.l109, C.rr.n, C.rr.nc, C.rr.np, C.rr.w, C.rr.h, C.rr.li, C.rr.mo, C.rs.bk, C.rs.yr, ix4, ix6, hin, nI_clamp (show 11 + p < 2 ^ 31 by omega), C.rs.pl hp]
  refine s_stateOf C (C.sw.pl hp) (s_firstSide C hc (s_rhas (by omega) (fun hb => ?_) (fun hb => ?_)))
  · try simp only [Option.some.injEq, exists_eq_left', fi32, i10, i00, false_implies, true_implies, not_false_eq_true, not_true_eq_false, true_and, and_true, nI_1, lz0, lz1, ix0, ix11, ix2]
    exact h1 (by simp [ri, hb])
  · try simp only [Option.some.injEq, exists_eq_left', fi32, i10, i00, false_implies, true_implies, not_false_eq_true, not_true_eq_false, true_and, and_true, nI_1, lz0, lz1, ix0, ix11, ix2]
    refine s_secondSide C hc (s_rhas (by omega) (fun hb2 => ?_) (fun hb2 => ?_))
    · try simp only [Option.some.injEq, exists_eq_left', fi32, i10, i00, false_implies, true_implies, not_false_eq_true, not_true_eq_false, true_and, and_true, nI_1, lz0, lz1, ix0, ix11, ix2]
      exact h1 (by simp [ri, hb2])
    · try simp only [Option.some.injEq, exists_eq_left', fi32, i10, i00, false_implies, true_implies, not_false_eq_true, not_true_eq_false, true_and, and_true, nI_1, lz0, lz1, ix0, ix11, ix2]
      exact h0 (by simp [ri, hb, hb2])
theorem s_isFewer {a b : Int32} {Q : mj_S → Int32 → Prop} (h1 : ¬ (¬ b = -1 ∧ ¬ bc a < bc b) → Q S 1) (h0 : ¬ b = -1 ∧ ¬ bc a < bc b → Q S 0) : M_X11_isFewer l G a b S Q := by
  refine e_X11_isFewer (b_X11_isFewer_0 ⟨fun z => h1 (fun q => q.1 z), fun z => s_bc (s_bc ⟨fun z2 => h0 ⟨z, Int32.not_lt.mpr z2⟩, fun z2 => h1 (fun q => z2 (Int32.not_lt.mp q.2))⟩)⟩)
theorem in_rng {n : Nat} {y : Int32} (hn : n ≤ 20) : (¬ y < 0 ∧ ¬ al n < y) ↔ y &&& (al n ^^^ (-1)) = 0 := by
  rw [in_al hn, al_nI hn]
  have hp : 0 < 2 ^ n := Nat.pow_pos (by omega)
  have hp2 : 2 ^ n ≤ 2 ^ 20 := Nat.pow_le_pow_right (by omega) hn
  constructor
  · rintro ⟨h1, h2⟩
    obtain ⟨j, hj, e⟩ := nI_of h1
    rw [e] at h2 ⊢
    have := Int32.not_lt.mp h2
    have := (nI_leI hj (by omega)).mp this
    exact nI_cp (by omega)
  · intro h
    obtain ⟨m, hm, e⟩ := h.nI (by omega)
    rw [e]
    exact ⟨nI_pos (by omega), nI_nlt (by omega) (by omega)⟩
theorem d_join {x1 x2 : Int32} {Q : mj_S → Int32 → Prop} (C : RI L S R s) (h : Q S (A_join R s x1 x2)) : M_X11_join l G 89 x1 x2 S Q := by
  have hn := C.rw.n
  have nc := C.rw.nc
  have h10 := pow10 nc
  unfold A_join at h
  refine e_X11_join (b_X11_join_0 C.sh.k89 (fun v ev => ?_))
  rw [C.rr.n] at ev
  have ev' : v = al (r_n R) := ev
  try simp only [Option.some.injEq, exists_eq_left', fi32, i10, i00, false_implies, true_implies, not_false_eq_true, not_true_eq_false, true_and, and_true, nI_1, lz0, lz1, ix0, ix11, ix2, C.sh.p89_22, C.sh.p89_23, C.sh.p89_24, C.sh.p89_28, C.sh.p89_32, C.sh.p89_33, C.sh.l103, C.sh.l104, C.sh.l105, C.sh.l106, C.sh.l108, C.sh.l109, C.rr.n, C.rr.nc, C.rr.np, C.rr.w, C.rr.h, C.rr.li, C.rr.mo, C.rs.bk, C.rs.yr, ix4, ix6, nI_e0 (show r_n R < 2 ^ 31 by omega)]
  refine ⟨fun e => by rw [if_pos (Or.inl e)] at h; exact h, fun e => ?_⟩
  rw [ev']
  have one : ∀ y : Int32, ¬ y < 1 ↔ (¬ y < 0 ∧ ¬ y = 0) := by
    intro y
    rw [Int32.lt_iff_toInt_lt, Int32.lt_iff_toInt_lt, ← Int32.toInt_inj, show (1 : Int32).toInt = 1 by decide, show (0 : Int32).toInt = 0 by decide]
    omega
  refine s_rin (fun q1 q2 => ?_) (fun q => ?_)
  · have q1' := (one x1).mp q1
    have e1 := (in_rng hn).mp ⟨q1'.1, q2⟩
    try simp only [Option.some.injEq, exists_eq_left', fi32, i10, i00, false_implies, true_implies, not_false_eq_true, not_true_eq_false, true_and, and_true, nI_1, lz0, lz1, ix0, ix11, ix2]
    refine s_rin (fun q3 q4 => ?_) (fun q => ?_)
    · have e2 := (in_rng hn).mp ⟨q3, q4⟩
      rw [if_neg (fun z => by rcases z with z | z | z | z; exact e z; exact z e1; exact z e2; exact q1'.2 z)] at h
      try simp only [Option.some.injEq, exists_eq_left', fi32, i10, i00, false_implies, true_implies, not_false_eq_true, not_true_eq_false, true_and, and_true, nI_1, lz0, lz1, ix0, ix11, ix2]
      refine s_hanging C ?_
      obtain ⟨k0, k1, k2, k3, k4, _⟩ := nz_of (((in_al hn).mp e1).mono hn) q1'.2
      have hk0 := (in_al hn).mp e1 k0 k3
      refine dn (P := fun k => V_X11_join_48 l G 89 x1 x2 (jf R s x1 x2 k) (hg R s) (nI k) S Q) (2 ^ r_nc R) ?_ ?_
      · refine b_X11_join_48 C.sh.k89 ⟨fun _ => h, fun z => absurd ?_ z⟩
        rw [C.rr.nc]
        show on (r_nc R) ≤ _
        rw [on_nI (by omega)]; exact nI_le (Nat.le_refl _) (by omega)
      · intro k hk ih
        unfold jf at ih
        refine b_X11_join_48 C.sh.k89 ⟨fun z => absurd z ?_, fun _ => s_rfallen C ⟨fun z => ?_, fun z => s_isFewer (fun hf => ?_) (fun hf => ?_)⟩⟩
        · rw [C.rr.nc]
          show ¬ on (r_nc R) ≤ _
          rw [on_nI (by omega)]; exact nI_ge hk (by omega)
        · rw [if_pos (Or.inl z)] at ih
          try simp only [Option.some.injEq, exists_eq_left', fi32, i10, i00, false_implies, true_implies, not_false_eq_true, not_true_eq_false, true_and, and_true, nI_1, lz0, lz1, ix0, ix11, ix2]
          exact ih
        · rw [if_neg (fun q => by rcases q with q | q; exact q z; exact hf q), k4] at ih
          try simp only [Option.some.injEq, exists_eq_left', fi32, i10, i00, false_implies, true_implies, not_false_eq_true, not_true_eq_false, true_and, and_true, nI_1, lz0, lz1, ix0, ix11, ix2]
          refine s_nameOf C.sh ?_
          rw [k2]
          refine s_joinedBy C hk0 ⟨fun y => ?_, fun y => ⟨fun y2 => ?_, fun y2 => ?_⟩⟩
          · rw [if_neg (fun q => y q.1)] at ih
            try simp only [Option.some.injEq, exists_eq_left', fi32, i10, i00, false_implies, true_implies, not_false_eq_true, not_true_eq_false, true_and, and_true, nI_1, lz0, lz1, ix0, ix11, ix2]
            exact ih
          · rw [if_neg (fun q => y2 q.2)] at ih
            try simp only [Option.some.injEq, exists_eq_left', fi32, i10, i00, false_implies, true_implies, not_false_eq_true, not_true_eq_false, true_and, and_true, nI_1, lz0, lz1, ix0, ix11, ix2]
            exact ih
          · rw [if_pos ⟨y, y2⟩] at ih
            try simp only [Option.some.injEq, exists_eq_left', fi32, i10, i00, false_implies, true_implies, not_false_eq_true, not_true_eq_false, true_and, and_true, nI_1, lz0, lz1, ix0, ix11, ix2]
            exact ih
        · rw [if_pos (Or.inr hf)] at ih
          try simp only [Option.some.injEq, exists_eq_left', fi32, i10, i00, false_implies, true_implies, not_false_eq_true, not_true_eq_false, true_and, and_true, nI_1, lz0, lz1, ix0, ix11, ix2]
          exact ih
    · have : ¬ (x2 &&& (al (r_n R) ^^^ (-1))) = 0 := fun z => by
        have := (in_rng hn).mpr z
        rcases q with q | q
        · exact this.1 q
        · exact this.2 q
      rw [if_pos (Or.inr (Or.inr (Or.inl this)))] at h
      try simp only [Option.some.injEq, exists_eq_left', fi32, i10, i00, false_implies, true_implies, not_false_eq_true, not_true_eq_false, true_and, and_true, nI_1, lz0, lz1, ix0, ix11, ix2]
      exact h
  · have : ¬ (x1 &&& (al (r_n R) ^^^ (-1))) = 0 ∨ x1 = 0 := by
      by_cases z0 : x1 = 0
      · exact Or.inr z0
      · refine Or.inl (fun z => ?_)
        have := (in_rng hn).mpr z
        rcases q with q | q
        · exact (one x1).mpr ⟨this.1, z0⟩ q
        · exact this.2 q
    rw [if_pos (by rcases this with z | z; exact Or.inr (Or.inl z); exact Or.inr (Or.inr (Or.inr z)))] at h
    try simp only [Option.some.injEq, exists_eq_left', fi32, i10, i00, false_implies, true_implies, not_false_eq_true, not_true_eq_false, true_and, and_true, nI_1, lz0, lz1, ix0, ix11, ix2]
    exact h
theorem d_under {x1 x2 x3 : Int32} {Q : mj_S → Int32 → Prop} (C : RI L S R s) (h : Q S (A_under R s x1 x2 x3)) : M_X11_under l G 89 x1 x2 x3 S Q := by
  have hn := C.rw.n
  have nc := C.rw.nc
  have hk := C.sh.k89
  unfold A_under at h
  refine e_X11_under (b_X11_under_0 hk (s_risSquare C (fun a e => ?_) (fun e => ?_)))
  · obtain ⟨ha, ex⟩ := ixn_some (by omega) e
    try simp only [Option.some.injEq, exists_eq_left', fi32, i10, i00, false_implies, true_implies, not_false_eq_true, not_true_eq_false, true_and, and_true, nI_1, lz0, lz1, ix0, ix11, ix2]
    refine s_risSquare C (fun b e2 => ?_) (fun e2 => ?_)
    · obtain ⟨hb, ex2⟩ := ixn_some (by omega) e2
      try simp only [Option.some.injEq, exists_eq_left', fi32, i10, i00, false_implies, true_implies, not_false_eq_true, not_true_eq_false, true_and, and_true, nI_1, lz0, lz1, ix0, ix11, ix2]
      refine s_rinK (n := 9) (by omega) (fun k e3 => ?_) (fun e3 => ?_)
      · obtain ⟨hk9, ex3⟩ := ixn_some (by omega) e3
        rw [e, e2, e3] at h
        try simp only [Option.some.injEq, exists_eq_left', fi32, i10, i00, false_implies, true_implies, not_false_eq_true, not_true_eq_false, true_and, and_true, nI_1, lz0, lz1, ix0, ix11, ix2]
        rw [ex, ex2, ex3]
        refine s_stateOf C ha ?_
        refine (?_ : ∀ (j p : Nat) (X : Int32), p + j = r_nc R + 1 → cp_in X (r_n R) → jn R (hg R s) X = X → Q S (un R s (bs (r_nc R) (we R s k)) b j p X) → V_X11_under_38 l G 89 (nI b) (nI k) X (nI p) S Q) (r_nc R + 1) 0 _ (by omega) (st_in C.rw ha) (jn_jn C.rw _ (on_in ha (by omega))) h
        intro j
        induction j with
        | zero =>
          intro p X hp _ _ hQ
          refine b_X11_under_38 hk ⟨fun _ => hQ, fun z => absurd ?_ z⟩
          rw [C.rr.nc]; exact nI_lt (by omega) (by omega)
        | succ j ih =>
          intro p X hp hX1 hX2 hQ
          unfold un at hQ
          refine b_X11_under_38 hk ⟨fun z => absurd z (by rw [C.rr.nc]; exact nI_nlt (by omega) (by omega)), fun _ => s_rhas (by omega) (fun hb => ?_) (fun hb => ?_)⟩
          · rw [if_pos hb] at hQ
            try simp only [Option.some.injEq, exists_eq_left', fi32, i10, i00, false_implies, true_implies, not_false_eq_true, not_true_eq_false, true_and, and_true, nI_1, lz0, lz1, ix0, ix11, ix2]
            exact hQ
          · rw [if_neg (by rw [hb]; decide)] at hQ
            try simp only [Option.some.injEq, exists_eq_left', fi32, i10, i00, false_implies, true_implies, not_false_eq_true, not_true_eq_false, true_and, and_true, nI_1, lz0, lz1, ix0, ix11, ix2]
            have start : X = jn R (hg R s) (X ||| by_ R (bs (r_nc R) (we R s k)) X 0) := by
              rw [show by_ R (bs (r_nc R) (we R s k)) X 0 = 0 from rfl, or_0, hX2]
            have go := dn (P := fun c => V_X11_under_66 l G 89 (nI b) (nI k) X (nI p) (jn R (hg R s) (X ||| by_ R (bs (r_nc R) (we R s k)) X c)) (nI c) S Q) (r_nc R) ?_ ?_
            · rw [← start] at go; exact go
            · refine b_X11_under_66 hk ?_
              try simp only [Option.some.injEq, exists_eq_left', fi32, i10, i00, false_implies, true_implies, not_false_eq_true, not_true_eq_false, true_and, and_true, nI_1, lz0, lz1, ix0, ix11, ix2, C.sh.p89_22, C.sh.p89_23, C.sh.p89_24, C.sh.p89_28, C.sh.p89_32, C.sh.p89_33, C.sh.l103, C.sh.l104, C.sh.l105, C.sh.l106, C.sh.l108, C.sh.l109, C.rr.n, C.rr.nc, C.rr.np, C.rr.w, C.rr.h, C.rr.li, C.rr.mo, C.rs.bk, C.rs.yr, ix4, ix6, geT (show r_nc R < 2 ^ 31 by omega)]
              exact ih (p + 1) _ (by omega) (jn_in C.rw _ (in_or hX1 (by_in C.rw (Nat.le_refl _)))) (jn_jn C.rw _ (in_or hX1 (by_in C.rw (Nat.le_refl _)))) hQ
            · intro c hc ih2
              have h1 := C.rw.nr hc
              have h2 := C.rw.fr hc
              have o1 := on_in h1 (show r_n R ≤ 32 by omega)
              have o2 := on_in h2 (show r_n R ≤ 32 by omega)
              have hby := by_in C.rw (W := bs (r_nc R) (we R s k)) (X := X) (c := c) (by omega)
              unfold by_ at ih2
              dsimp only at ih2
              have snd : ∀ y z, z = jn R (hg R s) (X ||| y) → y = (if bt (bs (r_nc R) (we R s k)) c = true ∧ bt X (r_nr R c) = true then by_ R (bs (r_nc R) (we R s k)) X c ||| on (r_fr R c) else by_ R (bs (r_nc R) (we R s k)) X c) → cp_in y (r_n R) → bt (bs (r_nc R) (we R s k)) c = true → ∀ s0 s1, z = s0 ||| s1 → V_X11_under_118 l G 89 (nI b) (nI k) X (nI p) (nI c) s0 s1 S Q := by
                intro y z ez ey hy hW s0 s1 es
                rw [← ey] at ih2
                refine b_X11_under_118 hk (fun v1 e1 => ?_)
                rw [← es] at e1
                refine s_secondSide C hc (s_rhas (by omega) (fun hb2 => ?_) (fun hb2 => ?_))
                · rw [if_pos ⟨hW, hb2⟩, or_as, jn_or C.rw _ (in_or hX1 hy) o1] at ih2
                  try simp only [Option.some.injEq, exists_eq_left', fi32, i10, i00, false_implies, true_implies, not_false_eq_true, not_true_eq_false, true_and, and_true, nI_1, lz0, lz1, ix0, ix11, ix2]
                  refine s_firstSide C hc (s_stateOf C h1 ?_)
                  try simp only [Option.some.injEq, exists_eq_left', fi32, i10, i00, false_implies, true_implies, not_false_eq_true, not_true_eq_false, true_and, and_true, nI_1, lz0, lz1, ix0, ix11, ix2]
                  rw [e1, ez]; exact ih2
                · rw [if_neg (fun q => by rw [hb2] at q; cases q.2)] at ih2
                  try simp only [Option.some.injEq, exists_eq_left', fi32, i10, i00, false_implies, true_implies, not_false_eq_true, not_true_eq_false, true_and, and_true, nI_1, lz0, lz1, ix0, ix11, ix2]
                  rw [e1, ez, or_0]; exact ih2
              refine b_X11_under_66 hk ?_
              try simp only [Option.some.injEq, exists_eq_left', fi32, i10, i00, false_implies, true_implies, not_false_eq_true, not_true_eq_false, true_and, and_true, nI_1, lz0, lz1, ix0, ix11, ix2, C.sh.p89_22, C.sh.p89_23, C.sh.p89_24, C.sh.p89_28, C.sh.p89_32, C.sh.p89_33, C.sh.l103, C.sh.l104, C.sh.l105, C.sh.l106, C.sh.l108, C.sh.l109, C.rr.n, C.rr.nc, C.rr.np, C.rr.w, C.rr.h, C.rr.li, C.rr.mo, C.rs.bk, C.rs.yr, ix4, ix6, gtF hc (show r_nc R < 2 ^ 31 by omega)]
              refine s_lowEnough C (by omega) (s_rhas (by omega) (fun hW => ?_) (fun hW => ?_))
              · try simp only [Option.some.injEq, exists_eq_left', fi32, i10, i00, false_implies, true_implies, not_false_eq_true, not_true_eq_false, true_and, and_true, nI_1, lz0, lz1, ix0, ix11, ix2]
                refine s_firstSide C hc (s_rhas (by omega) (fun hb2 => ?_) (fun hb2 => ?_))
                · try simp only [Option.some.injEq, exists_eq_left', fi32, i10, i00, false_implies, true_implies, not_false_eq_true, not_true_eq_false, true_and, and_true, nI_1, lz0, lz1, ix0, ix11, ix2]
                  refine s_secondSide C hc (s_stateOf C h2 ?_)
                  refine snd (by_ R (bs (r_nc R) (we R s k)) X c ||| on (r_fr R c)) _ rfl (by rw [if_pos ⟨hW, hb2⟩]) (in_or hby o2) hW _ _ ?_
                  rw [or_as, jn_or C.rw _ (in_or hX1 hby) o2]; rfl
                · try simp only [Option.some.injEq, exists_eq_left', fi32, i10, i00, false_implies, true_implies, not_false_eq_true, not_true_eq_false, true_and, and_true, nI_1, lz0, lz1, ix0, ix11, ix2]
                  exact snd (by_ R (bs (r_nc R) (we R s k)) X c) _ rfl (by rw [if_neg (fun q => by rw [hb2] at q; cases q.2)]) hby hW _ _ (or_0 _).symm
              · rw [if_neg (fun q => by rw [hW] at q; cases q.1), if_neg (fun q => by rw [hW] at q; cases q.1)] at ih2
                try simp only [Option.some.injEq, exists_eq_left', fi32, i10, i00, false_implies, true_implies, not_false_eq_true, not_true_eq_false, true_and, and_true, nI_1, lz0, lz1, ix0, ix11, ix2]
                exact ih2
      · rw [e, e2, e3] at h
        try simp only [Option.some.injEq, exists_eq_left', fi32, i10, i00, false_implies, true_implies, not_false_eq_true, not_true_eq_false, true_and, and_true, nI_1, lz0, lz1, ix0, ix11, ix2]
        exact h
    · rw [e, e2] at h
      try simp only [Option.some.injEq, exists_eq_left', fi32, i10, i00, false_implies, true_implies, not_false_eq_true, not_true_eq_false, true_and, and_true, nI_1, lz0, lz1, ix0, ix11, ix2]
      exact h
  · rw [e] at h
    try simp only [Option.some.injEq, exists_eq_left', fi32, i10, i00, false_implies, true_implies, not_false_eq_true, not_true_eq_false, true_and, and_true, nI_1, lz0, lz1, ix0, ix11, ix2]
    exact h
end R3
