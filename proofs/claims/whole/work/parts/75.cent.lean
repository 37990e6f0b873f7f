/-! centuries by draws -/
def dcu (R : rm) (hv : Int32) (s : sc) (d : Int64) : sc × Int64 := if hv ≤ nI (dvl (nxt d) 100) then (if r_nc R = 0 then (s, nxt d) else (setB s (s_bk s ^^^ (if s_cl s (dvl (nxt (nxt d)) (r_nc R)) = 0 then 0 else on (dvl (nxt (nxt d)) (r_nc R)))), nxt (nxt d))) else (setB s (al (r_nc R)), nxt d)
def dpe (R : rm) (s : sc) (d : Int64) : sc × Int64 := (if bt (st R s (s_pl s (dvl (nxt d) (r_np R)))) (dvl (nxt (nxt d)) (r_n R)) = true then setP s (dvl (nxt d) (r_np R)) (dvl (nxt (nxt d)) (r_n R)) else s, nxt (nxt d))
def cst (R : rm) (tk : sc → Nat → Nat) (hv : Int32) (x : sc × hy × Int64) : sc × hy × Int64 := (fun b : sc × Int64 => (wrn R b.1 (lt0 R tk b.1), hyear b.1 (ly R tk b.1) (hpush x.1 x.2.1), b.2)) ((fun a : sc × Int64 => dpe R a.1 a.2) (dcu R hv x.1 x.2.2))
def cit (R : rm) (tk : sc → Nat → Nat) (hv : Int32) : Nat → sc × hy × Int64 → sc × hy × Int64
  | 0, x => x
  | k + 1, x => cit R tk hv k (cst R tk hv x)
theorem al_in {n : Nat} (hn : n ≤ 20) : cp_in (al n) n := fun i hi => by rw [b_al hn, decide_eq_true_iff] at hi; exact hi
theorem in_0 {n : Nat} : cp_in (0 : Int32) n := fun i hi => by rw [b_0] at hi; cases hi
section CT
variable {R : rm} {s : sc} {hv : Int32} {d : Int64}
theorem dcu_yr : s_yr (dcu R hv s d).1 = s_yr s := by
  unfold dcu
  split
  · split <;> rfl
  · rfl
theorem dcu_wf (hR : r_wf R) (h : s_wf R s) : s_wf R (dcu R hv s d).1 := by
  have nc := hR.nc
  unfold dcu
  split
  · split
    · exact h
    · rename_i hne
      refine setB_wf h (xor_in h.bk ?_)
      split
      · exact in_0
      · exact on_in (dvl_lt (by omega)) (by omega)
  · exact setB_wf h (al_in (by omega))
theorem dpe_yr : s_yr (dpe R s d).1 = s_yr s := by
  unfold dpe
  dsimp only
  split <;> rfl
theorem dpe_wf (hpos : 0 < r_n R) (h : s_wf R s) : s_wf R (dpe R s d).1 := by
  unfold dpe
  dsimp only
  split
  · exact setP_wf h (dvl_lt hpos)
  · exact h
theorem hyear_eq {s' : sc} {v : Nat → Int32} {H : hy} (h : s_yr s' = s_yr s) : hyear s' v H = hyear s v H := by unfold hyear; rw [h]
end CT
section CC
variable {l : Launch} {G : mj_G} {L r rs nx : Nat} {R : rm} {s : sc} {S : mj_S} {H : hy} {I : imt} {tk : sc → Nat → Nat}
theorem lN_ne0 {m : Nat} (h0 : 0 < m) (h : m < 2 ^ 31) : ¬ lN m = 0 := fun e => by
  have := (lN_eq (a := m) (b := 0) h (by omega)).mp e
  omega
theorem s_draw {m : Nat} {Q : mj_S → Int32 → Prop} (hs : Sh L S) (h0 : 0 < m) (hm : m < 2 ^ 31) (h : ∀ S', S' = m_sl S 6 15 (nxt (m_gl S 6 15)) → Q S' (nI (dvl (nxt (m_gl S 6 15)) m))) : M_X10_draw l G 6 (nI m) S Q := by
  refine e_X10_draw (b_X10_draw_0 hs.k6 (fun S1 e1 => ⟨fun z => absurd z (nI_nle h0 hm), fun _ => ⟨by rw [nI_l hm]; exact lN_ne0 h0 hm, ?_⟩⟩))
  have e : m_gl S1 6 15 = nxt (m_gl S 6 15) := by rw [e1, m_gl_sl, if_pos ⟨rfl, rfl⟩]; rfl
  rw [e, dvl_is _ hm]
  exact h S1 e1
theorem CI.sl {S' : mj_S} {a j : Nat} {v : Int64} (C : CI L S r 50 rs R s) (e : S' = m_sl S a j v) : CI L S' r 50 rs R s := C.keep (by rw [e]; exact ⟨rfl, fun _ _ _ _ => rfl, fun _ _ => rfl⟩)
theorem sl_fg {D : Nat → Nat → Bool} {S' : mj_S} {a j : Nat} {v : Int64} (e : S' = m_sl S a j v) : fg D S S' := by rw [e]; exact ⟨rfl, fun _ _ _ => rfl, fun _ _ => rfl⟩
theorem fa_b (hR : r_wf R) {c : Nat} (hc : c < r_nc R) : on c &&& (fa R s ^^^ (-1)) = if s_cl s c = 0 then 0 else on c := by
  have nc := hR.nc
  apply b_ext
  intro i hi
  unfold fa
  rw [b_and, b_not _ hi, b_on (by omega) hi, b_bs _ _ (by omega)]
  by_cases e : i = c
  · subst e
    by_cases z : s_cl s i = 0
    · rw [if_pos z, b_0]; simp [z, hc]
    · rw [if_neg z, b_on hi hi]; simp [z]
  · have : bt (if s_cl s c = 0 then (0 : Int32) else on c) i = false := by
      split
      · rw [b_0]
      · rw [b_on (by omega) hi]; simp [e]
    rw [this]; simp [e]
theorem s_drawCurtains {hv : Int32} {Q : mj_S → Prop} (C : CI L S r 50 rs R s) (hh : m_gi S 6 14 = hv) (h : ∀ S', fg D5 S S' → m_gl S' 6 15 = (dcu R hv s (m_gl S 6 15)).2 → CI L S' r 50 rs R (dcu R hv s (m_gl S 6 15)).1 → Q S') : M_X10_drawCurtains l G 6 S Q := by
  have nc := C.rw.nc
  refine e_X10_drawCurtains (b_X10_drawCurtains_0 C.sh.k6 (s_draw (m := 100) C.sh (by omega) (by omega) (fun S1 e1 => ?_)))
  have D := C.sl e1
  have g1 : fg D5 S S1 := sl_fg e1
  have l1 : m_gl S1 6 15 = nxt (m_gl S 6 15) := by rw [e1, m_gl_sl, if_pos ⟨rfl, rfl⟩]
  have hh1 : m_gi S1 6 14 = hv := (g1.2.1 _ _ rfl).trans hh
  rw [hh1]
  unfold dcu at h
  refine ⟨fun z => ⟨r, D.p, ?_⟩, fun z => ?_⟩
  · rw [if_pos z] at h
    rw [D.rc.nc]
    refine ⟨fun y => ?_, fun y => ?_⟩
    · have : r_nc R = 0 := by have := (nI_leI (b := 0) (by omega) (by omega)).mp y; omega
      rw [if_pos this] at h
      exact h S1 g1 l1 D
    · have hne : ¬ r_nc R = 0 := fun w => y (by rw [w]; decide)
      rw [if_neg hne] at h
      refine ⟨50, D.sh.p6_7, r, D.p, ?_⟩
      rw [D.rc.nc]
      refine s_draw D.sh (by omega) (by omega) (fun S6 e6 => ?_)
      have E := D.sl e6
      rw [l1] at e6
      have hc : dvl (nxt (nxt (m_gl S 6 15))) (r_nc R) < r_nc R := dvl_lt (by omega)
      refine ⟨50, E.sh.p6_7, s_fallen E (fun S11 e11 => ?_)⟩
      rw [D.sn.bk, l1] at e11
      have e11' : S11 = m_si S6 50 3 (s_bk s ^^^ (if s_cl s (dvl (nxt (nxt (m_gl S 6 15))) (r_nc R)) = 0 then 0 else on (dvl (nxt (nxt (m_gl S 6 15))) (r_nc R)))) := by rw [← fa_b C.rw hc]; exact e11
      refine h S11 ((g1.tr (sl_fg e6)).tr (by rw [e11']; exact (fr.si rfl : fr D5 S6 _).fg)) ?_ (E.setB e11' (xor_in C.sw.bk ?_))
      · rw [e11', m_gl_si, e6, m_gl_sl, if_pos ⟨rfl, rfl⟩]
      · split
        · exact in_0
        · exact on_in hc (by omega)
  · rw [if_neg z] at h
    refine ⟨50, D.sh.p6_7, r, D.p, s_allC D.sh D.irm D.rc (fun S16 e16 => ?_)⟩
    refine h S16 (g1.tr (by rw [e16]; exact (fr.si rfl : fr D5 S1 _).fg)) ?_ (D.setB e16 (al_in (by omega)))
    rw [e16, m_gl_si]; exact l1
theorem s_drawPerson {Q : mj_S → Prop} (C : CI L S r 50 rs R s) (hpos : 0 < r_n R) (h : ∀ S', fg DA S S' → (∀ a j, 74 ≤ a → a ≤ 78 → m_gi S' a j = m_gi S a j) → m_gl S' 6 15 = (dpe R s (m_gl S 6 15)).2 → CI L S' r 50 rs R (dpe R s (m_gl S 6 15)).1 → Q S') : M_X10_drawPerson l G 6 S Q := by
  have np := C.rw.np
  have np1 := C.rw.np1 hpos
  have hn := C.rw.n
  refine e_X10_drawPerson (b_X10_drawPerson_0 C.sh.k6 ⟨r, C.p, ?_⟩)
  rw [C.rc.np]
  refine s_draw C.sh np1 (by omega) (fun S1 e1 => ?_)
  have D := C.sl e1
  have l1 : m_gl S1 6 15 = nxt (m_gl S 6 15) := by rw [e1, m_gl_sl, if_pos ⟨rfl, rfl⟩]
  refine ⟨r, D.p, ?_⟩
  rw [D.rc.n]
  refine s_draw D.sh hpos (by omega) (fun S2 e2 => ?_)
  have E := D.sl e2
  rw [l1] at e2 ⊢
  have l2 : m_gl S2 6 15 = nxt (nxt (m_gl S 6 15)) := by rw [e2, m_gl_sl, if_pos ⟨rfl, rfl⟩]
  have hp : dvl (nxt (m_gl S 6 15)) (r_np R) < r_np R := dvl_lt np1
  have hq : dvl (nxt (nxt (m_gl S 6 15))) (r_n R) < r_n R := dvl_lt hpos
  have g2 : fg DA S S2 := (sl_fg e1).tr (sl_fg e2)
  have k2 : ∀ a j, m_gi S2 a j = m_gi S a j := fun a j => by rw [e2, m_gi_sl, e1, m_gi_sl]
  unfold dpe at h
  refine s_isPerson E (fun p ep => ?_) (fun ep => ?_)
  · refine ⟨fun z => absurd z (by decide), fun _ => ⟨50, E.sh.p6_7, 61, E.sh.p50_2, by rw [E.sh.l61]; exact vp_nI (by omega) (by omega), ?_⟩⟩
    rw [nI_clamp (by omega), E.sn.pl hp]
    refine s_stateAround E (fun S3 f3 _ => s_has (by omega) (fun hb => ?_) (fun hb => ?_))
    · have F := E.fr f3
      refine ⟨fun z => absurd z (by decide), fun _ => ⟨50, F.sh.p6_7, 61, F.sh.p50_2, by rw [F.sh.l61]; exact vp_nI (by omega) (by omega), fun S17 e17 => ?_⟩⟩
      rw [if_pos hb] at h
      refine h S17 ((g2.tr (DC_DA f3).fg).tr (D5_DA (by rw [e17]; exact fr.si rfl)).fg) (fun a j h1 h2 => ?_) ?_ (F.setP e17 hq)
      · rw [e17, m_gi_si, if_neg (by omega), f3.i a j (DC_74 h1 h2), k2]
      · rw [e17, m_gl_si, f3.2.2.1]; exact l2
    · refine ⟨fun _ => ?_, fun z => absurd rfl z⟩
      rw [if_neg (by rw [hb]; decide)] at h
      refine h S3 (g2.tr (DC_DA f3).fg) (fun a j h1 h2 => ?_) ?_ (E.fr f3)
      · rw [f3.i a j (DC_74 h1 h2), k2]
      · rw [f3.2.2.1]; exact l2
  · rw [ixn_nI (by omega) hp] at ep; cases ep
theorem D5_74 {a j : Nat} (h1 : 74 ≤ a) (h2 : a ≤ 78) : D5 a j = false := D5_no (by omega) (by omega) (by omega)
theorem fg_DA5 {S' : mj_S} (f : fg D5 S S') : fg DA S S' := ⟨f.1, fun a j h => f.2.1 a j (DA_of h).2.1, f.2.2⟩
theorem cst_is {hv : Int32} {x : sc × hy × Int64} {a b : sc × Int64} (ha : dcu R hv x.1 x.2.2 = a) (hb : dpe R a.1 a.2 = b) : cst R tk hv x = (wrn R b.1 (lt0 R tk b.1), hyear b.1 (ly R tk b.1) (hpush x.1 x.2.1), b.2) := by
  unfold cst
  rw [ha]
  dsimp only
  rw [hb]
theorem s_centC {m : Nat} {hv : Int32} {Q : mj_S → Int32 → Prop} (hK : CK l G L S R tk) (ht : t_ok R tk) (hpos : 0 < r_n R) (hm : m ≤ 60) (hh : m_gi S 6 14 = hv) : ∀ (k i : Nat) (T : mj_S) (s1 : sc) (H1 : hy) (nx1 : Nat) (d : Int64), m_gl T 6 15 = d → i + k = m → s_yr s1 + k ≤ 999 → fg DA S T → CI L T r 50 rs R s1 → CHS T R s1 nx1 H1 I → (∀ S' nx', fg DA S S' → CI L S' r 50 rs R (cit R tk hv k (s1, H1, d)).1 → CHS S' R (cit R tk hv k (s1, H1, d)).1 nx' (cit R tk hv k (s1, H1, d)).2.1 I → Q S' (nI (s_yr (cit R tk hv k (s1, H1, d)).1))) → V_X10_centuries_42 l G 6 (nI m) (nI i) T Q := by
  intro k
  induction k with
  | zero =>
    intro i T s1 H1 nx1 d hd hi hy f C P h
    have e0 : cit R tk hv 0 (s1, H1, d) = (s1, H1, d) := rfl
    rw [e0] at h
    refine b_X10_centuries_42 C.sh.k6 ⟨fun _ => ⟨50, C.sh.p6_7, ?_⟩, fun z => absurd (nI_le (by omega) (by omega)) z⟩
    rw [C.sn.yr]; exact h T nx1 f C P
  | succ k ih =>
    intro i T s1 H1 nx1 d hd hi hy f C P h
    obtain ⟨a, ha⟩ : ∃ a, dcu R hv s1 d = a := ⟨_, rfl⟩
    obtain ⟨b, hb⟩ : ∃ b, dpe R a.1 a.2 = b := ⟨_, rfl⟩
    have ya : s_yr a.1 = s_yr s1 := by rw [← ha]; exact dcu_yr
    have yb : s_yr b.1 = s_yr s1 := by rw [← hb]; exact dpe_yr.trans ya
    have e1 : cit R tk hv (k + 1) (s1, H1, d) = cit R tk hv k (cst R tk hv (s1, H1, d)) := rfl
    have e2 : cst R tk hv (s1, H1, d) = (wrn R b.1 (lt0 R tk b.1), hyear b.1 (ly R tk b.1) (hpush s1 H1), b.2) := cst_is ha hb
    rw [e1, e2] at h
    refine b_X10_centuries_42 C.sh.k6 ⟨fun z => absurd z (nI_ge (by omega) (by omega)), fun _ => ⟨74, C.sh.p6_9, 50, C.sh.p6_7, s_remember' C P (fun S2 f2 E P2 => ?_)⟩⟩
    have g2 := f.tr (D74_DA f2).fg
    have hh2 : m_gi S2 6 14 = hv := (g2.2.1 _ _ rfl).trans hh
    have l2 : m_gl S2 6 15 = d := (f2.2.2.1 _ _).trans hd
    refine s_drawCurtains E hh2 (fun S3 g3 l3 F => ?_)
    rw [l2, ha] at l3 F
    have P3 : CHS S3 R a.1 _ (hpush s1 H1) I := P2.keep C.rw (fun a j h1 h2 => g3.2.1 a j (D5_74 h1 h2)) ya
    refine s_drawPerson F hpos (fun S4 g4 k4 l4 F4 => ?_)
    rw [l3, hb] at l4 F4
    have P4 : CHS S4 R b.1 _ (hpush s1 H1) I := P3.keep C.rw k4 (yb.trans ya.symm)
    have gg := (g2.tr (fg_DA5 g3)).tr g4
    refine s_yearC F4 P4 (hK.mono (fg_law gg)) ht (by omega) hpos (fun S5 f5 F5 P5 v ev => ?_)
    rw [ev, nI_1]
    exact ih (i + 1) S5 _ _ _ b.2 ((f5.2.2.1 _ _).trans l4) (by omega) (by show s_yr b.1 + 1 + k ≤ 999; omega) (gg.tr (DY_DA f5).fg) F5 P5 h
def P_cent (R : rm) (s : sc) (x : Int32) : Option Nat := if r_n R = 0 ∨ x < 1 ∨ 60 < x ∨ 999 < s_yr s + x.toNatClampNeg then none else some x.toNatClampNeg
theorem c_cent {x1 : Int32} {y2 : Int64} {hv : Int32} {Q : mj_S → Int32 → Prop} (C : CI L S r 50 rs R s) (P : CHS S R s nx H I) (hK : CK l G L S R tk) (ht : t_ok R tk) (hy : s_yr s ≤ 999) (hh : m_gi S 6 14 = hv) (h0 : P_cent R s x1 = none → Q S (-1)) (h1 : ∀ m, P_cent R s x1 = some m → ∀ S' nx', fg DA S S' → CI L S' r 50 rs R (cit R tk hv m (s, H, y2)).1 → CHS S' R (cit R tk hv m (s, H, y2)).1 nx' (cit R tk hv m (s, H, y2)).2.1 I → Q S' (nI (s_yr (cit R tk hv m (s, H, y2)).1))) : M_X10_centuries l G 6 x1 y2 S Q := by
  unfold P_cent at h0 h1
  refine e_X10_centuries (b_X10_centuries_0 C.sh.k6 (s_hasRoom C (fun e => ?_) (fun e => ?_)))
  · try simp only [Option.some.injEq, exists_eq_left', fi32, i10, i00, false_implies, true_implies, not_false_eq_true, not_true_eq_false, true_and, and_true, nI_1, lz0, lz1, ix0, ix11, ix2]
    refine s_wit (fun q1 q2 => ?_) (fun q => ?_)
    · obtain ⟨m, m1, m2, em⟩ := y60 q1 q2
      rw [em] at h0 h1
      rw [nI_clamp (by omega)] at h0 h1
      rw [em]
      try simp only [Option.some.injEq, exists_eq_left', fi32, i10, i00, false_implies, true_implies, not_false_eq_true, not_true_eq_false, true_and, and_true, nI_1, lz0, lz1, ix0, ix11, ix2, C.p, C.sh.p6_0, C.sh.p6_4, C.sh.p6_7, C.sh.p6_8, C.sh.p6_9, C.sh.p6_10, C.sh.p6_11, C.sh.p6_12, C.sh.p6_13, C.sh.p50_1, C.sh.p50_2, C.sh.l60, C.sh.l61, C.rc.w, C.rc.h, C.rc.li, C.rc.mo, C.rc.n, C.rc.nc, C.rc.np, C.sh.rp8 C.irm, C.sh.rl8 C.irm, C.sh.rp9 C.irm, C.sh.rl9 C.irm, C.sh.rp10 C.irm, C.sh.rl10 C.irm, C.sh.rp11 C.irm, C.sh.rl11 C.irm, C.sh.rp12 C.irm, C.sh.rl12 C.irm, C.sh.rp16 C.irm, C.sh.rl16 C.irm, C.sn.yr, nI_add]
      refine ⟨fun z S6 e6 => ?_, fun z => ?_⟩
      · have z' := (nI_leI (b := 999) (by omega) (by omega)).mp z
        have hP : ¬ (r_n R = 0 ∨ nI m < 1 ∨ 60 < nI m ∨ 999 < s_yr s + m) := by
          rintro (w | w | w | w)
          · omega
          · rw [← em] at w; exact q1 w
          · rw [← em] at w; exact q2 w
          · omega
        have h := h1 m (if_neg hP)
        have E := C.sl e6
        have l6 : m_gl S6 6 15 = y2 := by rw [e6, m_gl_sl, if_pos ⟨rfl, rfl⟩]
        have hh6 : m_gi S6 6 14 = hv := by rw [e6, m_gi_sl]; exact hh
        have g6 : fg DA S S6 := sl_fg e6
        refine s_centC (S := S6) (hK.mono (fg_law g6)) ht e m2 hh6 m 0 S6 s H nx y2 l6 (by omega) (by omega) fg.rf E (P.keep C.rw (fun a j _ _ => by rw [e6, m_gi_sl]) rfl) (fun S' nx' f' C' P' => ?_)
        exact h S' nx' (g6.tr f') C' P'
      · have z' : ¬ s_yr s + m ≤ 999 := fun y => z ((nI_leI (b := 999) (by omega) (by omega)).mpr y)
        exact h0 (if_pos (Or.inr (Or.inr (Or.inr (by omega)))))
    · try simp only [Option.some.injEq, exists_eq_left', fi32, i10, i00, false_implies, true_implies, not_false_eq_true, not_true_eq_false, true_and, and_true, nI_1, lz0, lz1, ix0, ix11, ix2]
      exact h0 (if_pos (by rcases q with w | w; exact Or.inr (Or.inl w); exact Or.inr (Or.inr (Or.inl w))))
  · try simp only [Option.some.injEq, exists_eq_left', fi32, i10, i00, false_implies, true_implies, not_false_eq_true, not_true_eq_false, true_and, and_true, nI_1, lz0, lz1, ix0, ix11, ix2]
    exact h0 (if_pos (Or.inl e))
/-- undone -/
theorem c_undo {Q : mj_S → Int32 → Prop} (C : CI L S r 50 rs R s) (P : CHS S R s nx H I) (hw : HW R s H) (h0 : H.1 = 0 → Q S (-1)) (h1 : 0 < H.1 → ∀ S' nx', fr DA S S' → CI L S' r 50 rs R (H.2.1 0) → CHS S' R (H.2.1 0) nx' (hpop H) I → Q S' (nI (H.1 - 1))) : M_X10_undo l G 6 S Q := by
  have hk := P.1.1.2.2.2
  refine e_X10_undo (b_X10_undo_0 C.sh.k6 ⟨74, C.sh.p6_9, ?_⟩)
  rw [P.1.1.1]
  refine ⟨fun z => ⟨74, C.sh.p6_9, 50, C.sh.p6_7, ?_⟩, fun z => h0 ((nI_eq (b := 0) (by omega) (by omega)).mp z)⟩
  have hpos : 0 < H.1 := Nat.pos_of_ne_zero (fun w => z (by rw [w]; rfl))
  obtain ⟨k, ek⟩ : ∃ k, H.1 = k + 1 := ⟨H.1 - 1, by omega⟩
  have K := P.1
  rw [ek] at K
  have h00 := hw.2.1 hpos
  refine s_recall C K (hw.2.2.2 0 hpos).1 (fun S1 f1 D K1 => ?_)
  refine ⟨74, D.sh.p6_9, ?_⟩
  rw [K1.1.1]
  have f2 : fr DA S S1 := ((D74_DA (fr.si rfl)).tr (D74_DA (fr.si rfl))).tr (D5_DA f1)
  have kk : ∀ a j, 76 ≤ a → a ≤ 78 → m_gi S1 a j = m_gi S a j := fun a j q1 q2 => by
    rw [f1.i a j (D5_74 (by omega) q2), m_gi_si, if_neg (by omega), m_gi_si, if_neg (by omega)]
  have hr := h1 hpos S1 ((nx + 39) % 40) f2 D ⟨by show CHs S1 R (H.1 - 1) _ _; rw [show H.1 - 1 = k by omega]; exact K1, fun y w a b c d => ?_, ?_, fun zz => ⟨(P.2.2.2 zz).1.cong C.rw (fun j _ => kk _ _ (by omega) (by omega)), fun y w a b c d => (kk _ _ (by omega) (by omega)).trans ((P.2.2.2 zz).2 y w a b c d)⟩⟩
  · rw [show H.1 - 1 = k by omega] at hr; exact hr
  · exact (kk _ _ (by omega) (by omega)).trans (P.2.1 y w a b (by omega) d)
  · rw [f1.i 74 4 (D5_74 (by omega) (by omega)), m_gi_si, if_neg (by omega), m_gi_si, if_neg (by omega)]; exact P.2.2.1
/-- images -/
def DIc (a j : Nat) : Bool := (Nat.ble 77 a && Nat.ble a 78) || (Nat.beq a 74 && Nat.beq j 4)
theorem c_image {Q : mj_S → Int32 → Prop} (C : CI L S r 50 rs R s) (P : CHS S R s nx H I) (h0 : r_n R = 0 → Q S (-1)) (h1 : 0 < r_n R → ∀ S', fr DIc S S' → CI L S' r 50 rs R s → CHS S' R s nx H (true, s, H.2.2.1, H.2.2.2) → Q S' (nI (s_yr s))) : M_X10_image l G 6 S Q := by
  refine e_X10_image (b_X10_image_0 C.sh.k6 (s_hasRoom C (fun e => ?_) (fun e => ?_)))
  · try simp only [Option.some.injEq, exists_eq_left', fi32, i10, i00, false_implies, true_implies, not_false_eq_true, not_true_eq_false, true_and, and_true, nI_1, lz0, lz1, ix0, ix11, ix2, C.p, C.sh.p6_0, C.sh.p6_4, C.sh.p6_7, C.sh.p6_8, C.sh.p6_9, C.sh.p6_10, C.sh.p6_11, C.sh.p6_12, C.sh.p6_13, C.sh.p50_1, C.sh.p50_2, C.sh.l60, C.sh.l61, C.rc.w, C.rc.h, C.rc.li, C.rc.mo, C.rc.n, C.rc.nc, C.rc.np, C.sh.rp8 C.irm, C.sh.rl8 C.irm, C.sh.rp9 C.irm, C.sh.rl9 C.irm, C.sh.rp10 C.irm, C.sh.rl10 C.irm, C.sh.rp11 C.irm, C.sh.rl11 C.irm, C.sh.rp12 C.irm, C.sh.rl12 C.irm, C.sh.rp16 C.irm, C.sh.rl16 C.irm]
    refine e_X4_keepImage (b_X4_keepImage_0 C.sh.k74 C.sh.k50 ⟨77, C.sh.p74_5, s_save (o := 0) C C.sh.k77 C.sh.l77 (by omega) (by omega) (Or.inr rfl) (fun S2 f2 k2 v2 => ?_)⟩)
    have h2 := C.sh.fr f2
    have l300 : (Int32.ofNat (m_ln S2 76)).toNatClampNeg = 300 := by rw [h2.l76]; decide
    refine ⟨76, h2.p74_3, 78, h2.p74_6, 76, h2.p74_3, ⟨by decide, by decide, by rw [h2.l76]; decide, by rw [l300, h2.l76, lz0]; omega, by rw [l300, h2.l78, lz0]; omega⟩, fun S6 e6 S7 e7 => ?_⟩
    rw [l300, lz0] at e6
    have f6 : fr DIc S2 S6 := by rw [e6]; exact fr.row (fun _ => rfl)
    have f7 : fr DIc S6 S7 := by rw [e7]; exact fr.si rfl
    have f2' : fr DIc S S2 := f2.wid (fun a j z => DZ_no (by
      unfold DIc at z
      rw [← Bool.not_eq_true] at z
      simp only [Bool.or_eq_true, Bool.and_eq_true, Nat.beq_eq, Nat.ble_eq] at z
      omega))
    have f := (f2'.tr f6).tr f7
    have hD : ∀ a j, 32 ≤ a → a ≤ 76 → a ≠ 74 → DIc a j = false := fun a j z1 z2 z3 => by
      unfold DIc
      rw [← Bool.not_eq_true]
      simp only [Bool.or_eq_true, Bool.and_eq_true, Nat.beq_eq, Nat.ble_eq]
      omega
    have D : CI L S7 r 50 rs R s := C.keep ⟨f.1, fun a j q1 q2 => f.i a j (hD a j q1 (by omega) (by omega)), f.2.2.2⟩
    refine ⟨50, D.sh.p6_7, ?_⟩
    rw [D.sn.yr]
    refine h1 e S7 f D ⟨P.1.cong C.rw (f.i _ _ rfl) (f.i _ _ rfl) (fun j => f.i _ _ rfl), fun y w a b c d => (f.i _ _ rfl).trans (P.2.1 y w a b c d), by rw [e7, m_gi_si, if_pos ⟨rfl, rfl⟩]; rfl, fun _ => ⟨v2.cong C.rw (fun j hj => ?_), fun y w a b c d => ?_⟩⟩
    · rw [e7, m_gi_si, if_neg (by omega), e6, m_gi_row, if_neg (by omega), Nat.zero_add]
    · rw [e7, m_gi_si, if_neg (by omega), e6, m_gi_row, if_pos rfl, pk_cpy_in (by omega) (by omega)]
      rw [show 0 + ((y % 100) * 3 + w - 0) = (y % 100) * 3 + w by omega, f2.i _ _ rfl]
      exact P.2.1 y w a b c d
  · try simp only [Option.some.injEq, exists_eq_left', fi32, i10, i00, false_implies, true_implies, not_false_eq_true, not_true_eq_false, true_and, and_true, nI_1, lz0, lz1, ix0, ix11, ix2]
    exact h0 e
def DBc (a j : Nat) : Bool := D5 a j || (Nat.beq a 76 || (Nat.beq a 74 && Nat.beq j 0))
theorem c_back {Q : mj_S → Int32 → Prop} (C : CI L S r 50 rs R s) (P : CHS S R s nx H I) (hI : IW R I) (h0 : I.1 = false → Q S (-1)) (h1 : I.1 = true → ∀ S', fr DBc S S' → CI L S' r 50 rs R I.2.1 → CHS S' R I.2.1 nx (0, H.2.1, I.2.2.1, I.2.2.2) I → Q S' (nI (s_yr I.2.1))) : M_X10_back l G 6 S Q := by
  refine e_X10_back (b_X10_back_0 C.sh.k6 ⟨74, C.sh.p6_9, ?_⟩)
  rw [P.2.2.1]
  cases eI : I.1 with
  | false => exact ⟨fun z => absurd rfl z, fun _ => h0 eI⟩
  | true =>
    refine ⟨fun _ => ⟨74, C.sh.p6_9, 50, C.sh.p6_7, ?_⟩, fun z => absurd z (by decide)⟩
    obtain ⟨V, W⟩ := P.2.2.2 eI
    refine e_X4_returnTo (b_X4_returnTo_0 C.sh.k74 C.sh.k50 ⟨77, C.sh.p74_5, s_load (o := 0) C C.sh.k77 C.sh.l77 (by omega) (by omega) (Or.inr rfl) (V.cong C.rw (fun j _ => by rw [Nat.zero_add])) (hI eI).1 (fun S2 f2 D => ?_)⟩)
    have h2 := D.sh
    have l300 : (Int32.ofNat (m_ln S2 76)).toNatClampNeg = 300 := by rw [h2.l76]; decide
    refine ⟨78, h2.p74_6, 76, h2.p74_3, 76, h2.p74_3, ⟨by decide, by decide, by rw [h2.l76]; decide, by rw [l300, h2.l78, lz0]; omega, by rw [l300, h2.l76, lz0]; omega⟩, fun S6 e6 S7 e7 => ?_⟩
    rw [l300, lz0] at e6
    have f2' : fr DBc S S2 := f2.wid (fun a j z => by unfold DBc at z; rw [Bool.or_eq_false_iff] at z; exact z.1)
    have f6 : fr DBc S2 S6 := by rw [e6]; exact fr.row (fun _ => rfl)
    have f7 : fr DBc S6 S7 := by rw [e7]; exact fr.si rfl
    have f := (f2'.tr f6).tr f7
    have E : CI L S7 r 50 rs R I.2.1 := D.keep (by
      refine ⟨(f6.tr f7).1, fun a j q1 q2 => ?_, (f6.tr f7).2.2.2⟩
      rw [e7, m_gi_si, if_neg (by omega), e6, m_gi_row, if_neg (by omega)])
    refine ⟨50, E.sh.p6_7, ?_⟩
    rw [E.sn.yr]
    refine h1 eI S7 f E ⟨⟨⟨by rw [e7, m_gi_si, if_pos ⟨rfl, rfl⟩]; rfl, (f.i _ _ rfl).trans P.1.1.2.1, P.1.1.2.2.1, by omega⟩, fun i hi => absurd hi (by omega)⟩, fun y w a b c d => ?_, (f.i _ _ rfl).trans P.2.2.1, fun _ => ⟨V.cong C.rw (fun j _ => f.i _ _ rfl), fun y w a b c d => (f.i _ _ rfl).trans (W y w a b c d)⟩⟩
    rw [e7, m_gi_si, if_neg (by omega), e6, m_gi_row, if_pos rfl, pk_cpy_in (by omega) (by omega)]
    rw [show 0 + ((y % 100) * 3 + w - 0) = (y % 100) * 3 + w by omega, f2.i _ _ rfl]
    exact W y w a b c d
end CC
