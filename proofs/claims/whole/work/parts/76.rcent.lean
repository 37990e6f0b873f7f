/-! the reference's centuries -/
section RC2
variable {l : Launch} {G : mj_G} {L : Nat} {R : rm} {s : sc} {S : mj_S} {H : hy} {I : imt} {tk : sc → Nat → Nat}
theorem s_rdraw {m : Nat} {Q : mj_S → Int32 → Prop} (hs : Sh L S) (h0 : 0 < m) (hm : m < 2 ^ 31) (h : ∀ S', S' = m_sl S 89 38 (nxt (m_gl S 89 38)) → Q S' (nI (dvl (nxt (m_gl S 89 38)) m))) : M_X11_draw l G 89 (nI m) S Q := by
  refine e_X11_draw (b_X11_draw_0 hs.k89 (fun S1 e1 => ⟨by rw [nI_l hm]; exact lN_ne0 h0 hm, ?_⟩))
  have e : m_gl S1 89 38 = nxt (m_gl S 89 38) := by rw [e1, m_gl_sl, if_pos ⟨rfl, rfl⟩]; rfl
  rw [e, dvl_is _ hm]
  exact h S1 e1
theorem RI.sl {S' : mj_S} {a j : Nat} {v : Int64} (C : RI L S R s) (e : S' = m_sl S a j v) : RI L S' R s := by
  refine C.upd (by rw [e]; rfl) (fun a j => by rw [e]; rfl) (fun j _ _ => by rw [e]; rfl) (fun a j _ _ _ => by rw [e]; rfl) C.sw (C.rs.keep (fun j => by rw [e]; rfl))
theorem RHS.sl {S' : mj_S} {a j : Nat} {v : Int64} (hR : r_wf R) (P : RHS S R s H I) (e : S' = m_sl S a j v) : RHS S' R s H I := by
  have k : ∀ b i, m_gi S' b i = m_gi S b i := fun b i => by rw [e, m_gi_sl]
  exact ⟨⟨⟨(k _ _).trans P.1.1.1, P.1.1.2⟩, fun i hi => (P.1.2 i hi).cong hR (fun j _ => k _ _)⟩, P.2.1.cong hR (fun j _ => k _ _), (k _ _).trans P.2.2.1, fun z => (P.2.2.2 z).cong hR (fun j _ => k _ _)⟩
def D6b (a j : Nat) : Bool := Nat.beq a 106 && Nat.ble j 16
theorem s_drawYear {hv : Int32} {a b : sc × Int64} {Q : mj_S → Prop} (C : RI L S R s) (P : RHS S R s H I) (hpos : 0 < r_n R) (hh : m_gi S 89 31 = hv) (ha : dcu R hv s (m_gl S 89 38) = a) (hb : dpe R a.1 a.2 = b) (h : ∀ S', fg DRA S S' → m_gl S' 89 38 = b.2 → RI L S' R b.1 → RHS S' R b.1 H I → Q S') : M_X11_drawYear l G 89 S Q := by
  have nc := C.rw.nc
  have np := C.rw.np
  have np1 := C.rw.np1 hpos
  have hn := C.rw.n
  have l10 : (10 : Int32).toNatClampNeg = 10 := by decide
  have v10 : ∀ {U : mj_S}, Sh L U → vp_in (10 : Int32) (m_ln U 106) := fun hU => by rw [hU.l106]; exact vp_nI (p := 10) (by omega) (by omega)
  -- the person
  have snd : ∀ U, fg DRA S U → m_gl U 89 38 = a.2 → RI L U R a.1 → RHS U R a.1 H I → V_X11_drawYear_72 l G 89 U Q := by
    intro U fU lU D PU
    refine b_X11_drawYear_72 D.sh.k89 ?_
    rw [D.rr.np]
    refine s_rdraw D.sh np1 (by omega) (fun S1 e1 => ?_)
    have E := D.sl e1
    have P1 := PU.sl C.rw e1
    have l1 : m_gl S1 89 38 = nxt a.2 := by rw [e1, m_gl_sl, if_pos ⟨rfl, rfl⟩, lU]
    rw [E.rr.n]
    refine s_rdraw E.sh hpos (by omega) (fun S3 e3 => ?_)
    have F := E.sl e3
    have P3 := P1.sl C.rw e3
    rw [l1] at e3 ⊢
    rw [lU]
    have l3 : m_gl S3 89 38 = nxt (nxt a.2) := by rw [e3, m_gl_sl, if_pos ⟨rfl, rfl⟩]
    have hp : dvl (nxt a.2) (r_np R) < r_np R := dvl_lt np1
    have hq : dvl (nxt (nxt a.2)) (r_n R) < r_n R := dvl_lt hpos
    have g3 : fg DRA S S3 := (fU.tr (sl_fg e1)).tr (sl_fg e3)
    have hpl := F.sw.pl hp
    refine ⟨106, F.sh.p89_28, by rw [ix11, F.sh.l106]; exact vp_nI (by omega) (by omega), ?_⟩
    rw [ix11, nI_clamp (by omega), F.rs.pl hp]
    unfold dpe at hb
    refine s_stateOf F hpl (s_rhas (by omega) (fun hb2 => ?_) (fun hb2 => ?_))
    · rw [if_pos hb2] at hb
      refine ⟨fun z => absurd z (by decide), fun _ => ⟨106, F.sh.p89_28, by rw [F.sh.l106]; exact vp_nI (by omega) (by omega), fun S11 e11 => ?_⟩⟩
      have rs := F.rs.setP F.rw hp e11
      have F2 := F.set106 e11 (setP_wf F.sw hq) rs
      rw [← hb] at h
      exact h S11 (g3.tr (DRA_106 e11).fg) (by rw [e11, m_gl_si]; exact l3) F2 (P3.set C.rw e11 (by omega) rs rfl)
    · rw [if_neg (by rw [hb2]; decide)] at hb
      refine ⟨fun _ => ?_, fun z => absurd rfl z⟩
      rw [← hb] at h
      exact h S3 g3 l3 F P3
  refine e_X11_drawYear (b_X11_drawYear_0 C.sh.k89 (s_rdraw (m := 100) C.sh (by omega) (by omega) (fun S1 e1 => ?_)))
  have D := C.sl e1
  have P1 := P.sl C.rw e1
  have g1 : fg DRA S S1 := sl_fg e1
  have l1 : m_gl S1 89 38 = nxt (m_gl S 89 38) := by rw [e1, m_gl_sl, if_pos ⟨rfl, rfl⟩]
  have hh1 : m_gi S1 89 31 = hv := (g1.2.1 _ _ rfl).trans hh
  rw [hh1]
  unfold dcu at ha
  refine ⟨fun z => ?_, fun z => ?_⟩
  · rw [if_pos z] at ha
    rw [D.rr.nc]
    refine ⟨fun y => ?_, fun y => ?_⟩
    · have : r_nc R = 0 := by have := (nI_leI (b := 0) (by omega) (by omega)).mp y; omega
      rw [if_pos this] at ha
      rw [← ha] at snd
      exact snd S1 g1 l1 D P1
    · have hne : ¬ r_nc R = 0 := fun w => y (by rw [w]; decide)
      rw [if_neg hne] at ha
      refine s_rdraw D.sh (by omega) (by omega) (fun S3 e3 => ?_)
      have E := D.sl e3
      have P3 := P1.sl C.rw e3
      rw [l1] at e3 ⊢
      have hc : dvl (nxt (nxt (m_gl S 89 38))) (r_nc R) < r_nc R := dvl_lt (by omega)
      refine ⟨106, E.sh.p89_28, v10 E.sh, ?_⟩
      rw [l10, E.rs.bk]
      have l3 : m_gl S3 89 38 = nxt (nxt (m_gl S 89 38)) := by rw [e3, m_gl_sl, if_pos ⟨rfl, rfl⟩]
      rw [← ha] at snd
      refine s_isFallen E hc (fun y2 => ?_) (fun y2 => ?_)
      · refine ⟨fun w => absurd w (by decide), fun _ => ⟨v10 E.sh, fun S9 e9 => ?_⟩⟩
        rw [if_pos y2] at snd
        have rs := E.rs.setB E.rw e9
        have F := E.set106 e9 (setB_wf C.sw (xor_in C.sw.bk in_0)) rs
        exact snd S9 ((g1.tr (sl_fg e3)).tr (DRA_106 e9).fg) (by rw [e9, m_gl_si]; exact l3) F (P3.set C.rw e9 (by omega) rs rfl)
      · refine ⟨fun _ => ⟨v10 E.sh, fun S8 e8 => ?_⟩, fun w => absurd rfl w⟩
        rw [if_neg y2] at snd
        have rs := E.rs.setB E.rw e8
        have F := E.set106 e8 (setB_wf C.sw (xor_in C.sw.bk (on_in hc (by omega)))) rs
        exact snd S8 ((g1.tr (sl_fg e3)).tr (DRA_106 e8).fg) (by rw [e8, m_gl_si]; exact l3) F (P3.set C.rw e8 (by omega) rs rfl)
  · rw [if_neg z] at ha
    rw [← ha] at snd
    refine ⟨106, D.sh.p89_28, v10 D.sh, fun S11 e11 => ?_⟩
    rw [l10, D.rr.nc] at e11
    have rs := D.rs.setB D.rw e11
    have F := D.set106 e11 (setB_wf C.sw (al_in (by omega))) rs
    exact snd S11 (g1.tr (DRA_106 e11).fg) (by rw [e11, m_gl_si]; exact l1) F (P1.set C.rw e11 (by omega) rs rfl)
theorem s_centR {m : Nat} {hv : Int32} {Q : mj_S → Int32 → Prop} (hK : RK l G L S R tk) (ht : t_ok R tk) (hpos : 0 < r_n R) (hm : m ≤ 60) (hh : m_gi S 89 31 = hv) : ∀ (k i : Nat) (T : mj_S) (s1 : sc) (H1 : hy) (d : Int64), m_gl T 89 38 = d → i + k = m → s_yr s1 + k ≤ 999 → HW R s1 H1 → fg DRA S T → RI L T R s1 → RHS T R s1 H1 I → (∀ S', fg DRA S S' → RI L S' R (cit R tk hv k (s1, H1, d)).1 → RHS S' R (cit R tk hv k (s1, H1, d)).1 (cit R tk hv k (s1, H1, d)).2.1 I → Q S' (nI (s_yr (cit R tk hv k (s1, H1, d)).1))) → V_X11_centuries_25 l G 89 (nI m) (nI i) T Q := by
  intro k
  induction k with
  | zero =>
    intro i T s1 H1 d hd hi hy hw f C P h
    have e0 : cit R tk hv 0 (s1, H1, d) = (s1, H1, d) := rfl
    rw [e0] at h
    refine b_X11_centuries_25 C.sh.k89 ⟨fun _ => ⟨106, C.sh.p89_28, by rw [C.sh.l106]; exact vp_nI (p := 17) (by omega) (by omega), ?_⟩, fun z => absurd (nI_le (by omega) (by omega)) z⟩
    rw [show (17 : Int32).toNatClampNeg = 17 by decide, C.rs.yr]; exact h T f C P
  | succ k ih =>
    intro i T s1 H1 d hd hi hy hw f C P h
    obtain ⟨a, ha⟩ : ∃ a, dcu R hv s1 d = a := ⟨_, rfl⟩
    obtain ⟨b, hb⟩ : ∃ b, dpe R a.1 a.2 = b := ⟨_, rfl⟩
    have ya : s_yr a.1 = s_yr s1 := by rw [← ha]; exact dcu_yr
    have yb : s_yr b.1 = s_yr s1 := by rw [← hb]; exact dpe_yr.trans ya
    have e1 : cit R tk hv (k + 1) (s1, H1, d) = cit R tk hv k (cst R tk hv (s1, H1, d)) := rfl
    have e2 : cst R tk hv (s1, H1, d) = (wrn R b.1 (lt0 R tk b.1), hyear b.1 (ly R tk b.1) (hpush s1 H1), b.2) := cst_is ha hb
    rw [e1, e2] at h
    refine b_X11_centuries_25 C.sh.k89 ⟨fun z => absurd z (nI_ge (by omega) (by omega)), fun _ => s_keep' C P (fun S2 f2 E P2 => ?_)⟩
    have g2 := f.tr (D112_DRA f2).fg
    have hh2 : m_gi S2 89 31 = hv := (g2.2.1 _ _ rfl).trans hh
    have l2 : m_gl S2 89 38 = d := (f2.2.2.1 _ _).trans hd
    refine s_drawYear E P2 hpos hh2 (by rw [l2]; exact ha) hb (fun S3 g3 l3 F P3 => ?_)
    have gg := g2.tr g3
    refine s_yearR F P3 (fun i hi => by rw [yb]; exact hpush_le hw i hi) (hK.mono (fg_lawr gg)) ht (by omega) hpos (fun S4 f4 F4 P4 v ev => ?_)
    rw [ev, nI_1]
    have hw4 : HW R (wrn R b.1 (lt0 R tk b.1)) (hyear b.1 (ly R tk b.1) (hpush s1 H1)) := by
      rw [hyear_eq yb]
      exact hw.year C.sw (by show s_yr b.1 + 1 = _; omega) (by omega)
    exact ih (i + 1) S4 _ _ b.2 ((f4.2.2.1 _ _).trans l3) (by omega) (by show s_yr b.1 + 1 + k ≤ 999; omega) hw4 (gg.tr (D106_DRA f4).fg) F4 P4 h
theorem d_cent {x1 : Int32} {y2 : Int64} {hv : Int32} {Q : mj_S → Int32 → Prop} (C : RI L S R s) (P : RHS S R s H I) (hw : HW R s H) (hK : RK l G L S R tk) (ht : t_ok R tk) (hh : m_gi S 89 31 = hv) (h0 : P_cent R s x1 = none → Q S (-1)) (h1 : ∀ m, P_cent R s x1 = some m → ∀ S', fg DRA S S' → RI L S' R (cit R tk hv m (s, H, y2)).1 → RHS S' R (cit R tk hv m (s, H, y2)).1 (cit R tk hv m (s, H, y2)).2.1 I → Q S' (nI (s_yr (cit R tk hv m (s, H, y2)).1))) : M_X11_centuries l G 89 x1 y2 S Q := by
  have hn := C.rw.n
  have hy := hw.1.2.1
  unfold P_cent at h0 h1
  refine e_X11_centuries (b_X11_centuries_0 C.sh.k89 ?_)
  try simp only [Option.some.injEq, exists_eq_left', fi32, i10, i00, false_implies, true_implies, not_false_eq_true, not_true_eq_false, true_and, and_true, nI_1, lz0, lz1, ix0, ix11, ix2, C.sh.p89_22, C.sh.p89_23, C.sh.p89_24, C.sh.p89_28, C.sh.p89_32, C.sh.p89_33, C.sh.l103, C.sh.l104, C.sh.l105, C.sh.l106, C.sh.l108, C.sh.l109, C.rr.n, C.rr.nc, C.rr.np, C.rr.w, C.rr.h, C.rr.li, C.rr.mo, C.rs.bk, C.rs.yr, ix4, ix6, nI_e0 (show r_n R < 2 ^ 31 by omega)]
  refine ⟨fun e => h0 (if_pos (Or.inl e)), fun e => s_areYears C hy (fun m m1 m2 em z' => ?_) (fun z => ?_)⟩
  · refine ⟨fun _ S3 e3 => ?_, fun z => absurd z (by decide)⟩
    rw [em] at h1
    rw [nI_clamp (by omega)] at h1
    have hP : ¬ (r_n R = 0 ∨ nI m < 1 ∨ 60 < nI m ∨ 999 < s_yr s + m) := by
      rintro (w | w | w | w)
      · exact e w
      · exact nI_nlt (b := 1) (by omega) (by omega) w
      · exact nI_nlt (a := 60) (by omega) (by omega) w
      · omega
    have h := h1 m (if_neg hP)
    have E := C.sl e3
    have l3 : m_gl S3 89 38 = y2 := by rw [e3, m_gl_sl, if_pos ⟨rfl, rfl⟩]
    have hh3 : m_gi S3 89 31 = hv := by rw [e3, m_gi_sl]; exact hh
    have g3 : fg DRA S S3 := sl_fg e3
    rw [em]
    exact s_centR (S := S3) (hK.mono (fg_lawr g3)) ht (by omega) m2 hh3 m 0 S3 s H y2 l3 (by omega) (by omega) hw fg.rf E (P.sl C.rw e3) (fun S' f' C' P' => h S' (g3.tr f') C' P')
  · try simp only [Option.some.injEq, exists_eq_left', fi32, i10, i00, false_implies, true_implies, not_false_eq_true, not_true_eq_false, true_and, and_true, nI_1, lz0, lz1, ix0, ix11, ix2]
    refine h0 (if_pos ?_)
    rcases z with z | ⟨m, m1, m2, em, z'⟩
    · rcases z with z | z
      · exact Or.inr (Or.inl z)
      · exact Or.inr (Or.inr (Or.inl z))
    · rw [em, nI_clamp (by omega)]
      exact Or.inr (Or.inr (Or.inr z'))
end RC2
/-! the iterations keep what is well made -/
section ITW
variable {R : rm} {tk : sc → Nat → Nat}
theorem yit_wf (hR : r_wf R) : ∀ k s H, s_wf R s → HW R s H → s_yr s + k ≤ 999 → s_wf R (yit R tk k s H).1 ∧ HW R (yit R tk k s H).1 (yit R tk k s H).2 := by
  intro k
  induction k with
  | zero => intro s H h1 h2 _; exact ⟨h1, h2⟩
  | succ k ih =>
    intro s H h1 h2 h3
    exact ih _ _ (wrn_wf h1) (h2.year h1 rfl (by omega)) (by show s_yr s + 1 + k ≤ 999; omega)
theorem cit_wf {hv : Int32} (hR : r_wf R) (hpos : 0 < r_n R) : ∀ k s H d, s_wf R s → HW R s H → s_yr s + k ≤ 999 → s_wf R (cit R tk hv k (s, H, d)).1 ∧ HW R (cit R tk hv k (s, H, d)).1 (cit R tk hv k (s, H, d)).2.1 := by
  intro k
  induction k with
  | zero => intro s H d h1 h2 _; exact ⟨h1, h2⟩
  | succ k ih =>
    intro s H d h1 h2 h3
    obtain ⟨a, ha⟩ : ∃ a, dcu R hv s d = a := ⟨_, rfl⟩
    obtain ⟨b, hb⟩ : ∃ b, dpe R a.1 a.2 = b := ⟨_, rfl⟩
    have ya : s_yr a.1 = s_yr s := by rw [← ha]; exact dcu_yr
    have yb : s_yr b.1 = s_yr s := by rw [← hb]; exact dpe_yr.trans ya
    have wa : s_wf R a.1 := by rw [← ha]; exact dcu_wf hR h1
    have wb : s_wf R b.1 := by rw [← hb]; exact dpe_wf hpos wa
    have e1 : cit R tk hv (k + 1) (s, H, d) = cit R tk hv k (cst R tk hv (s, H, d)) := rfl
    have e2 : cst R tk hv (s, H, d) = (wrn R b.1 (lt0 R tk b.1), hyear b.1 (ly R tk b.1) (hpush s H), b.2) := cst_is ha hb
    rw [e1, e2]
    refine ih _ _ _ (wrn_wf wb) ?_ (by show s_yr b.1 + 1 + k ≤ 999; omega)
    rw [hyear_eq yb]
    exact h2.year h1 (by show s_yr b.1 + 1 = _; omega) (by omega)
end ITW
