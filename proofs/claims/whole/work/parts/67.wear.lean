/-! a year under a light -/
section UPD
variable {L r x rs : Nat} {R : rm} {s s' : sc} {S S' : mj_S}
theorem CI.upd (C : CI L S r x rs R s) (h1 : S'.1 = S.1) (hp : ∀ a j, m_gp S' a j = m_gp S a j) (hk : ∀ a j, a ≠ x → a ≠ x + 10 → a ≠ x + 11 → 32 ≤ a → a ≤ 73 → m_gi S' a j = m_gi S a j) (hw : s_wf R s') (h2 : ∀ c, c < r_nc R → m_gi S' (x + 10) c = nI (s_cl s' c)) (h3 : m_gi S' x 3 = s_bk s') (h4 : ∀ p, p < r_np R → m_gi S' (x + 11) p = nI (s_pl s' p)) (h5 : m_gi S' x 4 = nI (s_yr s')) : CI L S' r x rs R s' := by
  have hx : x = 50 ∨ x = 62 := C.hx
  have hr : 32 ≤ r ∧ r ≤ 41 := by rcases C.hr with e | e <;> omega
  have hrs := C.sn.hrs
  refine ⟨⟨h1.trans C.sh.1, fun y hy => (hp _ _).trans (C.sh.2 y hy)⟩, C.rw, hw, C.hr, C.hx, (hp _ _).trans C.p, C.rc.keep (fun a j q1 q2 => hk a j (by omega) (by omega) (by omega) (by omega) (by omega)), ⟨(hp _ _).trans C.sn.p, hrs, C.sn.rc.keep (fun a j q1 q2 => hk a j ?_ ?_ ?_ ?_ ?_)⟩, h2, h3, h4, h5⟩
  all_goals rcases hrs with e | e | e <;> omega
theorem RI.upd (C : RI L S R s) (h1 : S'.1 = S.1) (hp : ∀ a j, m_gp S' a j = m_gp S a j) (k0 : ∀ j, 25 ≤ j → j ≤ 27 → m_gi S' 89 j = m_gi S 89 j) (hk : ∀ a j, 103 ≤ a → a ≤ 109 → a ≠ 106 → m_gi S' a j = m_gi S a j) (hw : s_wf R s') (hs : RS S' R s') : RI L S' R s' := ⟨⟨h1.trans C.sh.1, fun y hy => (hp _ _).trans (C.sh.2 y hy)⟩, C.rw, hw, C.rr.keep k0 hk, hs⟩
end UPD
/-- the scene, its first k curtains worn under the light f -/
def wrk (R : rm) (s : sc) (f : Nat → Nat) (k : Nat) : sc := (fun c => if c < k ∧ bt (hg R s) c = true then s_cl s c - (r_mo R + (if 20 ≤ f (r_nr R c) ∨ 20 ≤ f (r_fr R c) then 1 else 0)) else s_cl s c, s_bk s, s.2.2.1, s_yr s)
def wrn (R : rm) (s : sc) (f : Nat → Nat) : sc := ((wrk R s f (r_nc R)).1, s_bk s, s.2.2.1, s_yr s + 1)
def fel (R : rm) (s : sc) (f : Nat → Nat) (c : Nat) : Bool := bt (hg R s) c && decide (s_cl (wrn R s f) c = 0)
theorem mx3 : ∀ c, c < 100 → ∀ m, m < 10 → ∀ e, e < 2 → mx 0 ((nI c - nI m) - nI e) = nI (c - (m + e)) := by decide +kernel
theorem wrk_0 (R : rm) (s : sc) (f : Nat → Nat) : wrk R s f 0 = s := by
  unfold wrk
  have : (fun c => if c < 0 ∧ bt (hg R s) c = true then s_cl s c - (r_mo R + (if 20 ≤ f (r_nr R c) ∨ 20 ≤ f (r_fr R c) then 1 else 0)) else s_cl s c) = s.1 := funext fun c => if_neg (fun z => absurd z.1 (by omega))
  rw [this]; rfl
theorem wrk_le {R : rm} {s : sc} {f : Nat → Nat} {k c : Nat} : s_cl (wrk R s f k) c ≤ s_cl s c := by
  show (if c < k ∧ bt (hg R s) c = true then _ else _) ≤ _
  split
  · exact Nat.sub_le _ _
  · exact Nat.le_refl _
theorem wrk_wf {R : rm} {s : sc} {f : Nat → Nat} {k : Nat} (h : s_wf R s) : s_wf R (wrk R s f k) := ⟨fun c hc => Nat.le_trans wrk_le (h.cl hc), h.bk, fun p hp => h.pl hp⟩
theorem wrn_wf {R : rm} {s : sc} {f : Nat → Nat} (h : s_wf R s) : s_wf R (wrn R s f) := ⟨fun c hc => Nat.le_trans (wrk_le (k := r_nc R)) (h.cl hc), h.bk, fun p hp => h.pl hp⟩
theorem wrk_s0 {R : rm} {s : sc} {f : Nat → Nat} {c : Nat} (h : bt (hg R s) c = false) : wrk R s f (c + 1) = wrk R s f c := by
  unfold wrk
  have : (fun c' => if c' < c + 1 ∧ bt (hg R s) c' = true then s_cl s c' - (r_mo R + (if 20 ≤ f (r_nr R c') ∨ 20 ≤ f (r_fr R c') then 1 else 0)) else s_cl s c') = (fun c' => if c' < c ∧ bt (hg R s) c' = true then s_cl s c' - (r_mo R + (if 20 ≤ f (r_nr R c') ∨ 20 ≤ f (r_fr R c') then 1 else 0)) else s_cl s c') := by
    funext c'
    by_cases e : c' = c
    · rw [e, if_neg (fun z => by rw [h] at z; cases z.2), if_neg (fun z => by rw [h] at z; cases z.2)]
    · have : (c' < c + 1 ∧ bt (hg R s) c' = true) = (c' < c ∧ bt (hg R s) c' = true) := propext ⟨fun z => ⟨by omega, z.2⟩, fun z => ⟨by omega, z.2⟩⟩
      simp only [this]
  rw [this]
theorem wrk_c {R : rm} {s : sc} {f : Nat → Nat} {c : Nat} (h : bt (hg R s) c = true) : s_cl (wrk R s f (c + 1)) c = s_cl s c - (r_mo R + (if 20 ≤ f (r_nr R c) ∨ 20 ≤ f (r_fr R c) then 1 else 0)) := if_pos ⟨by omega, h⟩
theorem wrk_cc {R : rm} {s : sc} {f : Nat → Nat} {c : Nat} : s_cl (wrk R s f c) c = s_cl s c := if_neg (fun z => absurd z.1 (by omega))
theorem wrk_ne {R : rm} {s : sc} {f : Nat → Nat} {c c' : Nat} (e : c' ≠ c) : s_cl (wrk R s f (c + 1)) c' = s_cl (wrk R s f c) c' := by
  show (if c' < c + 1 ∧ bt (hg R s) c' = true then _ else _) = (if c' < c ∧ bt (hg R s) c' = true then _ else _)
  have : (c' < c + 1 ∧ bt (hg R s) c' = true) = (c' < c ∧ bt (hg R s) c' = true) := propext ⟨fun z => ⟨by omega, z.2⟩, fun z => ⟨by omega, z.2⟩⟩
  simp only [this]
theorem wrn_c {R : rm} {s : sc} {f : Nat → Nat} {c : Nat} (hc : c < r_nc R) (h : bt (hg R s) c = true) : s_cl (wrn R s f) c = s_cl (wrk R s f (c + 1)) c := by
  rw [wrk_c h]
  exact if_pos ⟨hc, h⟩
def DS (x a j : Nat) : Bool := Nat.beq a (x + 10) || (Nat.beq a x && Nat.beq j 4)
theorem DS_no {x a j : Nat} (h1 : a ≠ x + 10) (h2 : a ≠ x ∨ j ≠ 4) : DS x a j = false := by
  unfold DS
  rw [← Bool.not_eq_true, Bool.or_eq_true, Bool.and_eq_true, Nat.beq_eq, Nat.beq_eq, Nat.beq_eq]; omega
theorem DS_10 {x j : Nat} : DS x (x + 10) j = true := by unfold DS; rw [show Nat.beq (x + 10) (x + 10) = true by rw [Nat.beq_eq]]; rfl
theorem DS_4 {x : Nat} : DS x x 4 = true := by
  unfold DS
  rw [show Nat.beq x x = true by rw [Nat.beq_eq]]
  exact Bool.or_true _
section WR
variable {l : Launch} {G : mj_G} {L r x rs : Nat} {R : rm} {s : sc} {S : mj_S} {t : Nat → Nat}
theorem s_wear {f : Nat → Nat} {Q : mj_S → Int32 → Prop} (C : CI L S r x rs R s) (hM : LM S f) (hf : ∀ q, f q ≤ 99) (h : ∀ S', fr (DS x) S S' → CI L S' r x rs R (wrn R s f) → Q S' (bs (r_nc R) (fel R s f))) : M_X8_wear l G x 81 S Q := by
  have nc := C.rw.nc
  have hn := C.rw.n
  have hmo := C.rw.mo
  have hx : x = 50 ∨ x = 62 := C.hx
  refine e_X8_wear (b_X8_wear_0 (C.sh.sk C.hx) C.sh.k81 (s_hung C ?_))
  refine dn (P := fun c => ∀ T, fr (DS x) S T → CI L T r x rs R (wrk R s f c) → V_X8_wear_10 l G x 81 (hg R s) (bs c (fel R s f)) (nI c) T Q) (r_nc R) ?_ ?_ S fr.rf (by rw [wrk_0]; exact C)
  · intro T g D
    refine b_X8_wear_10 (D.sh.sk D.hx) D.sh.k81 ⟨rs, D.sn.p, fun _ S2 e2 => ?_, fun z => absurd ?_ z⟩
    · refine h S2 (g.tr (by rw [e2]; exact fr.si DS_4)) (D.upd (by rw [e2]; rfl) (fun a j => by rw [e2]; rfl) (fun a j h1 h2 h3 h4 h5 => by rw [e2, m_gi_si, if_neg (fun z => h1 z.1)]) (wrn_wf C.sw) (fun c hc => ?_) ?_ (fun p hp => ?_) ?_)
      · rw [e2, m_gi_si, if_neg (by omega)]; exact D.sn.cl hc
      · rw [e2, m_gi_si, if_neg (by omega)]; exact D.sn.bk
      · rw [e2, m_gi_si, if_neg (by omega)]; exact D.sn.pl hp
      · rw [e2, m_gi_si, if_pos ⟨rfl, rfl⟩, D.sn.yr, nI_1]; rfl
    · rw [D.sn.rc.nc]; exact nI_le (Nat.le_refl _) (by omega)
  · intro c hc ih T g D
    have hin : vp_in (nI c) 10 := vp_nI (by omega) (by omega)
    have h1 := C.rw.nr hc
    have h2 := C.rw.fr hc
    have hcl := C.sw.cl hc
    have mT : LM T f := fun q hq => (g.i _ _ (DS_no (by omega) (by omega))).trans (hM q hq)
    refine b_X8_wear_10 (D.sh.sk D.hx) D.sh.k81 ⟨rs, D.sn.p, fun z => absurd z (by rw [D.sn.rc.nc]; exact nI_ge hc (by omega)), fun _ => s_has (by omega) (fun hb => ?_) (fun hb => ?_)⟩
    · have go : ∀ e, e < 2 → e = (if 20 ≤ f (r_nr R c) ∨ 20 ≤ f (r_fr R c) then 1 else 0) → V_X8_wear_73 l G x 81 (hg R s) (bs c (fel R s f)) (nI c) (nI e) T Q := by
        intro e he ee
        have last : V_X8_wear_107 l G x 81 (hg R s) (bs c (fel R s f)) (nI c) (x + 10) (nI c) 0 (nI (s_cl s c) - nI (r_mo R)) (nI e) T Q := by
          refine b_X8_wear_107 (D.sh.sk D.hx) D.sh.k81 (D.sh.sq1 D.hx) (s_mx ⟨by rw [D.sh.sl1 D.hx]; exact hin, fun T1 e1 => ?_⟩)
          rw [mx3 _ (by omega) _ (by omega) _ he, nI_clamp (by omega)] at e1
          have ev : s_cl s c - (r_mo R + e) = s_cl (wrk R s f (c + 1)) c := by rw [wrk_c hb, ee]
          rw [ev] at e1
          have D1 : CI L T1 r x rs R (wrk R s f (c + 1)) := by
            refine D.upd (by rw [e1]; rfl) (fun a j => by rw [e1]; rfl) (fun a j h1 h2 h3 h4 h5 => by rw [e1, m_gi_si, if_neg (fun z => h2 z.1)]) (wrk_wf C.sw) (fun c' hc' => ?_) ?_ (fun p hp => ?_) ?_
            · rw [e1, m_gi_si]
              by_cases z : c' = c
              · rw [if_pos ⟨rfl, z⟩, z]
              · rw [if_neg (fun y => z y.2), wrk_ne z]; exact D.sn.cl hc'
            · rw [e1, m_gi_si, if_neg (by omega)]; exact D.sn.bk
            · rw [e1, m_gi_si, if_neg (by omega)]; exact D.sn.pl hp
            · rw [e1, m_gi_si, if_neg (by omega)]; exact D.sn.yr
          have ih1 := ih T1 (g.tr (by rw [e1]; exact fr.si DS_10)) D1
          have hv : s_cl (wrk R s f (c + 1)) c ≤ 99 := Nat.le_trans wrk_le hcl
          try simp only [Option.some.injEq, exists_eq_left', fi32, i10, i00, false_implies, true_implies, not_false_eq_true, not_true_eq_false, true_and, and_true, nI_1, lz0, lz1, ix0, ix11, ix2, D1.sh.sp1 D1.hx, D1.sh.sl1 D1.hx, hin, nI_clamp (show c < 2 ^ 31 by omega), D1.sn.cl hc, nI_e0 (show s_cl (wrk R s f (c + 1)) c < 2 ^ 31 by omega)]
          refine ⟨fun z => ?_, fun z => ?_⟩
          · rw [bs_s0 (by unfold fel; rw [wrn_c hc hb]; simp [z])] at ih1; exact ih1
          · rw [bs_s1 (by unfold fel; rw [wrn_c hc hb, hb]; simp [z])] at ih1; exact ih1
        refine b_X8_wear_73 (D.sh.sk D.hx) D.sh.k81 ?_
        try simp only [Option.some.injEq, exists_eq_left', fi32, i10, i00, false_implies, true_implies, not_false_eq_true, not_true_eq_false, true_and, and_true, nI_1, lz0, lz1, ix0, ix11, ix2, D.sh.sp1 D.hx, D.sh.sl1 D.hx, hin, nI_clamp (show c < 2 ^ 31 by omega), D.sn.p, D.sn.cl hc, D.sn.rc.mo, wrk_cc]
        refine ⟨fun z => ?_, fun z => ?_⟩
        · have : e = 0 := (nI_eq (b := 0) (by omega) (by omega)).mp z
          rw [this] at last; exact last
        · have : e = 1 := by
            rcases Nat.lt_or_ge e 1 with y | y
            · exact absurd (by rw [show e = 0 by omega]; rfl) z
            · omega
          rw [this] at last; exact last
      have f1 := hf (r_nr R c)
      have f2 := hf (r_fr R c)
      try simp only [Option.some.injEq, exists_eq_left', fi32, i10, i00, false_implies, true_implies, not_false_eq_true, not_true_eq_false, true_and, and_true, nI_1, lz0, lz1, ix0, ix11, ix2, D.sn.p, D.sh.rp8 D.sn.irm, D.sh.rl8 D.sn.irm, D.sh.rp9 D.sn.irm, D.sh.rl9 D.sn.irm, hin, nI_clamp (show c < 2 ^ 31 by omega), D.sn.rc.nr hc, D.sn.rc.fr hc, D.sh.l81, vp_nI (show r_nr R c < 20 by omega) (show 20 < 2 ^ 31 by omega), vp_nI (show r_fr R c < 20 by omega) (show 20 < 2 ^ 31 by omega), nI_clamp (show r_nr R c < 2 ^ 31 by omega), nI_clamp (show r_fr R c < 2 ^ 31 by omega), mT (r_nr R c) (by omega), mT (r_fr R c) (by omega)]
      refine ⟨fun z => ?_, fun z => ⟨fun z2 => ?_, fun z2 => ?_⟩⟩
      · have := (nI_leI (a := 20) (by omega) (by omega)).mp z
        exact go 1 (by omega) (by rw [if_pos (Or.inl this)])
      · have a1 : ¬ 20 ≤ f (r_nr R c) := fun y => z ((nI_leI (a := 20) (by omega) (by omega)).mpr y)
        have a2 := (nI_ltI (b := 20) (by omega) (by omega)).mp z2
        exact go 0 (by omega) (by rw [if_neg (by omega)])
      · have a2 : ¬ f (r_fr R c) < 20 := fun y => z2 ((nI_ltI (b := 20) (by omega) (by omega)).mpr y)
        exact go 1 (by omega) (by rw [if_pos (Or.inr (by omega))])
    · have ih1 := ih T g (by rw [wrk_s0 hb]; exact D)
      rw [bs_s0 (by unfold fel; simp [hb])] at ih1
      try simp only [Option.some.injEq, exists_eq_left', fi32, i10, i00, false_implies, true_implies, not_false_eq_true, not_true_eq_false, true_and, and_true, nI_1, lz0, lz1, ix0, ix11, ix2]
      exact ih1
end WR
/-! the reference lives a year -/
def D17 (a j : Nat) : Bool := DRb a j || (Nat.beq a 106 && Nat.ble j 17)
theorem DR_D17 {S S' : mj_S} (f : fr DRb S S') : fr D17 S S' := f.wid (fun a j h => by
  unfold D17 at h
  rw [Bool.or_eq_false_iff] at h; exact h.1)
theorem D17_106 {j : Nat} (h : j ≤ 17) : D17 106 j = true := by
  unfold D17
  have : Nat.ble j 17 = true := by rw [Nat.ble_eq]; exact h
  rw [this]; rfl
theorem D17_no {a j : Nat} (h1 : 103 ≤ a) (h2 : a ≤ 109) (h3 : a ≠ 106 ∨ 17 < j) : D17 a j = false := by
  unfold D17 DRb
  have e1 : Nat.ble a 99 = false := by rw [← Bool.not_eq_true, Nat.ble_eq]; omega
  have e2 : Nat.ble 110 a = false := by rw [← Bool.not_eq_true, Nat.ble_eq]; omega
  rw [e1, e2]
  simp only [Bool.and_false, Bool.false_and, Bool.false_or]
  rw [← Bool.not_eq_true, Bool.and_eq_true, Nat.beq_eq, Nat.ble_eq]; omega
section LV
variable {l : Launch} {G : mj_G} {L : Nat} {R : rm} {s : sc} {S : mj_S} {t : Nat → Nat}
theorem RI.set106 {s' : sc} {S' : mj_S} {j : Nat} {v : Int32} (C : RI L S R s) (e : S' = m_si S 106 j v) (hw : s_wf R s') (hs : RS S' R s') : RI L S' R s' := C.upd (by rw [e]; rfl) (fun a k => by rw [e]; rfl) (fun k h1 h2 => by rw [e, m_gi_si, if_neg (by omega)]) (fun a k h1 h2 h3 => by rw [e, m_gi_si, if_neg (fun z => h3 z.1)]) hw hs
theorem s_live {Q : mj_S → Int32 → Prop} (C : RI L S R s) (T : TKr l G S (r_nc R) t) (ht : ∀ c, c < r_nc R → t c ≤ 99) (hpos : 0 < r_n R) (h : ∀ S', fr D17 S S' → RI L S' R (wrn R s (lit R (hg R s) t 0 (r_li R))) → Q S' (bs (r_nc R) (fel R s (lit R (hg R s) t 0 (r_li R))))) : M_X11_live l G 89 S Q := by
  have nc := C.rw.nc
  have np := C.rw.np
  have hn := C.rw.n
  have hmo := C.rw.mo
  refine e_X11_live (b_X11_live_0 C.sh.k89 (s_layLit C T ht hpos (fun S1 f1 hM => s_hanging (C.fr (DRb_DR f1)) ?_)))
  have hf : ∀ q, lit R (hg R s) t 0 (r_li R) q ≤ 99 := lit_99 C.rw.li
  refine dn (P := fun c => ∀ U, fr D17 S U → LMr U (lit R (hg R s) t 0 (r_li R)) → RI L U R (wrk R s (lit R (hg R s) t 0 (r_li R)) c) → V_X11_live_13 l G 89 (bs c (fel R s (lit R (hg R s) t 0 (r_li R)))) (hg R s) (nI c) U Q) (r_nc R) ?_ ?_ S1 (DR_D17 f1) hM (by rw [wrk_0]; exact C.fr (DRb_DR f1))
  · intro U g mU D
    refine b_X11_live_13 D.sh.k89 ?_
    try simp only [Option.some.injEq, exists_eq_left', fi32, i10, i00, false_implies, true_implies, not_false_eq_true, not_true_eq_false, true_and, and_true, nI_1, lz0, lz1, ix0, ix11, ix2, D.sh.p89_22, D.sh.p89_23, D.sh.p89_24, D.sh.p89_28, D.sh.p89_32, D.sh.p89_33, D.sh.l103, D.sh.l104, D.sh.l105, D.sh.l106, D.sh.l108, D.sh.l109, D.rr.n, D.rr.nc, D.rr.np, D.rr.w, D.rr.h, D.rr.li, D.rr.mo, D.rs.bk, D.rs.yr, ix4, ix6, geT (show r_nc R < 2 ^ 31 by omega), vp_nI (show 17 < 199 by omega) (show 199 < 2 ^ 31 by omega), show (17 : Int32) = nI 17 from rfl, nI_clamp (show 17 < 2 ^ 31 by omega)]
    intro S2 e2
    refine h S2 (g.tr (by rw [e2]; exact fr.si (D17_106 (by omega)))) (D.set106 e2 (wrn_wf C.sw) ⟨fun c hc => ?_, ?_, fun p hp => ?_, ?_⟩)
    · rw [e2, m_gi_si, if_neg (by omega)]; exact D.rs.cl hc
    · rw [e2, m_gi_si, if_neg (by omega)]; exact D.rs.bk
    · rw [e2, m_gi_si, if_neg (by omega)]; exact D.rs.pl hp
    · rw [e2, m_gi_si, if_pos ⟨rfl, rfl⟩]; rfl
  · intro c hc ih U g mU D
    have h1 := C.rw.nr hc
    have h2 := C.rw.fr hc
    have hcl := C.sw.cl hc
    have hin : vp_in (nI c) 199 := vp_nI (by omega) (by omega)
    refine b_X11_live_13 D.sh.k89 ?_
    try simp only [Option.some.injEq, exists_eq_left', fi32, i10, i00, false_implies, true_implies, not_false_eq_true, not_true_eq_false, true_and, and_true, nI_1, lz0, lz1, ix0, ix11, ix2, D.sh.p89_22, D.sh.p89_23, D.sh.p89_24, D.sh.p89_28, D.sh.p89_32, D.sh.p89_33, D.sh.l103, D.sh.l104, D.sh.l105, D.sh.l106, D.sh.l108, D.sh.l109, D.rr.n, D.rr.nc, D.rr.np, D.rr.w, D.rr.h, D.rr.li, D.rr.mo, D.rs.bk, D.rs.yr, ix4, ix6, gtF hc (show r_nc R < 2 ^ 31 by omega)]
    refine s_rhas (by omega) (fun hb => ?_) (fun hb => ?_)
    · have go : ∀ e, e < 2 → e = (if 20 ≤ lit R (hg R s) t 0 (r_li R) (r_nr R c) ∨ 20 ≤ lit R (hg R s) t 0 (r_li R) (r_fr R c) then 1 else 0) → V_X11_live_64 l G 89 (bs c (fel R s (lit R (hg R s) t 0 (r_li R)))) (hg R s) (nI c) (nI e) U Q := by
        intro e he ee
        have last : V_X11_live_99 l G 89 (bs c (fel R s (lit R (hg R s) t 0 (r_li R)))) (hg R s) (nI c) 106 (nI c) 0 (nI (s_cl s c) - nI (r_mo R)) (nI e) U Q := by
          refine b_X11_live_99 D.sh.k89 D.sh.k106 (s_mx ⟨by rw [D.sh.l106]; exact hin, fun T1 e1 => ?_⟩)
          rw [mx3 _ (by omega) _ (by omega) _ he, nI_clamp (by omega)] at e1
          have ev : s_cl s c - (r_mo R + e) = s_cl (wrk R s (lit R (hg R s) t 0 (r_li R)) (c + 1)) c := by rw [wrk_c hb, ee]
          rw [ev] at e1
          have D1 : RI L T1 R (wrk R s (lit R (hg R s) t 0 (r_li R)) (c + 1)) := by
            refine D.set106 e1 (wrk_wf C.sw) ⟨fun c' hc' => ?_, ?_, fun p hp => ?_, ?_⟩
            · rw [e1, m_gi_si]
              by_cases z : c' = c
              · rw [if_pos ⟨rfl, z⟩, z]
              · rw [if_neg (fun y => z y.2), wrk_ne z]; exact D.rs.cl hc'
            · rw [e1, m_gi_si, if_neg (by omega)]; exact D.rs.bk
            · rw [e1, m_gi_si, if_neg (by omega)]; exact D.rs.pl hp
            · rw [e1, m_gi_si, if_neg (by omega)]; exact D.rs.yr
          have ih1 := ih T1 (g.tr (by rw [e1]; exact fr.si (D17_106 (by omega)))) (fun q hq => by rw [e1, m_gi_si, if_neg (by omega)]; exact mU q hq) D1
          refine s_isFallen D1 hc (fun z => ?_) (fun z => ?_)
          · rw [bs_s1 (by unfold fel; rw [wrn_c hc hb, hb]; simp [z])] at ih1
            try simp only [Option.some.injEq, exists_eq_left', fi32, i10, i00, false_implies, true_implies, not_false_eq_true, not_true_eq_false, true_and, and_true, nI_1, lz0, lz1, ix0, ix11, ix2]
            exact ih1
          · rw [bs_s0' (by unfold fel; rw [wrn_c hc hb]; simp [z])] at ih1
            try simp only [Option.some.injEq, exists_eq_left', fi32, i10, i00, false_implies, true_implies, not_false_eq_true, not_true_eq_false, true_and, and_true, nI_1, lz0, lz1, ix0, ix11, ix2]
            exact ih1
        refine b_X11_live_64 D.sh.k89 ?_
        try simp only [Option.some.injEq, exists_eq_left', fi32, i10, i00, false_implies, true_implies, not_false_eq_true, not_true_eq_false, true_and, and_true, nI_1, lz0, lz1, ix0, ix11, ix2, D.sh.p89_22, D.sh.p89_23, D.sh.p89_24, D.sh.p89_28, D.sh.p89_32, D.sh.p89_33, D.sh.l103, D.sh.l104, D.sh.l105, D.sh.l106, D.sh.l108, D.sh.l109, D.rr.n, D.rr.nc, D.rr.np, D.rr.w, D.rr.h, D.rr.li, D.rr.mo, D.rs.bk, D.rs.yr, ix4, ix6, hin, nI_clamp (show c < 2 ^ 31 by omega), vp_nI (show 3 < 4 by omega) (show 4 < 2 ^ 31 by omega), show (3 : Int32) = nI 3 from rfl, nI_clamp (show 3 < 2 ^ 31 by omega), D.rs.cl hc, wrk_cc]
        refine ⟨fun z => ?_, fun z => ?_⟩
        · have : e = 0 := (nI_eq (b := 0) (by omega) (by omega)).mp z
          rw [this] at last; exact last
        · have : e = 1 := by
            rcases Nat.lt_or_ge e 1 with y | y
            · exact absurd (by rw [show e = 0 by omega]; rfl) z
            · omega
          rw [this] at last; exact last
      have f1 := hf (r_nr R c)
      have f2 := hf (r_fr R c)
      try simp only [Option.some.injEq, exists_eq_left', fi32, i10, i00, false_implies, true_implies, not_false_eq_true, not_true_eq_false, true_and, and_true, nI_1, lz0, lz1, ix0, ix11, ix2, D.sh.p89_22, D.sh.p89_23, D.sh.p89_24, D.sh.p89_28, D.sh.p89_32, D.sh.p89_33, D.sh.l103, D.sh.l104, D.sh.l105, D.sh.l106, D.sh.l108, D.sh.l109, D.rr.n, D.rr.nc, D.rr.np, D.rr.w, D.rr.h, D.rr.li, D.rr.mo, D.rs.bk, D.rs.yr, ix4, ix6, D.sh.p89_34]
      refine s_firstSide D hc ⟨by rw [D.sh.l110]; exact vp_nI (by omega) (by omega), ?_⟩
      rw [nI_clamp (by omega), mU _ (by omega)]
      refine ⟨fun z => ?_, fun z => ⟨110, D.sh.p89_34, s_secondSide D hc ⟨by rw [D.sh.l110]; exact vp_nI (by omega) (by omega), ?_⟩⟩⟩
      · have := (nI_leI (a := 20) (by omega) (by omega)).mp z
        exact go 1 (by omega) (by rw [if_pos (Or.inl this)])
      · rw [nI_clamp (by omega), mU _ (by omega)]
        have a1 : ¬ 20 ≤ lit R (hg R s) t 0 (r_li R) (r_nr R c) := fun y => z ((nI_leI (a := 20) (by omega) (by omega)).mpr y)
        refine ⟨fun z2 => ?_, fun z2 => ?_⟩
        · have a2 := (nI_ltI (b := 20) (by omega) (by omega)).mp z2
          exact go 0 (by omega) (by rw [if_neg (by omega)])
        · have a2 : ¬ lit R (hg R s) t 0 (r_li R) (r_fr R c) < 20 := fun y => z2 ((nI_ltI (b := 20) (by omega) (by omega)).mpr y)
          exact go 1 (by omega) (by rw [if_pos (Or.inr (by omega))])
    · have ih1 := ih U g mU (by rw [wrk_s0 hb]; exact D)
      rw [bs_s0 (by unfold fel; simp [hb])] at ih1
      try simp only [Option.some.injEq, exists_eq_left', fi32, i10, i00, false_implies, true_implies, not_false_eq_true, not_true_eq_false, true_and, and_true, nI_1, lz0, lz1, ix0, ix11, ix2]
      exact ih1
end LV
