/-! the reference: joinedBy, states, lords -/
theorem nI_m1 {b : Nat} (h : b < 2 ^ 31) : ¬ nI b = -1 := by
  intro e
  have := congrArg Int32.toInt e
  rw [nI_toInt h, show (-1 : Int32).toInt = -1 by decide] at this
  omega
theorem ge_or {a b c : Int32} (h1 : cp_ge a c) (h2 : cp_ge b c) : cp_ge (a ||| b) c := by
  intro i hi
  rw [b_or, Bool.or_eq_true] at hi
  rcases hi with q | q
  · exact h1 i q
  · exact h2 i q
theorem ge_l (a b : Int32) : cp_ge a (a ||| b) := fun i hi => by rw [b_or, hi]; rfl
theorem ge_r (a b : Int32) : cp_ge b (a ||| b) := fun i hi => by rw [b_or, hi, Bool.or_true]
theorem in_or {a b : Int32} {n : Nat} (h1 : cp_in a n) (h2 : cp_in b n) : cp_in (a ||| b) n := by
  intro i hi
  rw [b_or, Bool.or_eq_true] at hi
  rcases hi with q | q
  · exact h1 i q
  · exact h2 i q
theorem on_ge {q : Nat} {c : Int32} (hq : q < 32) (h : bt c q = true) : cp_ge (on q) c := by
  intro i hi
  have h32 := b_lt hi
  rw [b_on hq h32, decide_eq_true_iff] at hi
  rw [hi]; exact h
theorem on_self {q : Nat} (hq : q < 32) : bt (on q) q = true := by rw [b_on hq hq]; simp
theorem or_0 (x : Int32) : x ||| 0 = x := by
  apply b_ext
  intro i _
  rw [b_or, b_0, Bool.or_false]
section RF2
variable {l : Launch} {G : mj_G} {L : Nat} {R : rm} {s : sc} {S S' : mj_S}
theorem s_joinedBy {q : Nat} {H : Int32} {Q : mj_S → Int32 → Prop} (C : RI L S R s) (hq : q < r_n R) (h : Q S (jn R H (on q))) : M_X11_joinedBy l G 89 (nI q) H S Q := by
  have hn := C.rw.n
  have nc := C.rw.nc
  have hk := C.sh.k89
  have hJ := jn_is C.rw H (on_in hq (show r_n R ≤ 32 by omega))
  have inner : ∀ W, cp_in W (r_n R) → cp_ge W (jn R H (on q)) → (∀ T, cp_ge W T → cp_in T (r_n R) → cp_ge T (jn R H (on q)) → (∀ a b, bt W a = true → rE R H a b → bt T b = true) → V_X11_joinedBy_7 l G 89 H T W S Q) → V_X11_joinedBy_19 l G 89 H W W 0 S Q := by
    intro W hW1 hW2 K
    refine dn (P := fun a => ∀ T, cp_ge W T → cp_in T (r_n R) → cp_ge T (jn R H (on q)) → (∀ a' b, a' < a → bt W a' = true → rE R H a' b → bt T b = true) → V_X11_joinedBy_19 l G 89 H T W (nI a) S Q) (r_n R) ?_ ?_ W (fun _ z => z) hW1 hW2 (fun _ _ z => absurd z (by omega))
    · intro T t1 t2 t3 t4
      refine b_X11_joinedBy_19 hk ⟨fun _ => K T t1 t2 t3 (fun a b z => t4 a b (hW1 a z) z), fun z => absurd ?_ z⟩
      rw [C.rr.n]; exact nI_le (Nat.le_refl _) (by omega)
    · intro a ha ih T t1 t2 t3 t4
      refine b_X11_joinedBy_19 hk ⟨fun z => absurd z (by rw [C.rr.n]; exact nI_ge ha (by omega)), fun _ => ?_⟩
      refine dn (P := fun way => ∀ T, cp_ge W T → cp_in T (r_n R) → cp_ge T (jn R H (on q)) → (∀ a' b, a' < a → bt W a' = true → rE R H a' b → bt T b = true) → (∀ w b, w < way → bt W a = true → nx R a w = some b → (¬ ∃ c, sd R a w = some c ∧ bt H c = true) → bt T b = true) → V_X11_joinedBy_31 l G 89 H T W (nI a) (nI way) S Q) 4 ?_ ?_ T t1 t2 t3 t4 (fun _ _ z => absurd z (by omega))
      · intro T t1 t2 t3 t4 t5
        refine b_X11_joinedBy_31 hk ⟨fun _ v ev => ?_, fun z => absurd (by decide) z⟩
        rw [ev, nI_1]
        refine ih T t1 t2 t3 (fun a' b z1 z2 z3 => ?_)
        by_cases e : a' = a
        · rw [e] at z2 z3
          obtain ⟨w, z4, z5, z6⟩ := z3
          exact t5 w b z4 z2 z5 z6
        · exact t4 a' b (by omega) z2 z3
      · intro way hw ih2 T t1 t2 t3 t4 t5
        have hix : vp_in ((4 : Int32) * nI a + nI way) 80 := by rw [ix4]; exact vp_nI (by omega) (by omega)
        refine b_X11_joinedBy_31 hk ⟨fun z => absurd z (nI_ge hw (by decide)), fun _ => s_rhas (by omega) (fun hWa => ⟨fun z => absurd z (by decide), fun _ => ⟨108, C.sh.p89_32, by rw [C.sh.l108]; exact hix, fun v6 e6 => ?_⟩⟩) (fun hWa => ⟨fun _ v ev => ?_, fun z => absurd rfl z⟩)⟩
        · rw [ix4, nI_clamp (by omega), C.rr.nx ha hw] at e6
          cases en : nx R a way with
          | none =>
            rw [en] at e6
            refine ⟨fun _ v ev => ?_, fun z => absurd e6 z⟩
            rw [ev, nI_1]
            refine ih2 T t1 t2 t3 t4 (fun w b z1 z2 z3 z4 => ?_)
            by_cases e : w = way
            · rw [e, en] at z3; cases z3
            · exact t5 w b (by omega) z2 z3 z4
          | some b =>
            rw [en] at e6
            have hb := nx_lt C.rw ha en
            have e6' : v6 = nI b := e6
            rw [e6']
            refine ⟨fun z => absurd z (nI_m1 (by omega)), fun _ => s_rhas (by omega) (fun hTb => ⟨fun _ v ev => ?_, fun z => absurd z (by decide)⟩) (fun hTb => ⟨fun z => absurd rfl z, fun _ => ⟨109, C.sh.p89_33, by rw [C.sh.l109]; exact hix, fun v12 e12 => ?_⟩⟩)⟩
            · rw [ev, nI_1]
              refine ih2 T t1 t2 t3 t4 (fun w b' z1 z2 z3 z4 => ?_)
              by_cases e : w = way
              · rw [e, en] at z3; cases z3; exact hTb
              · exact t5 w b' (by omega) z2 z3 z4
            · rw [ix4, nI_clamp (by omega), C.rr.sd ha hw] at e12
              have add : (¬ ∃ c, sd R a way = some c ∧ bt H c = true) → V_X11_joinedBy_31 l G 89 H (T ||| on b) W (nI a) (nI (way + 1)) S Q := by
                intro hne
                refine ih2 (T ||| on b) (fun i z => ge_l _ _ i (t1 i z)) (in_or t2 (on_in hb (by omega))) (ge_or t3 (on_ge (by omega) ?_)) (fun a' b' z1 z2 z3 => ge_l _ _ _ (t4 a' b' z1 z2 z3)) (fun w b' z1 z2 z3 z4 => ?_)
                · exact hJ.2.1 a b (hW2 a hWa) ((rE_jE C.rw H ha).mp ⟨way, hw, en, hne⟩)
                · by_cases e : w = way
                  · rw [e, en] at z3; cases z3; exact ge_r _ _ _ (on_self (by omega))
                  · exact ge_l _ _ _ (t5 w b' (by omega) z2 z3 z4)
              cases es : sd R a way with
              | none =>
                rw [es] at e12
                refine ⟨fun _ v ev w ew => ?_, fun z => absurd e12 z⟩
                rw [ev, ew, nI_1]
                exact add (by rw [es]; rintro ⟨c, z, _⟩; cases z)
              | some c =>
                rw [es] at e12
                have e12' : v12 = nI c := e12
                have hc : c < r_nc R := by rw [sd_of en] at es; exact (bw_some es).1
                rw [e12']
                refine ⟨fun z => absurd z (nI_m1 (by omega)), fun _ => s_rhas (by omega) (fun hHc => ⟨fun z => absurd z (by decide), fun _ v ev w ew => ?_⟩) (fun hHc => ⟨fun _ v ev w ew => ?_, fun z => absurd rfl z⟩)⟩
                · rw [ev, ew, nI_1, or_0]
                  refine ih2 T t1 t2 t3 t4 (fun w b' z1 z2 z3 z4 => ?_)
                  by_cases e : w = way
                  · rw [e] at z4; exact absurd ⟨c, es, hHc⟩ z4
                  · exact t5 w b' (by omega) z2 z3 z4
                · rw [ev, ew, nI_1]
                  exact add (by rw [es]; rintro ⟨d, z1, z2⟩; cases z1; rw [hHc] at z2; cases z2)
        · rw [ev, nI_1]
          refine ih T t1 t2 t3 (fun a' b z1 z2 z3 => ?_)
          by_cases e : a' = a
          · rw [e, hWa] at z2; cases z2
          · exact t4 a' b (by omega) z2 z3
  have fin : ∀ T, cp_in T (r_n R) → cp_ge T (jn R H (on q)) → cp_ge (on q) T → (∀ a b, bt T a = true → rE R H a b → bt T b = true) → Q S T := by
    intro T t1 t2 t3 t4
    have : T = jn R H (on q) := cp_anti t2 (hJ.2.2 T t3 (fun a b z1 z2 => t4 a b z1 ((rE_jE C.rw H (t1 a z1)).mpr z2)))
    rw [this]; exact h
  have outer : ∀ k T W, r_n R ≤ cp_n T (r_n R) + k → cp_in T (r_n R) → cp_ge T (jn R H (on q)) → cp_ge (on q) T → (∀ a b, bt W a = true → rE R H a b → bt T b = true) → V_X11_joinedBy_7 l G 89 H T W S Q := by
    intro k
    induction k with
    | zero =>
      intro T W hk0 t1 t2 t3 t4
      refine b_X11_joinedBy_7 hk ⟨fun e => fin T t1 t2 t3 (by rw [← e]; rw [← e] at t4; exact t4), fun _ => inner T t1 t2 (fun T2 u1 u2 u3 u4 => ?_)⟩
      have e : T = T2 := by
        by_cases hex : ∃ i, bt T i = false ∧ bt T2 i = true
        · obtain ⟨i, z1, z2⟩ := hex
          have := cp_n_lt u1 z1 z2 (r_n R) (u2 i z2)
          have := cp_n_le T2 (r_n R)
          omega
        · exact cp_anti u1 (fun i z => by
            cases e : bt T i with
            | true => rfl
            | false => exact absurd ⟨i, e, z⟩ hex)
      rw [← e] at u4 ⊢
      exact b_X11_joinedBy_7 hk ⟨fun _ => fin T t1 t2 t3 u4, fun z => absurd rfl z⟩
    | succ k ihk =>
      intro T W hk0 t1 t2 t3 t4
      refine b_X11_joinedBy_7 hk ⟨fun e => fin T t1 t2 t3 (by rw [← e]; rw [← e] at t4; exact t4), fun _ => inner T t1 t2 (fun T2 u1 u2 u3 u4 => ?_)⟩
      by_cases hex : ∃ i, bt T i = false ∧ bt T2 i = true
      · obtain ⟨i, z1, z2⟩ := hex
        have := cp_n_lt u1 z1 z2 (r_n R) (u2 i z2)
        exact ihk T2 T (by omega) u2 u3 (fun i z => u1 i (t3 i z)) u4
      · have e : T = T2 := cp_anti u1 (fun i z => by
            cases e : bt T i with
            | true => rfl
            | false => exact absurd ⟨i, e, z⟩ hex)
        rw [← e] at u4 ⊢
        exact b_X11_joinedBy_7 hk ⟨fun _ => fin T t1 t2 t3 u4, fun z => absurd rfl z⟩
  refine e_X11_joinedBy (b_X11_joinedBy_0 hk (fun v ev => ?_))
  rw [ev]
  exact outer (r_n R) (on q) 0 (by omega) (on_in hq (by omega)) hJ.1 (fun _ z => z) (fun a b z => by rw [b_0] at z; cases z)
theorem s_stateOf {q : Nat} {Q : mj_S → Int32 → Prop} (C : RI L S R s) (hq : q < r_n R) (h : Q S (st R s q)) : M_X11_stateOf l G 89 (nI q) S Q :=
  e_X11_stateOf (b_X11_stateOf_0 C.sh.k89 (s_hanging C (s_joinedBy C hq h)))
theorem s_nameOf {X : Int32} {Q : mj_S → Int32 → Prop} (hs : Sh L S) (h : Q S (nz X)) : M_X11_nameOf l G 89 X S Q :=
  e_X11_nameOf (b_X11_nameOf_0 hs.k89 (s_nz h))
/-- how many of the first k are in X -/
def pin (s : sc) (X : Int32) : Nat → Nat
  | 0 => 0
  | p + 1 => pin s X p + (if bt X (s_pl s p) = true then 1 else 0)
theorem s_personsIn {X : Int32} {Q : mj_S → Int32 → Prop} (C : RI L S R s) (h : Q S (nI (pin s X (r_np R)))) : M_X11_personsIn l G 89 X S Q := by
  have np := C.rw.np
  have hk := C.sh.k89
  refine e_X11_personsIn (b_X11_personsIn_0 hk ?_)
  refine dn (P := fun p => V_X11_personsIn_4 l G 89 X (nI (pin s X p)) (nI p) S Q) (r_np R) ?_ ?_
  · refine b_X11_personsIn_4 hk ⟨fun _ => h, fun q => absurd ?_ q⟩
    rw [C.rr.np]; exact nI_le (Nat.le_refl _) (by omega)
  · intro p hp ih
    have pl := C.sw.pl hp
    have hn := C.rw.n
    refine b_X11_personsIn_4 hk ⟨fun q => absurd q (by rw [C.rr.np]; exact nI_ge hp (by omega)), fun _ => ⟨106, C.sh.p89_28, by rw [ix11, C.sh.l106]; exact vp_nI (by omega) (by omega), ?_⟩⟩
    rw [ix11, nI_clamp (by omega), C.rs.pl hp]
    unfold pin at ih
    refine s_rhas (by omega) (fun hb => ⟨fun z => absurd z (by decide), fun _ v ev w ew => ?_⟩) (fun hb => ⟨fun _ v ev w ew => ?_, fun z => absurd rfl z⟩)
    · rw [if_pos hb] at ih
      rw [ev, ew, nI_1, nI_1]; exact ih
    · rw [if_neg (by rw [hb]; decide)] at ih
      rw [ev, ew, nI_1, show (0 : Int32) = nI 0 from rfl, nI_add]; exact ih
theorem s_lordOf {X : Int32} {Q : mj_S → Int32 → Prop} (C : RI L S R s) (h : Q S (oI (lo R s X (r_np R)))) : M_X11_lordOf l G 89 X S Q := by
  have np := C.rw.np
  have hk := C.sh.k89
  refine e_X11_lordOf (b_X11_lordOf_0 hk ?_)
  refine dn (P := fun p => V_X11_lordOf_4 l G 89 X (oI (lo R s X p)) (nI p) S Q) (r_np R) ?_ ?_
  · refine b_X11_lordOf_4 hk ⟨fun _ => h, fun q => absurd ?_ q⟩
    rw [C.rr.np]; exact nI_le (Nat.le_refl _) (by omega)
  · intro p hp ih
    have pl := C.sw.pl hp
    have hn := C.rw.n
    refine b_X11_lordOf_4 hk ⟨fun q => absurd q (by rw [C.rr.np]; exact nI_ge hp (by omega)), fun _ => ⟨106, C.sh.p89_28, by rw [ix11, C.sh.l106]; exact vp_nI (by omega) (by omega), ?_⟩⟩
    rw [ix11, nI_clamp (by omega), C.rs.pl hp]
    refine s_rhas (by omega) (fun hb => ⟨fun q => absurd q (by decide), fun _ => ?_⟩) (fun hb => ⟨fun _ v ev => ?_, fun q => absurd rfl q⟩)
    · cases e : lo R s X p with
      | none =>
        refine ⟨fun _ v ev => ?_, fun z => absurd rfl z⟩
        rw [ev, nI_1]
        have : lo R s X (p + 1) = some p := by unfold lo; rw [e]; exact if_pos hb
        rw [this] at ih; exact ih
      | some m =>
        have hm := lo_lt e
        have i1 := (C.rw.mi hp).2
        have i2 := (C.rw.mi (show m < r_np R by omega)).2
        rw [show oI (some m) = nI m from rfl]
        refine ⟨fun z => absurd z (nI_m1 (by omega)), fun _ => ⟨105, C.sh.p89_24, by rw [ix2, C.sh.l105]; exact vp_nI (by omega) (by omega), 105, C.sh.p89_24, by rw [ix2, C.sh.l105]; exact vp_nI (by omega) (by omega), ?_⟩⟩
        rw [ix2, ix2, nI_clamp (by omega), nI_clamp (by omega), C.rr.mi hp, C.rr.mi (show m < r_np R by omega)]
        refine ⟨fun q v ev => ?_, fun q v ev => ?_⟩
        · have q' := (nI_leI (by omega) (by omega)).mp q
          have : lo R s X (p + 1) = some m := by unfold lo; rw [e]; exact if_neg (fun z => by omega)
          rw [this] at ih; rw [ev, nI_1]; exact ih
        · have q' : ¬ r_mi R p ≤ r_mi R m := fun z => q ((nI_leI (by omega) (by omega)).mpr z)
          have : lo R s X (p + 1) = some p := by unfold lo; rw [e]; exact if_pos ⟨hb, by omega⟩
          rw [this] at ih; rw [ev, nI_1]; exact ih
    · rw [ev, nI_1]
      have : lo R s X (p + 1) = lo R s X p := by
        rw [lo]
        cases lo R s X p with
        | none => exact if_neg (by rw [hb]; decide)
        | some m => exact if_neg (by rw [hb]; exact fun z => absurd z.1 (by decide))
      rw [this] at ih; exact ih
theorem n0_of {X : Int32} (h : cp_n X 20 = 0) (hx : cp_in X 20) : X = 0 := by
  by_cases e : X = 0
  · exact e
  · obtain ⟨i, h1, h2⟩ := b_ne0 e
    have := cp_n_pos h2 20 (hx i h2)
    omega
theorem s_states {Q : mj_S → Int32 → Prop} (C : RI L S R s) (h : Q S (nI (pt R (hg R s) 20 (al (r_n R)) 0))) : M_X11_states l G 89 S Q := by
  have hn := C.rw.n
  have hk := C.sh.k89
  have lp : ∀ (k : Nat) (y : Int32) (f : Nat), cp_n y 20 ≤ k → cp_in y (r_n R) → Q S (nI (pt R (hg R s) k y f)) → V_X11_states_11 l G 89 (nI f) y S Q := by
    intro k
    induction k with
    | zero =>
      intro y f h1 h2 h3
      have : y = 0 := n0_of (by omega) (h2.mono (by omega))
      exact b_X11_states_11 hk ⟨fun _ => h3, fun z => absurd this z⟩
    | succ k ih =>
      intro y f h1 h2 h3
      unfold pt at h3
      refine b_X11_states_11 hk ⟨fun z => by rw [if_pos z] at h3; exact h3, fun z => ?_⟩
      rw [if_neg z] at h3
      obtain ⟨j, j1, j2, j3, j4, _⟩ := nz_of (h2.mono (by omega)) z
      have hj := h2 j j3
      refine s_nameOf C.sh ?_
      rw [j2]
      refine s_stateOf C hj (fun v ev w ew => ?_)
      rw [j4] at h3
      rw [ev, ew, nI_1]
      refine ih _ _ ?_ ?_ h3
      · have hs : bt (st R s j) j = true := jn_self C.rw (hg R s) hj
        have a1 : cp_ge (y &&& (st R s j ^^^ (-1))) y := fun i hi => by
          rw [b_and, Bool.and_eq_true] at hi; exact hi.1
        have := cp_n_lt a1 (i := j) (by rw [b_and, b_not _ (by omega), hs]; simp) j3 20 (by omega)
        omega
      · intro i hi
        rw [b_and, Bool.and_eq_true] at hi
        exact h2 i hi.1
  refine e_X11_states (b_X11_states_0 hk (fun v ev => ?_))
  rw [ev, C.rr.n]
  refine lp 20 (al (r_n R)) 0 (cp_n_le _ _) (fun i hi => ?_) h
  rw [b_al hn, decide_eq_true_iff] at hi
  exact hi
end RF2
