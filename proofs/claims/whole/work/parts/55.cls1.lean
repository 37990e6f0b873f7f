/-! the class: scene, floor, light's first steps -/
theorem dn {P : Nat → Prop} (n : Nat) (h0 : P n) (hs : ∀ c, c < n → P (c + 1) → P c) : P 0 := by
  have : ∀ k, k ≤ n → P (n - k) := by
    intro k
    induction k with
    | zero => intro _; exact h0
    | succ k ih =>
      intro hk
      refine hs (n - (k + 1)) (by omega) ?_
      rw [show n - (k + 1) + 1 = n - k by omega]
      exact ih (by omega)
  have := this n (Nat.le_refl _)
  rwa [Nat.sub_self] at this
theorem bf {b : Bool} (h : ¬ b = true) : b = false := by simpa using h
section CS
variable {l : Launch} {G : mj_G} {L r x rs : Nat} {R : rm} {s : sc} {S : mj_S}
theorem s_has {b : Int32} {c : Nat} {Q : mj_S → Int32 → Prop} (hc : c < 32) (h1 : bt b c = true → Q S 1) (h0 : bt b c = false → Q S 0) : M_X10_has l G b (nI c) S Q := by
  refine s_X10_has ?_
  rw [hs_nI b hc]
  by_cases e : bt b c = true
  · rw [if_pos e]; exact h1 e
  · rw [if_neg e]; exact h0 (bf e)
theorem s_wit {a b c : Int32} {Q : mj_S → Int32 → Prop} (h1 : ¬ a < b → ¬ c < a → Q S 1) (h0 : a < b ∨ c < a → Q S 0) : M_X10_within l G a b c S Q := by
  refine s_X10_within ?_
  unfold wi_b
  by_cases e : a < b
  · rw [if_pos e]; exact h0 (Or.inl e)
  · rw [if_neg e]
    by_cases f : c < a
    · rw [if_pos f]; exact h0 (Or.inr f)
    · rw [if_neg f]; exact h1 e f
theorem s_allS {Q : mj_S → Int32 → Prop} (hs : Sh L S) (hr : isRm r) (C : RC S r R) (h : Q S (al (r_n R))) : M_X6_allSquares l G r S Q := by
  refine e_X6_allSquares (b_X6_allSquares_0 (hs.rk hr) ?_)
  rw [C.n]; exact h
theorem s_allC {Q : mj_S → Int32 → Prop} (hs : Sh L S) (hr : isRm r) (C : RC S r R) (h : Q S (al (r_nc R))) : M_X6_allCurtains l G r S Q := by
  refine e_X6_allCurtains (b_X6_allCurtains_0 (hs.rk hr) ?_)
  rw [C.nc]; exact h
theorem s_allP {Q : mj_S → Int32 → Prop} (hs : Sh L S) (hr : isRm r) (C : RC S r R) (h : Q S (al (r_np R))) : M_X6_allPersons l G r S Q := by
  refine e_X6_allPersons (b_X6_allPersons_0 (hs.rk hr) ?_)
  rw [C.np]; exact h
theorem s_fallen {Q : mj_S → Int32 → Prop} (C : CI L S r x rs R s) (h : Q S (fa R s)) : M_X8_fallen l G x S Q := by
  have hk := C.sh.sk C.hx
  have nc := C.rw.nc
  refine e_X8_fallen (b_X8_fallen_0 hk ?_)
  refine dn (P := fun c => V_X8_fallen_4 l G x (bs c fun c => decide (s_cl s c = 0)) (nI c) S Q) (r_nc R) ?_ ?_
  · refine b_X8_fallen_4 hk ⟨rs, C.sn.p, fun _ => h, fun q => absurd ?_ q⟩
    rw [C.sn.rc.nc]; exact nI_le (Nat.le_refl _) (by omega)
  · intro c hc ih
    have cl := C.sw.cl hc
    refine b_X8_fallen_4 hk ⟨rs, C.sn.p, fun q => absurd q (by rw [C.sn.rc.nc]; exact nI_ge hc (by omega)), fun _ => ⟨x + 10, C.sh.sp1 C.hx, by rw [C.sh.sl1 C.hx]; exact vp_nI (by omega) (by omega), fun q v ev => ?_, fun q v ev w ew => ?_⟩⟩
    · rw [nI_clamp (by omega), C.sn.cl hc] at q
      rw [bs_s0 (fun z => q (by rw [of_decide_eq_true z]; rfl))] at ih
      rw [ev, nI_1]; exact ih
    · rw [nI_clamp (by omega), C.sn.cl hc] at q
      rw [bs_s1 (decide_eq_true ((nI_eq (by omega) (by omega)).mp (q.trans nI_0.symm)))] at ih
      rw [ew, ev, nI_1]; exact ih
theorem s_hung {Q : mj_S → Int32 → Prop} (C : CI L S r x rs R s) (h : Q S (hg R s)) : M_X8_hung l G x S Q := by
  refine e_X8_hung (b_X8_hung_0 (C.sh.sk C.hx) ⟨rs, C.sn.p, s_allC C.sh C.sn.irm C.sn.rc (s_fallen C ?_)⟩)
  rw [C.sn.bk, hg_cl C.rw]; exact h
theorem s_drawnBack {Q : mj_S → Int32 → Prop} (C : CI L S r x rs R s) (h : Q S (db R s)) : M_X8_drawnBack l G x S Q := by
  refine e_X8_drawnBack (b_X8_drawnBack_0 (C.sh.sk C.hx) (s_fallen C ?_))
  rw [C.sn.bk]; exact h
/-- all the cloth -/
def clo (s : sc) : Nat → Nat
  | 0 => 0
  | c + 1 => clo s c + s_cl s c
theorem s_fabricOfAll {Q : mj_S → Int32 → Prop} (C : CI L S r x rs R s) (h : Q S (nI (clo s (r_nc R)))) : M_X8_fabricOfAll l G x S Q := by
  have hk := C.sh.sk C.hx
  have nc := C.rw.nc
  refine e_X8_fabricOfAll (b_X8_fabricOfAll_0 hk ?_)
  refine dn (P := fun c => V_X8_fabricOfAll_4 l G x (nI (clo s c)) (nI c) S Q) (r_nc R) ?_ ?_
  · refine b_X8_fabricOfAll_4 hk ⟨rs, C.sn.p, fun _ => h, fun q => absurd ?_ q⟩
    rw [C.sn.rc.nc]; exact nI_le (Nat.le_refl _) (by omega)
  · intro c hc ih
    refine b_X8_fabricOfAll_4 hk ⟨rs, C.sn.p, fun q => absurd q (by rw [C.sn.rc.nc]; exact nI_ge hc (by omega)), fun _ => ⟨x + 10, C.sh.sp1 C.hx, by rw [C.sh.sl1 C.hx]; exact vp_nI (by omega) (by omega), fun v ev w ew => ?_⟩⟩
    rw [ew, ev, nI_1, nI_clamp (by omega), C.sn.cl hc, nI_add]
    exact ih
/-- the floor's cells -/
def FL (S : mj_S) (R : rm) (H : Int32) : Prop := m_gi S 79 0 = nI (r_w R) ∧ m_gi S 79 1 = pr R H (r_nc R) ∧ m_gi S 79 2 = pb R H (r_nc R)
/-- the floor's cell alone -/
def DF (a _j : Nat) : Bool := Nat.beq a 79
theorem DF_ne {a j : Nat} (h : a ≠ 79) : DF a j = false := by
  unfold DF
  rw [← Bool.not_eq_true, Nat.beq_eq]; exact h
theorem DF_DC {S S' : mj_S} (f : fr DF S S') : fr DC S S' := f.wid (fun a j h => DF_ne (fun e => by rw [e] at h; exact absurd (show DC 79 j = true from rfl) (by rw [h]; decide)))
theorem s_partF {Q : mj_S → Prop} {H : Int32} (hsh : Sh L S) (hR : r_wf R) (hr : isRm r) (hr2 : 32 ≤ r ∧ r ≤ 51) (C : RC S r R) (h : ∀ S', fr DF S S' → FL S' R H → Q S') : M_X0_part l G 79 r H S Q := by
  have nc := hR.nc
  have keep : ∀ {S' : mj_S}, fr DF S S' → RC S' r R := fun f => C.keep (fun a j q1 q2 => f.i a j (DF_ne (by omega)))
  refine e_X0_part (b_X0_part_0 hsh.k79 (hsh.rk hr) ?_)
  intro S1 e1 S2 e2 S3 e3
  have f1 : fr DF S S1 := by rw [e1]; exact fr.si rfl
  have f2 : fr DF S S2 := f1.tr (by rw [e2]; exact fr.si rfl)
  have f3 : fr DF S S3 := f2.tr (by rw [e3]; exact fr.si rfl)
  have g0 : m_gi S3 79 0 = nI (r_w R) := by
    rw [e3, m_gi_si, if_neg (by omega), e2, m_gi_si, if_neg (by omega), e1, m_gi_si, if_pos ⟨rfl, rfl⟩, C.w]
  have g1 : m_gi S3 79 1 = pr R H 0 := by
    rw [e3, m_gi_si, if_neg (by omega), e2, m_gi_si, if_pos ⟨rfl, rfl⟩, (keep f1).wi, pr_0]
  have g2 : m_gi S3 79 2 = pb R H 0 := by
    rw [e3, m_gi_si, if_pos ⟨rfl, rfl⟩, (keep f2).de, pb_0]
  refine dn (P := fun c => ∀ T, fr DF S T → m_gi T 79 0 = nI (r_w R) → m_gi T 79 1 = pr R H c → m_gi T 79 2 = pb R H c → V_X0_part_26 l G 79 r H (nI c) T Q) (r_nc R) ?_ ?_ S3 f3 g0 g1 g2
  · intro T f a0 a1 a2
    refine b_X0_part_26 (hsh.fr f).k79 ((hsh.fr f).rk hr) ⟨fun _ => h T f ⟨a0, a1, a2⟩, fun q => absurd ?_ q⟩
    rw [(keep f).nc]; exact nI_le (Nat.le_refl _) (by omega)
  · intro c hc ih T f a0 a1 a2
    have K := keep f
    have hs' := hsh.fr f
    have hin : vp_in (nI c) 10 := vp_nI (by omega) (by omega)
    refine b_X0_part_26 hs'.k79 (hs'.rk hr) ⟨fun q => absurd q (by rw [K.nc]; exact nI_ge hc (by omega)), fun _ => s_has (by omega) (fun hb => ⟨fun _ => ⟨r + 3, hs'.rp10 hr, by rw [hs'.rl10 hr]; exact hin, ?_⟩, fun q => absurd q (by decide)⟩) (fun hb => ⟨fun q => absurd rfl q, fun _ v ev => ?_⟩)⟩
    · rw [nI_clamp (by omega), K.rl hc]
      refine ⟨fun q => ⟨r + 1, hs'.rp8 hr, by rw [hs'.rl8 hr]; exact hin, fun T1 e1 v ev => ?_⟩, fun q => ⟨r + 1, hs'.rp8 hr, by rw [hs'.rl8 hr]; exact hin, fun T1 e1 v ev => ?_⟩⟩
      · have hrl : r_rl R c = 1 := by
          rcases hR.rl hc with z | z
          · exact absurd (by rw [z.1]; rfl) q
          · exact z.1
        rw [ev, nI_1]
        rw [K.nr hc] at e1
        refine ih T1 (f.tr (by rw [e1]; exact fr.si rfl)) ?_ ?_ ?_
        · rw [e1, m_gi_si, if_neg (by omega), a0]
        · rw [e1, m_gi_si, if_neg (by omega), a1, pr_s0 (Or.inr (by omega))]
        · rw [e1, m_gi_si, if_pos ⟨rfl, rfl⟩, a2]; exact pb_s1 hR hc hb hrl
      · have hrl : r_rl R c = 0 := by
          rcases hR.rl hc with z | z
          · exact z.1
          · rw [z.1] at q; exact absurd q (by decide)
        rw [ev, nI_1]
        rw [K.nr hc] at e1
        refine ih T1 (f.tr (by rw [e1]; exact fr.si rfl)) ?_ ?_ ?_
        · rw [e1, m_gi_si, if_neg (by omega), a0]
        · rw [e1, m_gi_si, if_pos ⟨rfl, rfl⟩, a1]; exact pr_s1 hR hc hb hrl
        · rw [e1, m_gi_si, if_neg (by omega), a2, pb_s0 (Or.inr (by omega))]
    · rw [ev, nI_1]
      exact ih T f a0 (by rw [a1, pr_s0 (Or.inl hb)]) (by rw [a2, pb_s0 (Or.inl hb)])
theorem s_part {Q : mj_S → Prop} {H : Int32} (hsh : Sh L S) (hR : r_wf R) (hr : isRm r) (hr2 : 32 ≤ r ∧ r ≤ 51) (C : RC S r R) (h : ∀ S', fr DC S S' → FL S' R H → Q S') : M_X0_part l G 79 r H S Q := s_partF hsh hR hr hr2 C (fun S' f F => h S' (DF_DC f) F)
theorem s_reach {y H : Int32} {Q : mj_S → Int32 → Prop} (hsh : Sh L S) (F : FL S R H) (h : Q S (jn R H y)) : M_X0_reach l G 79 y S Q := by
  refine s_X0_reach hsh.k79 F.1 ?_
  rw [F.2.1, F.2.2]; exact h
/-- how many parts -/
def pt (R : rm) (H : Int32) : Nat → Int32 → Nat → Nat
  | 0, _, f => f
  | k + 1, y, f => if y = 0 then f else pt R H k (y &&& (jn R H (y &&& (-y)) ^^^ (-1))) (f + 1)
theorem s_parts {y H : Int32} {Q : mj_S → Int32 → Prop} (hsh : Sh L S) (F : FL S R H) (h : Q S (nI (pt R H 20 y 0))) : M_X0_parts l G 79 y S Q := by
  refine e_X0_parts (b_X0_parts_0 hsh.k79 ?_)
  have lp : ∀ (k : Nat) (y : Int32) (f : Nat), k ≤ 20 → Q S (nI (pt R H k y f)) → V_X0_parts_7 l G 79 y (nI f) (nI (20 - k)) S Q := by
    intro k
    induction k with
    | zero => intro y f _ h; exact b_X0_parts_7 hsh.k79 ⟨fun _ => h, fun q => absurd (by decide) q⟩
    | succ k ih =>
      intro y f hk h
      unfold pt at h
      refine b_X0_parts_7 hsh.k79 ⟨fun q => absurd q (nI_ge (show 20 - (k + 1) < 20 by omega) (by decide)), fun _ => ⟨fun q => ?_, fun q => s_reach hsh F ?_⟩⟩
      · rw [if_pos q] at h; exact h
      · intro v3 e3 v4 e4 v5 e5
        rw [if_neg q] at h
        rw [e3, e4, e5, nI_1, nI_1, show 20 - (k + 1) + 1 = 20 - k by omega]
        exact ih _ _ (by omega) h
  exact lp 20 y 0 (Nat.le_refl _) h
theorem CI.r51 (C : CI L S r x rs R s) : 32 ≤ r ∧ r ≤ 51 := by rcases C.hr with e | e <;> omega
/-- the state around q -/
def st (R : rm) (s : sc) (q : Nat) : Int32 := jn R (hg R s) (on q)
theorem s_stateAround {q : Nat} {Q : mj_S → Int32 → Prop} (C : CI L S r 50 rs R s) (h : ∀ S', fr DC S S' → FL S' R (hg R s) → Q S' (st R s q)) : M_X10_stateAround l G 6 (nI q) S Q := by
  refine e_X10_stateAround (b_X10_stateAround_0 C.sh.k6 ⟨79, C.sh.p6_10, r, C.p, 50, C.sh.p6_7, s_hung C (s_part C.sh C.rw C.irm C.r51 C.rc fun S' f F => ⟨79, (C.sh.fr f).p6_10, s_reach (C.sh.fr f) F (h S' f F)⟩)⟩)
theorem s_statesOf {Q : mj_S → Int32 → Prop} (C : CI L S r x rs R s) (h : ∀ S', fr DC S S' → Q S' (nI (pt R (hg R s) 20 (al (r_n R)) 0))) : M_X10_statesOf l G 6 x S Q := by
  refine e_X10_statesOf (b_X10_statesOf_0 C.sh.k6 (C.sh.sk C.hx) ⟨79, C.sh.p6_10, r, C.p, s_hung C (s_part C.sh C.rw C.irm C.r51 C.rc fun S' f F => ⟨79, (C.sh.fr f).p6_10, r, (C.fr f).p, s_allS (C.fr f).sh C.irm (C.fr f).rc (s_parts (C.sh.fr f) F (h S' f))⟩)⟩)
/-- the mightiest of the first k in X -/
def lo (R : rm) (s : sc) (X : Int32) : Nat → Option Nat
  | 0 => none
  | p + 1 => match lo R s X p with
    | none => if bt X (s_pl s p) = true then some p else none
    | some m => if bt X (s_pl s p) = true ∧ r_mi R m < r_mi R p then some p else some m
def oI : Option Nat → Int32
  | none => -1
  | some p => nI p
theorem lo_lt {X : Int32} : ∀ {p m : Nat}, lo R s X p = some m → m < p
  | 0, m, h => by cases h
  | p + 1, m, h => by
    unfold lo at h
    cases e : lo R s X p with
    | none =>
      rw [e] at h
      by_cases q : bt X (s_pl s p) = true
      · rw [if_pos q] at h; cases h; omega
      · rw [if_neg q] at h; cases h
    | some j =>
      rw [e] at h
      dsimp only at h
      have := lo_lt e
      by_cases q : bt X (s_pl s p) = true ∧ r_mi R j < r_mi R p
      · rw [if_pos q] at h; cases h; omega
      · rw [if_neg q] at h; cases h; omega
theorem s_lordIn {X : Int32} {Q : mj_S → Int32 → Prop} (C : CI L S r 50 rs R s) (h : Q S (oI (lo R s X (r_np R)))) : M_X10_lordIn l G 6 X S Q := by
  have np := C.rw.np
  have hk := C.sh.k6
  refine e_X10_lordIn (b_X10_lordIn_0 hk ?_)
  refine dn (P := fun p => V_X10_lordIn_4 l G 6 X (oI (lo R s X p)) (nI p) S Q) (r_np R) ?_ ?_
  · refine b_X10_lordIn_4 hk ⟨r, C.p, fun _ => h, fun q => absurd ?_ q⟩
    rw [C.rc.np]; exact nI_le (Nat.le_refl _) (by omega)
  · intro p hp ih
    have hin : vp_in (nI p) 6 := vp_nI (by omega) (by omega)
    have pl := C.sw.pl hp
    have hn := C.rw.n
    refine b_X10_lordIn_4 hk ⟨r, C.p, fun q => absurd q (by rw [C.rc.np]; exact nI_ge hp (by omega)), fun _ => ⟨50, C.sh.p6_7, 61, C.sh.p50_2, by rw [C.sh.l61]; exact hin, ?_⟩⟩
    rw [nI_clamp (by omega), C.sn.pl hp]
    refine s_has (by omega) (fun hb => ⟨fun q => absurd q (by decide), fun _ => ⟨fun q v ev => ?_, fun q => ⟨r, C.p, r + 7, C.sh.rp16 C.irm, by rw [C.sh.rl16 C.irm]; exact hin, r, C.p, r + 7, C.sh.rp16 C.irm, ?_, ?_⟩⟩⟩) (fun hb => ⟨fun _ v ev => ?_, fun q => absurd rfl q⟩)
    · rw [ev, nI_1]
      have e : lo R s X p = none := by
        cases e : lo R s X p with
        | none => rfl
        | some m => rw [e] at q; exact absurd q (nI_pos (by have := lo_lt e; omega))
      have : lo R s X (p + 1) = some p := by unfold lo; rw [e]; exact if_pos hb
      rw [this] at ih; exact ih
    · cases e : lo R s X p with
      | none => rw [e] at q; exact absurd (by decide) q
      | some m => rw [C.sh.rl16 C.irm]; exact vp_nI (by have := lo_lt e; omega) (by omega)
    · cases e : lo R s X p with
      | none => rw [e] at q; exact absurd (by decide) q
      | some m =>
        have hm := lo_lt e
        have i1 := (C.rw.mi hp).2
        have i2 := (C.rw.mi (show m < r_np R by omega)).2
        show _ ∧ _
        rw [show oI (some m) = nI m from rfl, nI_clamp (by omega), C.rc.mi hp, C.rc.mi (show m < r_np R by omega)]
        refine ⟨fun q v ev => ?_, fun q v ev => ?_⟩
        · have q' := (nI_leI (by omega) (by omega)).mp q
          have : lo R s X (p + 1) = some m := by unfold lo; rw [e]; exact if_neg (fun z => by omega)
          rw [this] at ih; rw [ev, nI_1]; exact ih
        · have q' : ¬ r_mi R p ≤ r_mi R m := fun z => q ((nI_leI (by omega) (by omega)).mpr z)
          have : lo R s X (p + 1) = some p := by unfold lo; rw [e]; exact if_pos ⟨hb, by omega⟩
          rw [this] at ih; rw [ev, nI_1]; exact ih
    · rw [ev, nI_1]
      have : lo R s X (p + 1) = lo R s X p := by
        rw [lo]
        cases lo R s X p with
        | none => exact if_neg (by rw [hb]; decide)
        | some m => exact if_neg (by rw [hb]; exact fun z => absurd z.1 (by decide))
      rw [this] at ih; exact ih
end CS
