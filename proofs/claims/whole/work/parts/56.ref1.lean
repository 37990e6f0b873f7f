/-! the reference: its cells, what is joined -/
theorem nI_mul (a b : Nat) : nI a * nI b = nI (a * b) := (Int32.ofNat_mul a b).symm
theorem ix6 (c k : Nat) : (6 : Int32) * nI c + nI k = nI (6 * c + k) := by rw [show (6 : Int32) = nI 6 from rfl, nI_mul, nI_add]
theorem ix4 (c k : Nat) : (4 : Int32) * nI c + nI k = nI (4 * c + k) := by rw [show (4 : Int32) = nI 4 from rfl, nI_mul, nI_add]
theorem ix2 (c : Nat) : (2 : Int32) * nI c + 1 = nI (2 * c + 1) := by rw [show (2 : Int32) = nI 2 from rfl, nI_mul, nI_1]
theorem ix0 (c : Nat) : (0 : Int32) + nI c = nI c := by rw [show (0 : Int32) = nI 0 from rfl, nI_add, Nat.zero_add]
theorem ix11 (c : Nat) : (11 : Int32) + nI c = nI (11 + c) := by rw [show (11 : Int32) = nI 11 from rfl, nI_add]
/-- the square beside q: 0 right, 1 below, 2 left, 3 above -/
def nx (R : rm) (q way : Nat) : Option Nat := if way = 0 then (if q % r_w R + 1 < r_w R then some (q + 1) else none) else if way = 1 then (if q + r_w R < r_n R then some (q + r_w R) else none) else if way = 2 then (if 0 < q % r_w R then some (q - 1) else none) else (if r_w R ≤ q then some (q - r_w R) else none)
/-- the first curtain between u and v -/
def bw (R : rm) (u v : Nat) : Nat → Option Nat
  | 0 => none
  | k + 1 => match bw R u v k with
    | some c => some c
    | none => if r_nr R k = u ∧ r_fr R k = v then some k else none
def sd (R : rm) (q way : Nat) : Option Nat := match nx R q way with
  | none => none
  | some b => bw R (min q b) (max q b) (r_nc R)
theorem bw_some {R : rm} {u v c : Nat} : ∀ {k : Nat}, bw R u v k = some c → c < k ∧ r_nr R c = u ∧ r_fr R c = v
  | 0, h => by cases h
  | k + 1, h => by
    unfold bw at h
    cases e : bw R u v k with
    | some d =>
      rw [e] at h
      cases h
      have := bw_some e
      exact ⟨by omega, this.2⟩
    | none =>
      rw [e] at h
      by_cases q : r_nr R k = u ∧ r_fr R k = v
      · rw [if_pos q] at h; cases h; exact ⟨by omega, q⟩
      · rw [if_neg q] at h; cases h
theorem bw_none {R : rm} {u v c : Nat} : ∀ {k : Nat}, bw R u v k = none → c < k → ¬ (r_nr R c = u ∧ r_fr R c = v)
  | 0, _, h => absurd h (by omega)
  | k + 1, h, hc => by
    unfold bw at h
    cases e : bw R u v k with
    | some d => rw [e] at h; cases h
    | none =>
      rw [e] at h
      by_cases q : r_nr R k = u ∧ r_fr R k = v
      · rw [if_pos q] at h; cases h
      · by_cases e2 : c = k
        · rw [e2]; exact q
        · exact bw_none e (by omega)
def RR (S : mj_S) (R : rm) : Prop := (m_gi S 89 25 = nI (r_n R) ∧ m_gi S 89 26 = nI (r_nc R) ∧ m_gi S 89 27 = nI (r_np R)) ∧ (m_gi S 103 0 = nI (r_w R) ∧ m_gi S 103 1 = nI (r_h R) ∧ m_gi S 103 2 = nI (r_li R) ∧ m_gi S 103 3 = nI (r_mo R)) ∧ (∀ c, c < r_nc R → m_gi S 104 (6 * c) = nI (r_nr R c) ∧ m_gi S 104 (6 * c + 1) = nI (r_rl R c) ∧ m_gi S 104 (6 * c + 2) = nI (r_ve R c) ∧ m_gi S 104 (6 * c + 4) = nI (r_gp R c)) ∧ (∀ p, p < r_np R → m_gi S 105 (2 * p + 1) = nI (r_mi R p)) ∧ ∀ q way, q < r_n R → way < 4 → m_gi S 108 (4 * q + way) = oI (nx R q way) ∧ m_gi S 109 (4 * q + way) = oI (sd R q way)
def RS (S : mj_S) (R : rm) (s : sc) : Prop := (∀ c, c < r_nc R → m_gi S 106 c = nI (s_cl s c)) ∧ m_gi S 106 10 = s_bk s ∧ (∀ p, p < r_np R → m_gi S 106 (11 + p) = nI (s_pl s p)) ∧ m_gi S 106 17 = nI (s_yr s)
def RI (L : Nat) (S : mj_S) (R : rm) (s : sc) : Prop := Sh L S ∧ r_wf R ∧ s_wf R s ∧ RR S R ∧ RS S R s
/-- which of n is meant -/
def ixn (n : Nat) (x : Int32) : Option Nat := if 0 ≤ x.toInt ∧ x.toInt < n then some x.toInt.toNat else none
theorem ixn_some {n q : Nat} {x : Int32} (hn : n < 2 ^ 31) (h : ixn n x = some q) : q < n ∧ x = nI q := by
  unfold ixn at h
  by_cases e : 0 ≤ x.toInt ∧ x.toInt < n
  · rw [if_pos e] at h
    cases h
    refine ⟨by omega, ?_⟩
    apply Int32.toInt_inj.mp
    rw [nI_toInt (by omega)]; omega
  · rw [if_neg e] at h; cases h
theorem ixn_nI {n q : Nat} (hn : n < 2 ^ 31) (h : q < n) : ixn n (nI q) = some q := by
  unfold ixn
  rw [nI_toInt (by omega), if_pos (by omega)]
  simp
theorem ixn_none {n : Nat} {x : Int32} (hn : n < 2 ^ 31) (h : ixn n x = none) : x < 0 ∨ nI n ≤ x := by
  unfold ixn at h
  by_cases e : 0 ≤ x.toInt ∧ x.toInt < n
  · rw [if_pos e] at h; cases h
  · rw [Int32.lt_iff_toInt_lt, Int32.le_iff_toInt_le, nI_toInt (by omega)]
    have : (0 : Int32).toInt = 0 := by decide
    rw [this]; omega
theorem ixn_neg {n : Nat} {x : Int32} (h : x < 0) : ixn n x = none := by
  unfold ixn
  rw [Int32.lt_iff_toInt_lt] at h
  have : (0 : Int32).toInt = 0 := by decide
  exact if_neg (by omega)
theorem ixn_big {n : Nat} {x : Int32} (hn : n < 2 ^ 31) (h : nI n ≤ x) : ixn n x = none := by
  unfold ixn
  rw [Int32.le_iff_toInt_le, nI_toInt (by omega)] at h
  exact if_neg (by omega)
theorem ixn_mid {n : Nat} {x : Int32} (hn : n < 2 ^ 31) (h1 : ¬ x < 0) (h2 : ¬ nI n ≤ x) : ∃ q, ixn n x = some q ∧ q < n ∧ x = nI q := by
  cases e : ixn n x with
  | none => rcases ixn_none hn e with z | z <;> contradiction
  | some q => exact ⟨q, rfl, ixn_some hn e⟩
section RF
variable {l : Launch} {G : mj_G} {L : Nat} {R : rm} {s : sc} {S S' : mj_S}
theorem RI.sh (h : RI L S R s) : Sh L S := h.1
theorem RI.rw (h : RI L S R s) : r_wf R := h.2.1
theorem RI.sw (h : RI L S R s) : s_wf R s := h.2.2.1
theorem RI.rr (h : RI L S R s) : RR S R := h.2.2.2.1
theorem RI.rs (h : RI L S R s) : RS S R s := h.2.2.2.2
theorem RR.n (h : RR S R) : m_gi S 89 25 = nI (r_n R) := h.1.1
theorem RR.nc (h : RR S R) : m_gi S 89 26 = nI (r_nc R) := h.1.2.1
theorem RR.np (h : RR S R) : m_gi S 89 27 = nI (r_np R) := h.1.2.2
theorem RR.w (h : RR S R) : m_gi S 103 0 = nI (r_w R) := h.2.1.1
theorem RR.h (h : RR S R) : m_gi S 103 1 = nI (r_h R) := h.2.1.2.1
theorem RR.li (h : RR S R) : m_gi S 103 2 = nI (r_li R) := h.2.1.2.2.1
theorem RR.mo (h : RR S R) : m_gi S 103 3 = nI (r_mo R) := h.2.1.2.2.2
theorem RR.nr (h : RR S R) {c : Nat} (hc : c < r_nc R) : m_gi S 104 (6 * c) = nI (r_nr R c) := (h.2.2.1 c hc).1
theorem RR.rl (h : RR S R) {c : Nat} (hc : c < r_nc R) : m_gi S 104 (6 * c + 1) = nI (r_rl R c) := (h.2.2.1 c hc).2.1
theorem RR.ve (h : RR S R) {c : Nat} (hc : c < r_nc R) : m_gi S 104 (6 * c + 2) = nI (r_ve R c) := (h.2.2.1 c hc).2.2.1
theorem RR.gp (h : RR S R) {c : Nat} (hc : c < r_nc R) : m_gi S 104 (6 * c + 4) = nI (r_gp R c) := (h.2.2.1 c hc).2.2.2
theorem RR.mi (h : RR S R) {p : Nat} (hp : p < r_np R) : m_gi S 105 (2 * p + 1) = nI (r_mi R p) := h.2.2.2.1 p hp
theorem RR.nx (h : RR S R) {q way : Nat} (hq : q < r_n R) (hw : way < 4) : m_gi S 108 (4 * q + way) = oI (nx R q way) := (h.2.2.2.2 q way hq hw).1
theorem RR.sd (h : RR S R) {q way : Nat} (hq : q < r_n R) (hw : way < 4) : m_gi S 109 (4 * q + way) = oI (sd R q way) := (h.2.2.2.2 q way hq hw).2
theorem RS.cl (h : RS S R s) {c : Nat} (hc : c < r_nc R) : m_gi S 106 c = nI (s_cl s c) := h.1 c hc
theorem RS.bk (h : RS S R s) : m_gi S 106 10 = s_bk s := h.2.1
theorem RS.pl (h : RS S R s) {p : Nat} (hp : p < r_np R) : m_gi S 106 (11 + p) = nI (s_pl s p) := h.2.2.1 p hp
theorem RS.yr (h : RS S R s) : m_gi S 106 17 = nI (s_yr s) := h.2.2.2
theorem RR.keep (h : RR S R) (k0 : ∀ j, 25 ≤ j → j ≤ 27 → m_gi S' 89 j = m_gi S 89 j) (k : ∀ a j, 103 ≤ a → a ≤ 109 → a ≠ 106 → m_gi S' a j = m_gi S a j) : RR S' R := by
  refine ⟨⟨(k0 _ (by omega) (by omega)).trans h.n, (k0 _ (by omega) (by omega)).trans h.nc, (k0 _ (by omega) (by omega)).trans h.np⟩, ⟨(k _ _ (by omega) (by omega) (by omega)).trans h.w, (k _ _ (by omega) (by omega) (by omega)).trans h.h, (k _ _ (by omega) (by omega) (by omega)).trans h.li, (k _ _ (by omega) (by omega) (by omega)).trans h.mo⟩, fun c hc => ⟨(k _ _ (by omega) (by omega) (by omega)).trans (h.nr hc), (k _ _ (by omega) (by omega) (by omega)).trans (h.rl hc), (k _ _ (by omega) (by omega) (by omega)).trans (h.ve hc), (k _ _ (by omega) (by omega) (by omega)).trans (h.gp hc)⟩, fun p hp => (k _ _ (by omega) (by omega) (by omega)).trans (h.mi hp), fun q way hq hw => ⟨(k _ _ (by omega) (by omega) (by omega)).trans (h.nx hq hw), (k _ _ (by omega) (by omega) (by omega)).trans (h.sd hq hw)⟩⟩
theorem RS.keep (h : RS S R s) (k : ∀ j, m_gi S' 106 j = m_gi S 106 j) : RS S' R s := ⟨fun c hc => (k _).trans (h.cl hc), (k _).trans h.bk, fun p hp => (k _).trans (h.pl hp), (k _).trans h.yr⟩
theorem RI.fr (h : RI L S R s) (f : fr DR S S') : RI L S' R s := by
  have hD : ∀ a j, 103 ≤ a → a ≤ 109 → DR a j = false := by
    intro a j h1 h2
    unfold DR
    have e1 : Nat.ble a 99 = false := by rw [← Bool.not_eq_true, Nat.ble_eq]; omega
    have e2 : Nat.ble 110 a = false := by rw [← Bool.not_eq_true, Nat.ble_eq]; omega
    have e3 : Nat.ble 113 a = false := by rw [← Bool.not_eq_true, Nat.ble_eq]; omega
    rw [e1, e2, e3]; simp
  exact ⟨h.sh.fr f, h.rw, h.sw, h.rr.keep (fun j _ _ => f.i _ _ rfl) (fun a j h1 h2 _ => f.i _ _ (hD a j h1 h2)), h.rs.keep (fun j => f.i _ _ rfl)⟩
theorem s_rhas {b : Int32} {c : Nat} {Q : mj_S → Int32 → Prop} (hc : c < 32) (h1 : bt b c = true → Q S 1) (h0 : bt b c = false → Q S 0) : M_X11_has l G b (nI c) S Q := by
  refine e_X11_has (b_X11_has_0 ⟨fun q => ?_, fun q => ?_⟩)
  · exact h0 (bf (fun z => q ((b_test1 b hc).mpr z)))
  · exact h1 ((b_test1 b hc).mp q)
theorem s_rin {a b c : Int32} {Q : mj_S → Int32 → Prop} (h1 : ¬ a < b → ¬ c < a → Q S 1) (h0 : a < b ∨ c < a → Q S 0) : M_X11_in l G a b c S Q := by
  exact e_X11_in (b_X11_in_0 ⟨fun q => h0 (Or.inl q), fun q => ⟨fun q2 => h0 (Or.inr q2), fun q2 => h1 q q2⟩⟩)
/-- in(x, 0, n - 1) -/
theorem s_rinN {x : Int32} {n : Nat} {Q : mj_S → Int32 → Prop} (hn : n < 2 ^ 31) (h1 : ∀ q, ixn n x = some q → Q S 1) (h0 : ixn n x = none → Q S 0) : M_X11_in l G x 0 (nI n - 1) S Q := by
  have e : (nI n - 1).toInt = n - 1 := by
    cases n with
    | zero => decide
    | succ n => rw [nI_pred, nI_toInt (by omega)]; omega
  refine s_rin (fun q1 q2 => ?_) (fun q => h0 ?_)
  · rw [Int32.lt_iff_toInt_lt] at q1 q2
    have z : (0 : Int32).toInt = 0 := by decide
    rw [z] at q1; rw [e] at q2
    exact h1 _ (if_pos (by omega))
  · rw [Int32.lt_iff_toInt_lt, Int32.lt_iff_toInt_lt] at q
    have z : (0 : Int32).toInt = 0 := by decide
    rw [z, e] at q
    exact if_neg (by omega)
theorem s_risSquare {x : Int32} {Q : mj_S → Int32 → Prop} (C : RI L S R s) (h1 : ∀ q, ixn (r_n R) x = some q → Q S 1) (h0 : ixn (r_n R) x = none → Q S 0) : M_X11_isSquare l G 89 x S Q := by
  refine e_X11_isSquare (b_X11_isSquare_0 C.sh.k89 ?_)
  rw [C.rr.n]
  have := C.rw.n
  exact s_rinN (by omega) h1 h0
theorem s_risCurtain {x : Int32} {Q : mj_S → Int32 → Prop} (C : RI L S R s) (h1 : ∀ q, ixn (r_nc R) x = some q → Q S 1) (h0 : ixn (r_nc R) x = none → Q S 0) : M_X11_isCurtain l G 89 x S Q := by
  refine e_X11_isCurtain (b_X11_isCurtain_0 C.sh.k89 ?_)
  rw [C.rr.nc]
  have := C.rw.nc
  exact s_rinN (by omega) h1 h0
theorem s_risPerson {x : Int32} {Q : mj_S → Int32 → Prop} (C : RI L S R s) (h1 : ∀ q, ixn (r_np R) x = some q → Q S 1) (h0 : ixn (r_np R) x = none → Q S 0) : M_X11_isPerson l G 89 x S Q := by
  refine e_X11_isPerson (b_X11_isPerson_0 C.sh.k89 ?_)
  rw [C.rr.np]
  have := C.rw.np
  exact s_rinN (by omega) h1 h0
theorem s_of {c k : Nat} {Q : mj_S → Int32 → Prop} (C : RI L S R s) (hc : c < r_nc R) (hk : k < 6) (h : Q S (m_gi S 104 (6 * c + k))) : M_X11_of l G 89 (nI c) (nI k) S Q := by
  have nc := C.rw.nc
  refine e_X11_of (b_X11_of_0 C.sh.k89 ⟨104, C.sh.p89_23, ?_, ?_⟩)
  · rw [ix6, C.sh.l104]; exact vp_nI (by omega) (by omega)
  · rw [ix6, nI_clamp (by omega)]; exact h
theorem s_firstSide {c : Nat} {Q : mj_S → Int32 → Prop} (C : RI L S R s) (hc : c < r_nc R) (h : Q S (nI (r_nr R c))) : M_X11_firstSide l G 89 (nI c) S Q := by
  refine e_X11_firstSide (b_X11_firstSide_0 C.sh.k89 (s_of (k := 0) C hc (by omega) ?_))
  rw [Nat.add_zero, C.rr.nr hc]; exact h
theorem s_secondSide {c : Nat} {Q : mj_S → Int32 → Prop} (C : RI L S R s) (hc : c < r_nc R) (h : Q S (nI (r_fr R c))) : M_X11_secondSide l G 89 (nI c) S Q := by
  refine e_X11_secondSide (b_X11_secondSide_0 C.sh.k89 (s_of (k := 0) C hc (by omega) (s_of (k := 1) C hc (by omega) ?_)))
  have e0 : m_gi S 104 (6 * c + 0) = nI (r_nr R c) := C.rr.nr hc
  rw [e0, C.rr.rl hc]
  unfold r_fr at h
  refine ⟨fun q => ⟨103, C.sh.p89_22, by rw [C.sh.l103]; exact vp_nI (p := 0) (by omega) (by omega), ?_⟩, fun q => ?_⟩
  · rw [show (0 : Int32).toNatClampNeg = 0 by decide, C.rr.w, nI_add]
    rw [if_neg (fun z => q (by rw [z]; rfl))] at h; exact h
  · rw [nI_1]
    rw [if_pos (show r_rl R c = 0 by rcases C.rw.rl hc with z | z; exact z.1; rw [z.1] at q; exact absurd q (by decide))] at h; exact h
theorem s_isAt {c q : Nat} {Q : mj_S → Int32 → Prop} (C : RI L S R s) (hc : c < r_nc R) (hq : q < r_n R) (h1 : r_nr R c = q ∨ r_fr R c = q → Q S 1) (h0 : ¬ (r_nr R c = q ∨ r_fr R c = q) → Q S 0) : M_X11_isAt l G 89 (nI c) (nI q) S Q := by
  have hn := C.rw.n
  have := C.rw.nr hc
  have := C.rw.fr hc
  refine e_X11_isAt (b_X11_isAt_0 C.sh.k89 (s_firstSide C hc ⟨fun e => h1 (Or.inl ((nI_eq (by omega) (by omega)).mp e)), fun e => s_secondSide C hc ⟨fun e2 => h0 (fun z => ?_), fun e2 => h1 (Or.inr ((nI_eq (by omega) (by omega)).mp e2))⟩⟩))
  rcases z with z | z
  · exact e (by rw [z])
  · exact e2 (by rw [z])
theorem s_isFallen {c : Nat} {Q : mj_S → Int32 → Prop} (C : RI L S R s) (hc : c < r_nc R) (h1 : s_cl s c = 0 → Q S 1) (h0 : ¬ s_cl s c = 0 → Q S 0) : M_X11_isFallen l G 89 (nI c) S Q := by
  have nc := C.rw.nc
  have cl := C.sw.cl hc
  refine e_X11_isFallen (b_X11_isFallen_0 C.sh.k89 ⟨106, C.sh.p89_28, by rw [ix0, C.sh.l106]; exact vp_nI (by omega) (by omega), ?_⟩)
  rw [ix0, nI_clamp (by omega), C.rs.cl hc]
  exact ⟨fun q => h0 (fun z => q (by rw [z]; rfl)), fun q => h1 ((nI_eq (by omega) (by omega)).mp (q.trans nI_0.symm))⟩
theorem s_hangs {c : Nat} {Q : mj_S → Int32 → Prop} (C : RI L S R s) (hc : c < r_nc R) (h1 : bt (hg R s) c = true → Q S 1) (h0 : bt (hg R s) c = false → Q S 0) : M_X11_hangs l G 89 (nI c) S Q := by
  have nc := C.rw.nc
  have hh : bt (hg R s) c = (!bt (s_bk s) c && !decide (s_cl s c = 0)) := by
    unfold hg; rw [b_bs _ _ (by omega)]; simp [hc]
  rw [hh] at h1 h0
  refine e_X11_hangs (b_X11_hangs_0 C.sh.k89 (s_risCurtain C (fun q _ => ⟨fun z => absurd z (by decide), fun _ => s_isFallen C hc (fun z => ⟨fun _ => h0 (by simp [z]), fun q => absurd q (by decide)⟩) (fun z => ⟨fun q => absurd rfl q, fun _ => ⟨106, C.sh.p89_28, by rw [C.sh.l106]; exact vp_nI (p := 10) (by omega) (by omega), ?_⟩⟩)⟩) (fun e => by rw [ixn_nI (by omega) hc] at e; cases e)))
  rw [show (10 : Int32).toNatClampNeg = 10 by decide, C.rs.bk]
  exact s_rhas (by omega) (fun q => ⟨fun _ => h0 (by simp [q]), fun z => absurd z (by decide)⟩) (fun q => ⟨fun z => absurd rfl z, fun _ => h1 (by simp [q, z])⟩)
theorem s_hanging {Q : mj_S → Int32 → Prop} (C : RI L S R s) (h : Q S (hg R s)) : M_X11_hanging l G 89 S Q := by
  have nc := C.rw.nc
  refine e_X11_hanging (b_X11_hanging_0 C.sh.k89 ?_)
  refine dn (P := fun c => V_X11_hanging_4 l G 89 (bs c fun c => !bt (s_bk s) c && !decide (s_cl s c = 0)) (nI c) S Q) (r_nc R) ?_ ?_
  · refine b_X11_hanging_4 C.sh.k89 ⟨fun _ => h, fun q => absurd ?_ q⟩
    rw [C.rr.nc]; exact nI_le (Nat.le_refl _) (by omega)
  · intro c hc ih
    have hh : bt (hg R s) c = (!bt (s_bk s) c && !decide (s_cl s c = 0)) := by
      unfold hg; rw [b_bs _ _ (by omega)]; simp [hc]
    refine b_X11_hanging_4 C.sh.k89 ⟨fun q => absurd q (by rw [C.rr.nc]; exact nI_ge hc (by omega)), fun _ => s_hangs C hc (fun hb => ⟨fun z => absurd z (by decide), fun _ v ev w ew => ?_⟩) (fun hb => ⟨fun _ v ev w ew => ?_, fun z => absurd rfl z⟩)⟩
    · rw [hh] at hb
      rw [bs_s1 hb] at ih
      rw [ew, ev, nI_1]; exact ih
    · rw [hh] at hb
      rw [bs_s0' (by rw [hb]; decide)] at ih
      rw [ew, ev, nI_1]; exact ih
theorem s_rfallen {Q : mj_S → Int32 → Prop} (C : RI L S R s) (h : Q S (fa R s)) : M_X11_fallen l G 89 S Q := by
  have nc := C.rw.nc
  refine e_X11_fallen (b_X11_fallen_0 C.sh.k89 ?_)
  refine dn (P := fun c => V_X11_fallen_4 l G 89 (bs c fun c => decide (s_cl s c = 0)) (nI c) S Q) (r_nc R) ?_ ?_
  · refine b_X11_fallen_4 C.sh.k89 ⟨fun _ => h, fun q => absurd ?_ q⟩
    rw [C.rr.nc]; exact nI_le (Nat.le_refl _) (by omega)
  · intro c hc ih
    refine b_X11_fallen_4 C.sh.k89 ⟨fun q => absurd q (by rw [C.rr.nc]; exact nI_ge hc (by omega)), fun _ => s_isFallen C hc (fun hb => ⟨fun z => absurd z (by decide), fun _ v ev w ew => ?_⟩) (fun hb => ⟨fun _ v ev w ew => ?_, fun z => absurd rfl z⟩)⟩
    · rw [bs_s1 (decide_eq_true hb)] at ih
      rw [ew, ev, nI_1]; exact ih
    · rw [bs_s0' (by rw [decide_eq_false hb]; decide)] at ih
      rw [ew, ev, nI_1]; exact ih
end RF
/-! what the reference's tables join is what the class's bits join -/
section JE
variable {R : rm}
def rE (R : rm) (H : Int32) (a b : Nat) : Prop := ∃ way, way < 4 ∧ nx R a way = some b ∧ ¬ ∃ c, sd R a way = some c ∧ bt H c = true
theorem nx_lt (hR : r_wf R) {a b way : Nat} (ha : a < r_n R) (h : nx R a way = some b) : b < r_n R := by
  unfold nx at h
  by_cases h0 : way = 0
  · rw [if_pos h0] at h
    by_cases q : a % r_w R + 1 < r_w R
    · rw [if_pos q] at h; cases h; exact r_right ha q
    · rw [if_neg q] at h; cases h
  · rw [if_neg h0] at h
    by_cases h1 : way = 1
    · rw [if_pos h1] at h
      by_cases q : a + r_w R < r_n R
      · rw [if_pos q] at h; cases h; exact q
      · rw [if_neg q] at h; cases h
    · rw [if_neg h1] at h
      by_cases h2 : way = 2
      · rw [if_pos h2] at h
        by_cases q : 0 < a % r_w R
        · rw [if_pos q] at h; cases h; omega
        · rw [if_neg q] at h; cases h
      · rw [if_neg h2] at h
        by_cases q : r_w R ≤ a
        · rw [if_pos q] at h; cases h; omega
        · rw [if_neg q] at h; cases h
theorem r_left {w b : Nat} (h : b % w + 1 < w) : (b + 1) % w = b % w + 1 := by
  rw [Nat.add_mod, Nat.mod_eq_of_lt (show 1 < w by omega), Nat.mod_eq_of_lt h]
theorem r_left' {w a : Nat} (h : 0 < a % w) : (a - 1) % w + 1 = a % w := by
  have h1 := Nat.div_add_mod a w
  rcases Nat.eq_zero_or_pos w with q | hw
  · subst q; simp only [Nat.mod_zero] at h ⊢; omega
  have h2 := Nat.mod_lt a hw
  have : a - 1 = w * (a / w) + (a % w - 1) := by omega
  rw [this, Nat.mul_add_mod, Nat.mod_eq_of_lt (by omega)]; omega
/-- a curtain between a and its right neighbour has rail 0, and so on -/
theorem rl_of (hR : r_wf R) {c : Nat} (hc : c < r_nc R) : (r_fr R c = r_nr R c + 1 ∧ r_nr R c % r_w R + 1 < r_w R ↔ r_rl R c = 0) ∧ (r_fr R c = r_nr R c + r_w R ↔ r_rl R c = 1) := by
  unfold r_fr
  rcases hR.rl hc with q | q
  · rw [if_pos q.1]; constructor
    · exact ⟨fun _ => q.1, fun _ => ⟨rfl, q.2⟩⟩
    · constructor
      · intro e; omega
      · intro e; omega
  · rw [if_neg (by omega)]
    constructor
    · constructor
      · intro e; omega
      · intro e; omega
    · exact ⟨fun _ => q.1, fun _ => rfl⟩
theorem pr_b (hR : r_wf R) {H : Int32} {a : Nat} : bt (pr R H (r_nc R)) a = true ↔ a < r_n R ∧ a % r_w R + 1 < r_w R ∧ ¬ ∃ c, c < r_nc R ∧ bt H c = true ∧ r_nr R c = a ∧ r_fr R c = a + 1 := by
  have hn := hR.n
  unfold pr
  rw [b_bs _ _ (by omega)]
  simp only [Bool.and_eq_true, decide_eq_true_iff, Bool.not_eq_true', ← Bool.not_eq_true]
  rw [bk_true]
  refine and_congr_right fun _ => and_congr_right fun h2 => not_congr ?_
  constructor
  · rintro ⟨c, h3, h4, h5, h6⟩
    exact ⟨c, h3, h4, h6, by rw [← h6]; exact ((rl_of hR h3).1.mpr h5).1⟩
  · rintro ⟨c, h3, h4, h5, h6⟩
    exact ⟨c, h3, h4, (rl_of hR h3).1.mp ⟨by rw [h5]; exact h6, by rw [h5]; exact h2⟩, h5⟩
theorem pb_b (hR : r_wf R) {H : Int32} {a : Nat} : bt (pb R H (r_nc R)) a = true ↔ a + r_w R < r_n R ∧ ¬ ∃ c, c < r_nc R ∧ bt H c = true ∧ r_nr R c = a ∧ r_fr R c = a + r_w R := by
  have hn := hR.n
  unfold pb
  rw [b_bs _ _ (by omega)]
  simp only [Bool.and_eq_true, decide_eq_true_iff, Bool.not_eq_true', ← Bool.not_eq_true]
  rw [bk_true]
  constructor
  · rintro ⟨_, h2, h3⟩
    refine ⟨h2, fun ⟨c, q1, q2, q3, q4⟩ => h3 ⟨c, q1, q2, (rl_of hR q1).2.mp (by rw [q3]; exact q4), q3⟩⟩
  · rintro ⟨h2, h3⟩
    exact ⟨by omega, h2, fun ⟨c, q1, q2, q3, q4⟩ => h3 ⟨c, q1, q2, q4, by rw [← q4]; exact (rl_of hR q1).2.mpr q3⟩⟩
/-- two curtains between the same squares are one -/
theorem bw_uni (hR : r_wf R) {c d : Nat} (hc : c < r_nc R) (hd : d < r_nc R) (h1 : r_nr R c = r_nr R d) (h2 : r_fr R c = r_fr R d) : c = d := by
  refine hR.ne hc hd h1 ?_
  have a1 := hR.rl hc
  have a2 := hR.rl hd
  have b1 := (rl_of hR hc).2
  have b2 := (rl_of hR hd).2
  rcases a1 with q1 | q1 <;> rcases a2 with q2 | q2
  · omega
  · exact absurd (b1.mp (by rw [h2, h1]; exact b2.mpr q2.1)) (by omega)
  · exact absurd (b2.mp (by rw [← h2, ← h1]; exact b1.mpr q1.1)) (by omega)
  · omega
theorem sd_hung (hR : r_wf R) {H : Int32} {u v : Nat} : (∃ c, bw R u v (r_nc R) = some c ∧ bt H c = true) ↔ ∃ c, c < r_nc R ∧ bt H c = true ∧ r_nr R c = u ∧ r_fr R c = v := by
  constructor
  · rintro ⟨c, h1, h2⟩
    have := bw_some h1
    exact ⟨c, this.1, h2, this.2⟩
  · rintro ⟨c, h1, h2, h3, h4⟩
    cases e : bw R u v (r_nc R) with
    | none => exact absurd ⟨h3, h4⟩ (bw_none e h1)
    | some d =>
      have q := bw_some e
      have : d = c := bw_uni hR q.1 h1 (by rw [q.2.1, h3]) (by rw [q.2.2, h4])
      exact ⟨d, rfl, by rw [this]; exact h2⟩
theorem sd_of {a b way : Nat} (h : nx R a way = some b) : sd R a way = bw R (min a b) (max a b) (r_nc R) := by unfold sd; rw [h]
theorem rE_jE (hR : r_wf R) (H : Int32) {a b : Nat} (ha : a < r_n R) : rE R H a b ↔ jE R H a b := by
  unfold jE cp_E
  constructor
  · rintro ⟨way, hw, h1, h2⟩
    rw [sd_of h1, sd_hung hR] at h2
    unfold nx at h1
    by_cases h0 : way = 0
    · rw [if_pos h0] at h1
      by_cases q : a % r_w R + 1 < r_w R
      · rw [if_pos q] at h1; cases h1
        rw [Nat.min_eq_left (by omega), Nat.max_eq_right (by omega)] at h2
        exact Or.inl ⟨rfl, (pr_b hR).mpr ⟨ha, q, h2⟩⟩
      · rw [if_neg q] at h1; cases h1
    · rw [if_neg h0] at h1
      by_cases h01 : way = 1
      · rw [if_pos h01] at h1
        by_cases q : a + r_w R < r_n R
        · rw [if_pos q] at h1; cases h1
          rw [Nat.min_eq_left (by omega), Nat.max_eq_right (by omega)] at h2
          exact Or.inr (Or.inr (Or.inl ⟨rfl, (pb_b hR).mpr ⟨q, h2⟩⟩))
        · rw [if_neg q] at h1; cases h1
      · rw [if_neg h01] at h1
        by_cases h02 : way = 2
        · rw [if_pos h02] at h1
          by_cases q : 0 < a % r_w R
          · rw [if_pos q] at h1; cases h1
            have h0a : 0 < a := by
              rcases Nat.eq_zero_or_pos a with z | z
              · rw [z] at q; simp at q
              · exact z
            rw [Nat.min_eq_right (by omega), Nat.max_eq_left (by omega)] at h2
            have hl := r_left' q
            have hw0 : 0 < r_w R := by
              rcases Nat.eq_zero_or_pos (r_w R) with z | z
              · unfold r_n at ha; rw [z] at ha; simp at ha
              · exact z
            have := Nat.mod_lt a hw0
            exact Or.inr (Or.inl ⟨by omega, (pr_b hR).mpr ⟨by omega, by omega, fun ⟨c, q1, q2, q3, q4⟩ => h2 ⟨c, q1, q2, q3, by omega⟩⟩⟩)
          · rw [if_neg q] at h1; cases h1
        · rw [if_neg h02] at h1
          by_cases q : r_w R ≤ a
          · rw [if_pos q] at h1; cases h1
            rw [Nat.min_eq_right (by omega), Nat.max_eq_left (by omega)] at h2
            exact Or.inr (Or.inr (Or.inr ⟨by omega, (pb_b hR).mpr ⟨by omega, fun ⟨c, q1, q2, q3, q4⟩ => h2 ⟨c, q1, q2, q3, by omega⟩⟩⟩))
          · rw [if_neg q] at h1; cases h1
  · rintro (⟨e, h⟩ | ⟨e, h⟩ | ⟨e, h⟩ | ⟨e, h⟩)
    · obtain ⟨_, h2, h3⟩ := (pr_b hR).mp h
      have hx : nx R a 0 = some b := by unfold nx; rw [if_pos rfl, if_pos h2, e]
      refine ⟨0, by omega, hx, ?_⟩
      rw [sd_of hx, sd_hung hR, e, Nat.min_eq_left (by omega), Nat.max_eq_right (by omega)]; exact h3
    · obtain ⟨_, h2, h3⟩ := (pr_b hR).mp h
      have hx : nx R a 2 = some b := by
        unfold nx
        rw [if_neg (by omega), if_neg (by omega), if_pos rfl, e, r_left h2, if_pos (by omega)]; simp
      refine ⟨2, by omega, hx, ?_⟩
      rw [sd_of hx, sd_hung hR, e, Nat.min_eq_right (by omega), Nat.max_eq_left (by omega)]; exact h3
    · obtain ⟨h2, h3⟩ := (pb_b hR).mp h
      have hx : nx R a 1 = some b := by unfold nx; rw [if_neg (by omega), if_pos rfl, if_pos h2, e]
      refine ⟨1, by omega, hx, ?_⟩
      rw [sd_of hx, sd_hung hR, e, Nat.min_eq_left (by omega), Nat.max_eq_right (by omega)]; exact h3
    · obtain ⟨h2, h3⟩ := (pb_b hR).mp h
      have hx : nx R a 3 = some b := by
        unfold nx
        rw [if_neg (by omega), if_neg (by omega), if_neg (by omega), if_pos (by omega)]
        congr 1; omega
      refine ⟨3, by omega, hx, ?_⟩
      rw [sd_of hx, sd_hung hR, e, Nat.min_eq_right (by omega), Nat.max_eq_left (by omega)]; exact h3
end JE
