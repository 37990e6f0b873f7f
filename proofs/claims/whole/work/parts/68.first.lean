/-! which falls first, cloth for so many years -/
def fq (D E : Nat → Nat → Bool) (S S' : mj_S) : Prop := S'.1 = S.1 ∧ (∀ a j, D a j = false → m_gi S' a j = m_gi S a j) ∧ (∀ a j, m_gl S' a j = m_gl S a j) ∧ ∀ a j, E a j = false → m_gp S' a j = m_gp S a j
theorem fq.tr {D E : Nat → Nat → Bool} {S S' S'' : mj_S} (h1 : fq D E S S') (h2 : fq D E S' S'') : fq D E S S'' := ⟨h2.1.trans h1.1, fun a j h => (h2.2.1 a j h).trans (h1.2.1 a j h), fun a j => (h2.2.2.1 a j).trans (h1.2.2.1 a j), fun a j h => (h2.2.2.2 a j h).trans (h1.2.2.2 a j h)⟩
theorem fr.fq {D D' E : Nat → Nat → Bool} {S S' : mj_S} (h : fr D S S') (hD : ∀ a j, D' a j = false → D a j = false) : fq D' E S S' := ⟨h.1, fun a j q => h.2.1 a j (hD a j q), h.2.2.1, fun a j _ => h.2.2.2 a j⟩
/-- the trial scene's cells, and the scratch -/
def DT (a j : Nat) : Bool := DC a j || (Nat.beq a 62 || (Nat.ble 72 a && Nat.ble a 73))
def ET (a j : Nat) : Bool := Nat.beq a 62 && Nat.beq j 0
theorem DT_f {a j : Nat} (h : DT a j = false) : DC a j = false ∧ a ≠ 62 ∧ a ≠ 72 ∧ a ≠ 73 := by
  unfold DT at h
  rw [Bool.or_eq_false_iff, Bool.or_eq_false_iff] at h
  refine ⟨h.1, ?_⟩
  have h2 := h.2.1
  have h3 := h.2.2
  rw [← Bool.not_eq_true, Nat.beq_eq] at h2
  rw [← Bool.not_eq_true, Bool.and_eq_true, Nat.ble_eq, Nat.ble_eq] at h3
  omega
theorem DC_DT {S S' : mj_S} (f : fr DC S S') : fq DT ET S S' := f.fq (fun a j h => (DT_f h).1)
theorem DS_DT {S S' : mj_S} (f : fr (DS 62) S S') : fq DT ET S S' := f.fq (fun a j h => DS_no (DT_f h).2.2.1 (Or.inl (DT_f h).2.1))
/-- the laws' cells are as they were -/
def lawz (S S' : mj_S) : Prop := S'.1 = S.1 ∧ ∀ a j, 23 ≤ a → a ≤ 29 → ¬ (a = 23 ∧ j = 6) → m_gi S' a j = m_gi S a j
theorem lawz.rf {S : mj_S} : lawz S S := ⟨rfl, fun _ _ _ _ _ => rfl⟩
theorem lawz.tr {S S' S'' : mj_S} (h1 : lawz S S') (h2 : lawz S' S'') : lawz S S'' := ⟨h2.1.trans h1.1, fun a j q1 q2 q3 => (h2.2 a j q1 q2 q3).trans (h1.2 a j q1 q2 q3)⟩
theorem DC_law {a j : Nat} (h1 : 23 ≤ a) (h2 : a ≤ 29) (h3 : ¬ (a = 23 ∧ j = 6)) : DC a j = false := by
  unfold DC
  have e1 : Nat.ble 79 a = false := by rw [← Bool.not_eq_true, Nat.ble_eq]; omega
  have e2 : Nat.ble 30 a = false := by rw [← Bool.not_eq_true, Nat.ble_eq]; omega
  have e3 : (Nat.beq a 23 && Nat.beq j 6) = false := by rw [← Bool.not_eq_true, Bool.and_eq_true, Nat.beq_eq, Nat.beq_eq]; exact h3
  rw [e1, e2, e3]; rfl
theorem DT_law {a j : Nat} (h1 : 23 ≤ a) (h2 : a ≤ 29) (h3 : ¬ (a = 23 ∧ j = 6)) : DT a j = false := by
  unfold DT
  rw [DC_law h1 h2 h3]
  have e1 : Nat.beq a 62 = false := by rw [← Bool.not_eq_true, Nat.beq_eq]; omega
  have e2 : Nat.ble 72 a = false := by rw [← Bool.not_eq_true, Nat.ble_eq]; omega
  rw [e1, e2]; rfl
theorem fr.lawz {S S' : mj_S} (f : fr DC S S') : lawz S S' := ⟨f.1, fun a j h1 h2 h3 => f.i a j (DC_law h1 h2 h3)⟩
theorem fq.lawz {E : Nat → Nat → Bool} {S S' : mj_S} (f : fq DT E S S') : lawz S S' := ⟨f.1, fun a j h1 h2 h3 => f.2.1 a j (DT_law h1 h2 h3)⟩
def CK (l : Launch) (G : mj_G) (L : Nat) (S : mj_S) (R : rm) (tk : sc → Nat → Nat) : Prop := ∀ (S' : mj_S) (r x rs : Nat) (s : sc), lawz S S' → CI L S' r x rs R s → s_yr s ≤ 2000 → TKc l G S' x (r_nc R) (tk s)
def t_ok (R : rm) (tk : sc → Nat → Nat) : Prop := ∀ s c, c < r_nc R → tk s c ≤ 99
/-- the light of the scene -/
def lt0 (R : rm) (tk : sc → Nat → Nat) (s : sc) : Nat → Nat := lit R (hg R s) (tk s) 0 (r_li R)
def fst (R : rm) (tk : sc → Nat → Nat) : Nat → Nat → sc → Option (Int32 × Nat)
  | 0, _, _ => none
  | k + 1, n, s => if bs (r_nc R) (fel R s (lt0 R tk s)) = 0 then fst R tk k (n + 1) (wrn R s (lt0 R tk s)) else some (bs (r_nc R) (fel R s (lt0 R tk s)), n + 1)
def A_first (R : rm) (tk : sc → Nat → Nat) (s : sc) (x : Int32) : Int32 := if r_n R = 0 ∨ ixn 2 x = none then -1 else match fst R tk 200 0 s with
  | none => -1
  | some p => if x = 0 then nz p.1 else nI p.2
theorem hg_0 {R : rm} {s : sc} {f : Nat → Nat} (hR : r_wf R) (h : hg R s = 0) : bs (r_nc R) (fel R s f) = 0 ∧ hg R (wrn R s f) = 0 := by
  have nc := hR.nc
  have hb : ∀ c, bt (hg R s) c = false := fun c => by rw [h, b_0]
  constructor
  · apply b_ext
    intro i _
    rw [b_bs _ _ (by omega), b_0]
    unfold fel
    rw [hb]; simp
  · have : hg R (wrn R s f) = hg R s := by
      unfold hg
      refine bs_cong (fun c hc => ?_)
      have e1 : s_cl (wrn R s f) c = s_cl s c := if_neg (fun z => by rw [hb] at z; cases z.2)
      rw [e1]; rfl
    rw [this, h]
theorem fst_0 {R : rm} {tk : sc → Nat → Nat} (hR : r_wf R) : ∀ k n s, hg R s = 0 → fst R tk k n s = none
  | 0, _, _, _ => rfl
  | k + 1, n, s, h => by
    have := hg_0 (f := lt0 R tk s) hR h
    unfold fst
    rw [if_pos this.1]
    exact fst_0 hR k (n + 1) _ this.2
def wrs (R : rm) (tk : sc → Nat → Nat) : Nat → sc → sc
  | 0, s => s
  | k + 1, s => wrs R tk k (wrn R s (lt0 R tk s))
def A_cloth (R : rm) (tk : sc → Nat → Nat) (s : sc) (x : Int32) : Int32 := if r_n R = 0 ∨ x < 1 ∨ 60 < x then -1 else nI (clo s (r_nc R)) - nI (clo (wrs R tk x.toNatClampNeg s) (r_nc R))
theorem fel_in {R : rm} {s : sc} {f : Nat → Nat} (hR : r_wf R) : cp_in (bs (r_nc R) (fel R s f)) 20 := (bs_in _ (by have := hR.nc; omega)).mono (by have := hR.nc; omega)
section FC
variable {l : Launch} {G : mj_G} {L r rs : Nat} {R : rm} {s : sc} {S : mj_S} {tk : sc → Nat → Nat}
theorem CI.fT {S' : mj_S} (C : CI L S r 50 rs R s) (f : fq DT ET S S') : CI L S' r 50 rs R s := by
  have hS : Sh L S' := ⟨f.1.trans C.sh.1, fun y hy => by
    refine (f.2.2.2 _ _ ?_).trans (C.sh.2 y hy)
    have : ∀ y ∈ PT, ET y.1.1 y.1.2 = false := by decide
    exact this y hy⟩
  have hr : 32 ≤ r ∧ r ≤ 41 := by rcases C.hr with e | e <;> omega
  have hrs := C.sn.hrs
  have k : ∀ a j, 32 ≤ a → a ≤ 61 → m_gi S' a j = m_gi S a j := fun a j h1 h2 => f.2.1 a j (by
    unfold DT
    rw [DC_kz (by omega) (by omega)]
    have e1 : Nat.beq a 62 = false := by rw [← Bool.not_eq_true, Nat.beq_eq]; omega
    have e2 : Nat.ble 72 a = false := by rw [← Bool.not_eq_true, Nat.ble_eq]; omega
    rw [e1, e2]; rfl)
  refine ⟨hS, C.rw, C.sw, C.hr, C.hx, (f.2.2.2 6 5 rfl).trans C.p, C.rc.keep (fun a j q1 q2 => k a j (by omega) (by omega)), ⟨(f.2.2.2 50 0 rfl).trans C.sn.p, hrs, C.sn.rc.keep (fun a j q1 q2 => k a j ?_ ?_)⟩, fun c hc => (k _ _ (by omega) (by omega)).trans (C.sn.cl hc), (k _ _ (by omega) (by omega)).trans C.sn.bk, fun p hp => (k _ _ (by omega) (by omega)).trans (C.sn.pl hp), (k _ _ (by omega) (by omega)).trans C.sn.yr⟩
  all_goals rcases hrs with e | e | e <;> omega
theorem s_follow {Q : mj_S → Prop} (C : CI L S r 50 rs R s) (h : ∀ S', fq DT ET S S' → CI L S' r 62 rs R s → Q S') : M_X8_follow l G 62 50 S Q := by
  have nc := C.rw.nc
  have np := C.rw.np
  refine e_X8_follow (b_X8_follow_0 C.sh.k62 C.sh.k50 ⟨rs, C.sn.p, fun S2 e2 => ?_⟩)
  have g2 : fq DT ET S S2 := by
    rw [e2]
    refine ⟨rfl, fun _ _ _ => rfl, fun _ _ => rfl, fun a j h => ?_⟩
    rw [m_gp_sp, if_neg]
    rintro ⟨z1, z2⟩
    rw [z1, z2] at h
    exact absurd h (by decide)
  have D := C.fT g2
  refine ⟨60, D.sh.p50_1, 72, D.sh.p62_1, ⟨by decide, by decide, by decide, by rw [D.sh.l60]; decide, by rw [D.sh.l72]; decide⟩, fun S5 e5 => ?_⟩
  have g5 : fr (DZ 72 73) S2 S5 := by rw [e5]; exact fr.row (fun _ => rfl)
  have hD : ∀ a j, DT a j = false → DZ 72 73 a j = false := fun a j h => DZ_no (by have := DT_f h; omega)
  have E := D.fT (g5.fq hD)
  refine ⟨61, E.sh.p50_2, 73, E.sh.p62_2, ⟨by decide, by decide, by decide, by rw [E.sh.l61]; decide, by rw [E.sh.l73]; decide⟩, fun S8 e8 S9 e9 S10 e10 => ?_⟩
  have g8 : fr (DZ 72 73) S5 S8 := by rw [e8]; exact fr.row (fun _ => rfl)
  have g10 : fq DT ET S8 S10 := by
    rw [e10, e9]
    refine ⟨rfl, fun a j h => ?_, fun _ _ => rfl, fun _ _ _ => rfl⟩
    have := (DT_f h).2.1
    rw [m_gi_si, if_neg (fun z => this z.1), m_gi_si, if_neg (fun z => this z.1)]
  have g : fq DT ET S S10 := ((g2.tr (g5.fq hD)).tr (g8.fq hD)).tr g10
  have F := C.fT g
  have hp : m_gp S10 62 0 = some rs := by
    rw [e10, e9, m_gp_si, m_gp_si, e8, m_gp_row, e5, m_gp_row, e2, m_gp_sp, if_pos ⟨rfl, rfl⟩]
  have F8 := E.fT (g8.fq hD)
  have cp10 : (10 : Int32).toNatClampNeg = 10 := by decide
  have cp6 : (6 : Int32).toNatClampNeg = 6 := by decide
  refine h S10 g ⟨F.sh, F.rw, F.sw, F.hr, Or.inr rfl, F.p, F.rc, ⟨hp, F.sn.hrs, F.sn.rc⟩, fun c hc => ?_, ?_, fun p hp' => ?_, ?_⟩
  · rw [e10, m_gi_si, if_neg (by omega), e9, m_gi_si, if_neg (by omega), e8, m_gi_row, if_neg (by omega), e5, m_gi_row, if_pos rfl, lz0, cp10, pk_cpy_in (by omega) (by omega)]
    rw [show 0 + (c - 0) = c by omega]
    exact D.sn.cl hc
  · rw [e10, m_gi_si, if_neg (by omega), e9, m_gi_si, if_pos ⟨rfl, rfl⟩]; exact F8.sn.bk
  · rw [e10, m_gi_si, if_neg (by omega), e9, m_gi_si, if_neg (by omega), e8, m_gi_row, if_pos rfl, lz0, cp6, pk_cpy_in (by omega) (by omega)]
    rw [show 0 + (p - 0) = p by omega]
    exact E.sn.pl hp'
  · rw [e10, m_gi_si, if_pos ⟨rfl, rfl⟩, e9, m_gi_si, if_neg (by omega)]; exact F8.sn.yr
/-- one year of the trial -/
theorem CI.x62 (C : CI L S r 62 rs R s) : isSc 62 := C.hx
theorem c_first {x1 : Int32} {Q : mj_S → Int32 → Prop} (C : CI L S r 50 rs R s) (hK : CK l G L S R tk) (ht : t_ok R tk) (hy : s_yr s ≤ 999) (h : ∀ S', fq DT ET S S' → Q S' (A_first R tk s x1)) : M_X10_first l G 6 x1 S Q := by
  have nc := C.rw.nc
  have rf : fq DT ET S S := DC_DT fr.rf
  unfold A_first at h
  refine e_X10_first (b_X10_first_0 C.sh.k6 (s_hasRoom C (fun e => ?_) (fun e => ?_)))
  · try simp only [Option.some.injEq, exists_eq_left', fi32, i10, i00, false_implies, true_implies, not_false_eq_true, not_true_eq_false, true_and, and_true, nI_1, lz0, lz1, ix0, ix11, ix2]
    refine s_witN (n := 1) (by omega) (fun q e2 => ?_) (fun e2 => ?_)
    · rw [if_neg (fun z => by rcases z with z | z; omega; rw [e2] at z; cases z)] at h
      try simp only [Option.some.injEq, exists_eq_left', fi32, i10, i00, false_implies, true_implies, not_false_eq_true, not_true_eq_false, true_and, and_true, nI_1, lz0, lz1, ix0, ix11, ix2, C.p, C.sh.p6_0, C.sh.p6_4, C.sh.p6_7, C.sh.p6_8, C.sh.p6_9, C.sh.p6_10, C.sh.p6_11, C.sh.p6_12, C.sh.p6_13, C.sh.p50_1, C.sh.p50_2, C.sh.l60, C.sh.l61, C.rc.w, C.rc.h, C.rc.li, C.rc.mo, C.rc.n, C.rc.nc, C.rc.np, C.sh.rp8 C.irm, C.sh.rl8 C.irm, C.sh.rp9 C.irm, C.sh.rl9 C.irm, C.sh.rp10 C.irm, C.sh.rl10 C.irm, C.sh.rp11 C.irm, C.sh.rl11 C.irm, C.sh.rp12 C.irm, C.sh.rl12 C.irm, C.sh.rp16 C.irm, C.sh.rl16 C.irm]
      refine s_hung C ⟨fun z => ?_, fun z => ?_⟩
      · try simp only [Option.some.injEq, exists_eq_left', fi32, i10, i00, false_implies, true_implies, not_false_eq_true, not_true_eq_false, true_and, and_true, nI_1, lz0, lz1, ix0, ix11, ix2, C.p, C.sh.p6_0, C.sh.p6_4, C.sh.p6_7, C.sh.p6_8, C.sh.p6_9, C.sh.p6_10, C.sh.p6_11, C.sh.p6_12, C.sh.p6_13, C.sh.p50_1, C.sh.p50_2, C.sh.l60, C.sh.l61, C.rc.w, C.rc.h, C.rc.li, C.rc.mo, C.rc.n, C.rc.nc, C.rc.np, C.sh.rp8 C.irm, C.sh.rl8 C.irm, C.sh.rp9 C.irm, C.sh.rl9 C.irm, C.sh.rp10 C.irm, C.sh.rl10 C.irm, C.sh.rp11 C.irm, C.sh.rl11 C.irm, C.sh.rp12 C.irm, C.sh.rl12 C.irm, C.sh.rp16 C.irm, C.sh.rl16 C.irm]
        refine s_follow C (fun S1 g1 D => ?_)
        have lp : ∀ (k n : Nat) (s1 : sc) (T : mj_S), n + k = 200 → s_yr s1 = s_yr s + n → fq DT ET S T → CI L T r 62 rs R s1 → (∀ S', fq DT ET S S' → Q S' (match fst R tk k n s1 with
            | none => -1
            | some p => if x1 = 0 then nz p.1 else nI p.2)) → V_X10_first_41 l G 6 x1 (nI (n + 1)) T Q := by
          intro k
          induction k with
          | zero =>
            intro n s1 T hk _ g D hQ
            refine b_X10_first_41 D.sh.k6 ⟨fun _ => hQ T g, fun y => absurd (nI_lt (a := 200) (by omega) (by omega)) y⟩
          | succ k ih =>
            intro n s1 T hk hyr g D hQ
            unfold fst at hQ
            refine b_X10_first_41 D.sh.k6 ⟨fun y => absurd y (nI_nlt (b := n + 1) (a := 200) (by omega) (by omega)), fun _ => ⟨62, D.sh.p6_8, s_shine D (hK T r 62 rs s1 g.lawz D (by omega)) (fun c hc => ht s1 c hc) e (fun T2 f2 hM => ?_)⟩⟩
            have D2 := D.fr f2
            refine ⟨62, D2.sh.p6_8, 80, D2.sh.p6_11, 81, D2.sh.p80_0, s_wear D2 hM (lit_99 C.rw.li) (fun T3 f3 D3 => ?_)⟩
            have g3 := (g.tr (DC_DT f2)).tr (DS_DT f3)
            refine ⟨fun y v ev => ?_, fun y => ⟨fun y2 => ?_, fun y2 => ?_⟩⟩
            · rw [if_pos (show bs (r_nc R) (fel R s1 (lt0 R tk s1)) = 0 from y)] at hQ
              rw [ev, nI_1]
              exact ih (n + 1) _ T3 (by omega) (by show s_yr s1 + 1 = _; omega) g3 D3 hQ
            · rw [if_neg (show ¬ bs (r_nc R) (fel R s1 (lt0 R tk s1)) = 0 from y)] at hQ
              dsimp only at hQ
              rw [if_neg y2] at hQ
              exact hQ T3 g3
            · rw [if_neg (show ¬ bs (r_nc R) (fel R s1 (lt0 R tk s1)) = 0 from y)] at hQ
              dsimp only at hQ
              rw [if_pos y2] at hQ
              exact s_lowest y (hQ T3 g3)
        exact lp 200 0 s S1 (by omega) rfl g1 D h
      · rw [fst_0 C.rw 200 0 s z] at h
        exact h S rf
    · rw [if_pos (Or.inr e2)] at h
      try simp only [Option.some.injEq, exists_eq_left', fi32, i10, i00, false_implies, true_implies, not_false_eq_true, not_true_eq_false, true_and, and_true, nI_1, lz0, lz1, ix0, ix11, ix2]
      exact h S rf
  · rw [if_pos (Or.inl e)] at h
    try simp only [Option.some.injEq, exists_eq_left', fi32, i10, i00, false_implies, true_implies, not_false_eq_true, not_true_eq_false, true_and, and_true, nI_1, lz0, lz1, ix0, ix11, ix2]
    exact h S rf
theorem y60 {y : Int32} (h1 : ¬ y < 1) (h2 : ¬ 60 < y) : ∃ n, 1 ≤ n ∧ n ≤ 60 ∧ y = nI n := by
  obtain ⟨n, a, b, e⟩ := y99 h1 (fun z => h2 (by
    rw [Int32.lt_iff_toInt_lt] at z ⊢
    rw [show (99 : Int32).toInt = 99 by decide] at z
    rw [show (60 : Int32).toInt = 60 by decide]; omega))
  refine ⟨n, a, ?_, e⟩
  rw [e] at h2
  exact (nI_leI (b := 60) (by omega) (by omega)).mp (Int32.not_lt.mp h2)
theorem c_cloth {x1 : Int32} {Q : mj_S → Int32 → Prop} (C : CI L S r 50 rs R s) (hK : CK l G L S R tk) (ht : t_ok R tk) (hy : s_yr s ≤ 999) (h : ∀ S', fq DT ET S S' → Q S' (A_cloth R tk s x1)) : M_X10_cloth l G 6 x1 S Q := by
  have nc := C.rw.nc
  have rf : fq DT ET S S := DC_DT fr.rf
  unfold A_cloth at h
  refine e_X10_cloth (b_X10_cloth_0 C.sh.k6 (s_hasRoom C (fun e => ?_) (fun e => ?_)))
  · try simp only [Option.some.injEq, exists_eq_left', fi32, i10, i00, false_implies, true_implies, not_false_eq_true, not_true_eq_false, true_and, and_true, nI_1, lz0, lz1, ix0, ix11, ix2]
    refine s_wit (fun q1 q2 => ?_) (fun q => ?_)
    · obtain ⟨m, m1, m2, em⟩ := y60 q1 q2
      rw [if_neg (fun z => by rcases z with z | z | z; omega; exact q1 z; exact q2 z), em, nI_clamp (by omega)] at h
      try simp only [Option.some.injEq, exists_eq_left', fi32, i10, i00, false_implies, true_implies, not_false_eq_true, not_true_eq_false, true_and, and_true, nI_1, lz0, lz1, ix0, ix11, ix2, C.p, C.sh.p6_0, C.sh.p6_4, C.sh.p6_7, C.sh.p6_8, C.sh.p6_9, C.sh.p6_10, C.sh.p6_11, C.sh.p6_12, C.sh.p6_13, C.sh.p50_1, C.sh.p50_2, C.sh.l60, C.sh.l61, C.rc.w, C.rc.h, C.rc.li, C.rc.mo, C.rc.n, C.rc.nc, C.rc.np, C.sh.rp8 C.irm, C.sh.rl8 C.irm, C.sh.rp9 C.irm, C.sh.rl9 C.irm, C.sh.rp10 C.irm, C.sh.rl10 C.irm, C.sh.rp11 C.irm, C.sh.rl11 C.irm, C.sh.rp12 C.irm, C.sh.rl12 C.irm, C.sh.rp16 C.irm, C.sh.rl16 C.irm]
      refine s_follow C (fun S1 g1 D => ?_)
      have lp : ∀ (k n : Nat) (s1 : sc) (T : mj_S), n + k = m → s_yr s1 = s_yr s + n → fq DT ET S T → CI L T r 62 rs R s1 → (∀ S', fq DT ET S S' → Q S' (nI (clo s (r_nc R)) - nI (clo (wrs R tk k s1) (r_nc R)))) → V_X10_cloth_32 l G 6 x1 (nI n) T Q := by
        intro k
        induction k with
        | zero =>
          intro n s1 T hk _ g D hQ
          have C' := C.fT g
          refine b_X10_cloth_32 D.sh.k6 ⟨fun _ => ⟨50, D.sh.p6_7, s_fabricOfAll C' ⟨62, D.sh.p6_8, s_fabricOfAll D (hQ T g)⟩⟩, fun y => absurd (by rw [em]; exact nI_le (by omega) (by omega)) y⟩
        | succ k ih =>
          intro n s1 T hk hyr g D hQ
          refine b_X10_cloth_32 D.sh.k6 ⟨fun y => absurd y (by rw [em]; exact nI_ge (by omega) (by omega)), fun _ => ⟨62, D.sh.p6_8, s_shine D (hK T r 62 rs s1 g.lawz D (by omega)) (fun c hc => ht s1 c hc) e (fun T2 f2 hM => ?_)⟩⟩
          have D2 := D.fr f2
          refine ⟨62, D2.sh.p6_8, 80, D2.sh.p6_11, 81, D2.sh.p80_0, s_wear D2 hM (lit_99 C.rw.li) (fun T3 f3 D3 v ev => ?_)⟩
          rw [ev, nI_1]
          exact ih (n + 1) _ T3 (by omega) (by show s_yr s1 + 1 = _; omega) ((g.tr (DC_DT f2)).tr (DS_DT f3)) D3 hQ
      exact lp m 0 s S1 (by omega) rfl g1 D h
    · rw [if_pos (Or.inr q)] at h
      try simp only [Option.some.injEq, exists_eq_left', fi32, i10, i00, false_implies, true_implies, not_false_eq_true, not_true_eq_false, true_and, and_true, nI_1, lz0, lz1, ix0, ix11, ix2]
      exact h S rf
  · rw [if_pos (Or.inl e)] at h
    try simp only [Option.some.injEq, exists_eq_left', fi32, i10, i00, false_implies, true_implies, not_false_eq_true, not_true_eq_false, true_and, and_true, nI_1, lz0, lz1, ix0, ix11, ix2]
    exact h S rf
end FC
/-! the reference -/
def lawr (S S' : mj_S) : Prop := S'.1 = S.1 ∧ (∀ a j, 91 ≤ a → a ≤ 97 → m_gi S' a j = m_gi S a j) ∧ m_gi S' 89 30 = m_gi S 89 30
theorem lawr.tr {S S' S'' : mj_S} (h1 : lawr S S') (h2 : lawr S' S'') : lawr S S'' := ⟨h2.1.trans h1.1, fun a j q1 q2 => (h2.2.1 a j q1 q2).trans (h1.2.1 a j q1 q2), h2.2.2.trans h1.2.2⟩
def RK (l : Launch) (G : mj_G) (L : Nat) (S : mj_S) (R : rm) (tk : sc → Nat → Nat) : Prop := ∀ (S' : mj_S) (s : sc), lawr S S' → RI L S' R s → s_yr s ≤ 2000 → TKr l G S' (r_nc R) (tk s)
theorem D17_law {a j : Nat} (h1 : 89 ≤ a) (h2 : a ≤ 97) : D17 a j = false := by
  unfold D17 DRb
  have e1 : Nat.ble 98 a = false := by rw [← Bool.not_eq_true, Nat.ble_eq]; omega
  have e2 : Nat.ble 110 a = false := by rw [← Bool.not_eq_true, Nat.ble_eq]; omega
  have e4 : Nat.beq a 106 = false := by rw [← Bool.not_eq_true, Nat.beq_eq]; omega
  rw [e1, e2, e4]; rfl
theorem fr.lawr {S S' : mj_S} (f : fr D17 S S') : lawr S S' := ⟨f.1, fun a j h1 h2 => f.i a j (D17_law (by omega) h2), f.i _ _ (D17_law (by omega) (by omega))⟩
section RFC
variable {l : Launch} {G : mj_G} {L : Nat} {R : rm} {s : sc} {S : mj_S} {tk : sc → Nat → Nat}
theorem s_clothOfAll {Q : mj_S → Int32 → Prop} (C : RI L S R s) (h : Q S (nI (clo s (r_nc R)))) : M_X11_clothOfAll l G 89 S Q := by
  have nc := C.rw.nc
  refine e_X11_clothOfAll (b_X11_clothOfAll_0 C.sh.k89 ?_)
  refine dn (P := fun c => V_X11_clothOfAll_4 l G 89 (nI (clo s c)) (nI c) S Q) (r_nc R) ?_ ?_
  · refine b_X11_clothOfAll_4 C.sh.k89 ?_
    try simp only [Option.some.injEq, exists_eq_left', fi32, i10, i00, false_implies, true_implies, not_false_eq_true, not_true_eq_false, true_and, and_true, nI_1, lz0, lz1, ix0, ix11, ix2, C.sh.p89_22, C.sh.p89_23, C.sh.p89_24, C.sh.p89_28, C.sh.p89_32, C.sh.p89_33, C.sh.l103, C.sh.l104, C.sh.l105, C.sh.l106, C.sh.l108, C.sh.l109, C.rr.n, C.rr.nc, C.rr.np, C.rr.w, C.rr.h, C.rr.li, C.rr.mo, C.rs.bk, C.rs.yr, ix4, ix6, geT (show r_nc R < 2 ^ 31 by omega)]
    exact h
  · intro c hc ih
    refine b_X11_clothOfAll_4 C.sh.k89 ?_
    try simp only [Option.some.injEq, exists_eq_left', fi32, i10, i00, false_implies, true_implies, not_false_eq_true, not_true_eq_false, true_and, and_true, nI_1, lz0, lz1, ix0, ix11, ix2, C.sh.p89_22, C.sh.p89_23, C.sh.p89_24, C.sh.p89_28, C.sh.p89_32, C.sh.p89_33, C.sh.l103, C.sh.l104, C.sh.l105, C.sh.l106, C.sh.l108, C.sh.l109, C.rr.n, C.rr.nc, C.rr.np, C.rr.w, C.rr.h, C.rr.li, C.rr.mo, C.rs.bk, C.rs.yr, ix4, ix6, gtF hc (show r_nc R < 2 ^ 31 by omega), vp_nI (show c < 199 by omega) (show 199 < 2 ^ 31 by omega), nI_clamp (show c < 2 ^ 31 by omega), C.rs.cl hc, nI_add]
    exact ih
theorem s_putAside {Q : mj_S → Prop} (hs : Sh L S) (h : ∀ S', fr (DZ 113 113) S S' → (∀ k, k < 18 → m_gi S' 113 k = m_gi S 106 k) → Q S') : M_X11_putAside l G 89 S Q := by
  refine e_X11_putAside (b_X11_putAside_0 hs.k89 ?_)
  refine dn (P := fun k => ∀ T, fr (DZ 113 113) S T → (∀ k', k' < k → m_gi T 113 k' = m_gi S 106 k') → V_X11_putAside_2 l G 89 (nI k) T Q) 18 ?_ ?_ S fr.rf (fun _ z => absurd z (by omega))
  · intro T f g
    exact b_X11_putAside_2 (hs.fr f).k89 ⟨fun _ => h T f g, fun z => absurd (by decide) z⟩
  · intro k hk ih T f g
    have hs' := hs.fr f
    refine b_X11_putAside_2 hs'.k89 ⟨fun z => absurd z (nI_nlt (a := 17) (by omega) (by omega)), fun _ => ⟨113, hs'.p89_39, 106, hs'.p89_28, by rw [hs'.l106]; exact vp_nI (by omega) (by omega), by rw [hs'.l113]; exact vp_nI (by omega) (by omega), fun T1 e1 v ev => ?_⟩⟩
    rw [ev, nI_1]
    rw [nI_clamp (by omega)] at e1
    refine ih T1 (f.tr (by rw [e1]; exact fr.si rfl)) (fun k' hk' => ?_)
    rw [e1, m_gi_si]
    by_cases e : k' = k
    · rw [if_pos ⟨rfl, e⟩, e]; exact f.i _ _ rfl
    · rw [if_neg (fun z => e z.2)]; exact g k' (by omega)
def D6 (a j : Nat) : Bool := Nat.beq a 106 && Nat.ble j 17
theorem s_takeBack {Q : mj_S → Prop} (hs : Sh L S) (h : ∀ S', fr D6 S S' → (∀ k, k < 18 → m_gi S' 106 k = m_gi S 113 k) → Q S') : M_X11_takeBack l G 89 S Q := by
  have hD : ∀ j, j ≤ 17 → D6 106 j = true := fun j hj => by unfold D6; rw [show Nat.ble j 17 = true by rw [Nat.ble_eq]; exact hj]; rfl
  refine e_X11_takeBack (b_X11_takeBack_0 hs.k89 ?_)
  refine dn (P := fun k => ∀ T, fr D6 S T → (∀ k', k' < k → m_gi T 106 k' = m_gi S 113 k') → V_X11_takeBack_2 l G 89 (nI k) T Q) 18 ?_ ?_ S fr.rf (fun _ z => absurd z (by omega))
  · intro T f g
    exact b_X11_takeBack_2 (hs.fr f).k89 ⟨fun _ => h T f g, fun z => absurd (by decide) z⟩
  · intro k hk ih T f g
    have hs' := hs.fr f
    refine b_X11_takeBack_2 hs'.k89 ⟨fun z => absurd z (nI_nlt (a := 17) (by omega) (by omega)), fun _ => ⟨106, hs'.p89_28, 113, hs'.p89_39, by rw [hs'.l113]; exact vp_nI (by omega) (by omega), by rw [hs'.l106]; exact vp_nI (by omega) (by omega), fun T1 e1 v ev => ?_⟩⟩
    rw [ev, nI_1]
    rw [nI_clamp (by omega)] at e1
    refine ih T1 (f.tr (by rw [e1]; exact fr.si (hD k (by omega)))) (fun k' hk' => ?_)
    rw [e1, m_gi_si]
    by_cases e : k' = k
    · rw [if_pos ⟨rfl, e⟩, e]; exact f.i _ _ rfl
    · rw [if_neg (fun z => e z.2)]; exact g k' (by omega)
/-- all is as it was but for the scratch -/
theorem s_back_all {S0 S1 S2 S3 : mj_S} (f1 : fr (DZ 113 113) S0 S1) (k1 : ∀ k, k < 18 → m_gi S1 113 k = m_gi S0 106 k) (f2 : fr D17 S1 S2) (f3 : fr D6 S2 S3) (k3 : ∀ k, k < 18 → m_gi S3 106 k = m_gi S2 113 k) : fr DR S0 S3 := by
  refine ⟨(f3.1.trans f2.1).trans f1.1, fun a j h => ?_, fun a j => ((f3.2.2.1 a j).trans (f2.2.2.1 a j)).trans (f1.2.2.1 a j), fun a j => ((f3.p a j).trans (f2.p a j)).trans (f1.p a j)⟩
  by_cases e : a = 106 ∧ j < 18
  · rw [e.1, k3 j e.2, f2.i 113 j rfl, k1 j e.2]
  · have e6 : D6 a j = false := by
      unfold D6
      rw [← Bool.not_eq_true, Bool.and_eq_true, Nat.beq_eq, Nat.ble_eq]; omega
    have hh := h
    unfold DR at hh
    rw [Bool.or_eq_false_iff] at hh
    have e17 : D17 a j = false := by
      unfold D17 DRb
      rw [hh.1, Bool.false_or]; exact e6
    have e113 : DZ 113 113 a j = false := DZ_no (by
      have := hh.2
      rw [← Bool.not_eq_true, Bool.and_eq_true, Nat.ble_eq, Nat.ble_eq] at this
      omega)
    exact ((f3.i a j e6).trans (f2.i a j e17)).trans (f1.i a j e113)
theorem d_first {x1 : Int32} {Q : mj_S → Int32 → Prop} (C : RI L S R s) (hK : RK l G L S R tk) (ht : t_ok R tk) (hy : s_yr s ≤ 999) (h : ∀ S', fr DR S S' → Q S' (A_first R tk s x1)) : M_X11_first l G 89 x1 S Q := by
  have hn := C.rw.n
  unfold A_first at h
  refine e_X11_first (b_X11_first_0 C.sh.k89 ?_)
  try simp only [Option.some.injEq, exists_eq_left', fi32, i10, i00, false_implies, true_implies, not_false_eq_true, not_true_eq_false, true_and, and_true, nI_1, lz0, lz1, ix0, ix11, ix2, C.sh.p89_22, C.sh.p89_23, C.sh.p89_24, C.sh.p89_28, C.sh.p89_32, C.sh.p89_33, C.sh.l103, C.sh.l104, C.sh.l105, C.sh.l106, C.sh.l108, C.sh.l109, C.rr.n, C.rr.nc, C.rr.np, C.rr.w, C.rr.h, C.rr.li, C.rr.mo, C.rs.bk, C.rs.yr, ix4, ix6, nI_e0 (show r_n R < 2 ^ 31 by omega)]
  refine ⟨fun e => by rw [if_pos (Or.inl e)] at h; exact h S fr.rf, fun e => s_rinK (n := 1) (by omega) (fun q e2 => ?_) (fun e2 => ?_)⟩
  · rw [if_neg (fun z => by rcases z with z | z; exact e z; rw [e2] at z; cases z)] at h
    try simp only [Option.some.injEq, exists_eq_left', fi32, i10, i00, false_implies, true_implies, not_false_eq_true, not_true_eq_false, true_and, and_true, nI_1, lz0, lz1, ix0, ix11, ix2]
    refine s_putAside C.sh (fun S1 f1 k1 => ?_)
    have C1 : RI L S1 R s := C.fr (f1.wid (fun a j q => DZ_no (by
      have := q
      unfold DR at this
      rw [Bool.or_eq_false_iff] at this
      have := this.2
      rw [← Bool.not_eq_true, Bool.and_eq_true, Nat.ble_eq, Nat.ble_eq] at this
      omega)))
    have l1 : lawr S S1 := ⟨f1.1, fun a j z1 z2 => f1.i a j (DZ_no (by omega)), f1.i _ _ rfl⟩
    have fin : ∀ (U : mj_S) (n : Nat) (fl : Int32), fr D17 S1 U → Sh L U → (∀ S', fr DR S S' → Q S' (if fl = 0 then -1 else if x1 = 0 then nz fl else nI n)) → V_X11_first_48 l G 89 x1 (nI n) fl U Q := by
      intro U n fl f2 hs2 hQ
      refine b_X11_first_48 hs2.k89 (s_takeBack hs2 (fun S3 f3 k3 => ?_))
      have hall := s_back_all f1 k1 f2 f3 k3
      have hQ' := hQ S3 hall
      refine ⟨fun y => ⟨fun y2 => ?_, fun y2 => ?_⟩, fun y => ?_⟩
      · rw [if_neg y, if_neg y2] at hQ'; exact hQ'
      · rw [if_neg y, if_pos y2] at hQ'
        exact s_nameOf (hs2.fr f3) hQ'
      · rw [if_pos y] at hQ'; exact hQ'
    have lp : ∀ (k n : Nat) (s1 : sc) (T : mj_S), n + k = 200 → s_yr s1 = s_yr s + n → fr D17 S1 T → RI L T R s1 → (∀ S', fr DR S S' → Q S' (match fst R tk k n s1 with
        | none => -1
        | some p => if x1 = 0 then nz p.1 else nI p.2)) → V_X11_first_26 l G 89 x1 (nI n) 0 T Q := by
      intro k
      induction k with
      | zero =>
        intro n s1 T hk _ g D hQ
        refine b_X11_first_26 D.sh.k89 ⟨fun _ => fin T n 0 g D.sh hQ, fun y => absurd (nI_le (a := 200) (by omega) (by omega)) y⟩
      | succ k ih =>
        intro n s1 T hk hyr g D hQ
        unfold fst at hQ
        refine b_X11_first_26 D.sh.k89 ⟨fun y => absurd y (nI_ge (b := 200) (by omega) (by omega)), fun _ => ⟨fun y => absurd rfl y, fun _ => s_live D (hK T s1 (l1.tr g.lawr) D (by omega)) (fun c hc => ht s1 c hc) (by omega) (fun T2 f2 D2 v ev => ?_)⟩⟩
        rw [ev, nI_1]
        by_cases y : bs (r_nc R) (fel R s1 (lt0 R tk s1)) = 0
        · rw [if_pos y] at hQ
          show V_X11_first_26 l G 89 x1 (nI (n + 1)) (bs (r_nc R) (fel R s1 (lt0 R tk s1))) T2 Q
          rw [y]
          exact ih (n + 1) _ T2 (by omega) (by show s_yr s1 + 1 = _; omega) (g.tr f2) D2 hQ
        · rw [if_neg y] at hQ
          dsimp only at hQ
          have done : V_X11_first_48 l G 89 x1 (nI (n + 1)) (bs (r_nc R) (fel R s1 (lt0 R tk s1))) T2 Q := fin T2 (n + 1) _ (g.tr f2) D2.sh (fun S' f' => by rw [if_neg y]; exact hQ S' f')
          exact b_X11_first_26 D2.sh.k89 ⟨fun _ => done, fun _ => ⟨fun _ => done, fun z => absurd z y⟩⟩
    exact lp 200 0 s S1 (by omega) rfl fr.rf C1 h
  · rw [if_pos (Or.inr e2)] at h
    try simp only [Option.some.injEq, exists_eq_left', fi32, i10, i00, false_implies, true_implies, not_false_eq_true, not_true_eq_false, true_and, and_true, nI_1, lz0, lz1, ix0, ix11, ix2]
    exact h S fr.rf
theorem d_cloth {x1 : Int32} {Q : mj_S → Int32 → Prop} (C : RI L S R s) (hK : RK l G L S R tk) (ht : t_ok R tk) (hy : s_yr s ≤ 999) (h : ∀ S', fr DR S S' → Q S' (A_cloth R tk s x1)) : M_X11_cloth l G 89 x1 S Q := by
  have hn := C.rw.n
  unfold A_cloth at h
  refine e_X11_cloth (b_X11_cloth_0 C.sh.k89 ?_)
  try simp only [Option.some.injEq, exists_eq_left', fi32, i10, i00, false_implies, true_implies, not_false_eq_true, not_true_eq_false, true_and, and_true, nI_1, lz0, lz1, ix0, ix11, ix2, C.sh.p89_22, C.sh.p89_23, C.sh.p89_24, C.sh.p89_28, C.sh.p89_32, C.sh.p89_33, C.sh.l103, C.sh.l104, C.sh.l105, C.sh.l106, C.sh.l108, C.sh.l109, C.rr.n, C.rr.nc, C.rr.np, C.rr.w, C.rr.h, C.rr.li, C.rr.mo, C.rs.bk, C.rs.yr, ix4, ix6, nI_e0 (show r_n R < 2 ^ 31 by omega)]
  refine ⟨fun e => by rw [if_pos (Or.inl e)] at h; exact h S fr.rf, fun e => s_rin (fun q1 q2 => ?_) (fun q => ?_)⟩
  · obtain ⟨m, m1, m2, em⟩ := y60 q1 q2
    rw [if_neg (fun z => by rcases z with z | z | z; exact e z; exact q1 z; exact q2 z), em, nI_clamp (by omega)] at h
    try simp only [Option.some.injEq, exists_eq_left', fi32, i10, i00, false_implies, true_implies, not_false_eq_true, not_true_eq_false, true_and, and_true, nI_1, lz0, lz1, ix0, ix11, ix2]
    refine s_clothOfAll C (s_putAside C.sh (fun S1 f1 k1 => ?_))
    have C1 : RI L S1 R s := C.fr (f1.wid (fun a j q => DZ_no (by
      have := q
      unfold DR at this
      rw [Bool.or_eq_false_iff] at this
      have := this.2
      rw [← Bool.not_eq_true, Bool.and_eq_true, Nat.ble_eq, Nat.ble_eq] at this
      omega)))
    have l1 : lawr S S1 := ⟨f1.1, fun a j z1 z2 => f1.i a j (DZ_no (by omega)), f1.i _ _ rfl⟩
    have lp : ∀ (k n : Nat) (s1 : sc) (T : mj_S), n + k = m → s_yr s1 = s_yr s + n → fr D17 S1 T → RI L T R s1 → (∀ S', fr DR S S' → Q S' (nI (clo s (r_nc R)) - nI (clo (wrs R tk k s1) (r_nc R)))) → V_X11_cloth_30 l G 89 x1 (nI (clo s (r_nc R))) (nI n) T Q := by
      intro k
      induction k with
      | zero =>
        intro n s1 T hk _ g D hQ
        refine b_X11_cloth_30 D.sh.k89 ⟨fun _ => s_clothOfAll D (fun v ev => s_takeBack D.sh (fun S3 f3 k3 => ?_)), fun y => absurd (by rw [em]; exact nI_le (by omega) (by omega)) y⟩
        rw [ev]; exact hQ S3 (s_back_all f1 k1 g f3 k3)
      | succ k ih =>
        intro n s1 T hk hyr g D hQ
        refine b_X11_cloth_30 D.sh.k89 ⟨fun y => absurd y (by rw [em]; exact nI_ge (by omega) (by omega)), fun _ => s_live D (hK T s1 (l1.tr g.lawr) D (by omega)) (fun c hc => ht s1 c hc) (by omega) (fun T2 f2 D2 v ev => ?_)⟩
        rw [ev, nI_1]
        exact ih (n + 1) _ T2 (by omega) (by show s_yr s1 + 1 = _; omega) (g.tr f2) D2 hQ
    exact lp m 0 s S1 (by omega) rfl fr.rf C1 h
  · rw [if_pos (Or.inr q)] at h
    try simp only [Option.some.injEq, exists_eq_left', fi32, i10, i00, false_implies, true_implies, not_false_eq_true, not_true_eq_false, true_and, and_true, nI_1, lz0, lz1, ix0, ix11, ix2]
    exact h S fr.rf
end RFC
