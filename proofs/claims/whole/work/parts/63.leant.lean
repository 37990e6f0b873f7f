/-! who leant -/
theorem dnA {P : Nat → Prop} (a n : Nat) (ha : a ≤ n) (h0 : P n) (hs : ∀ c, a ≤ c → c < n → P (c + 1) → P c) : P a := by
  have := dn (P := fun k => P (a + k)) (n - a) (by rw [show a + (n - a) = n by omega]; exact h0) (fun c hc h => hs (a + c) (by omega) (by omega) h)
  exact this
abbrev fd : Type := Nat × (Nat → Nat) × (Nat → Bool)
def fb (F : fd) : Nat → Int32
  | 0 => 0
  | j + 1 => if F.2.2 j = true then fb F j ||| on (F.2.1 j) else fb F j
def fnn (F : fd) : Nat → Int32
  | 0 => 0
  | j + 1 => if F.2.2 j = true then fnn F j else fnn F j ||| on (F.2.1 j)
def f_wf (R : rm) (F : fd) : Prop := F.1 ≤ 10 ∧ ∀ j, j < F.1 → F.2.1 j < r_nc R
def lb (R : rm) (s : sc) (X : Int32) : Nat → Int32
  | 0 => 0
  | p + 1 => if bt X p = true then lb R s X p ||| bs (r_nc R) (be R (s_pl s p)) else lb R s X p
def lna (F : fd) (Y : Int32) : Nat → Bool
  | 0 => true
  | j + 1 => lna F Y j && (bt Y (F.2.1 j) == F.2.2 j)
def ft (R : rm) (s : sc) (F : fd) (k X : Int32) : Bool := decide (bc X = k) && lna F (lb R s X (r_np R)) F.1
theorem fb_b {R : rm} {F : fd} (hR : r_wf R) (hF : f_wf R F) {c : Nat} : ∀ k, k ≤ F.1 → (bt (fb F k) c = true ↔ ∃ j, j < k ∧ F.2.2 j = true ∧ F.2.1 j = c)
  | 0, _ => by
    rw [show fb F 0 = 0 from rfl, b_0]
    constructor
    · intro h; cases h
    · rintro ⟨j, h, _⟩; omega
  | k + 1, hk => by
    have ih := fb_b hR hF (c := c) k (by omega)
    have hc := hF.2 k (by omega)
    have nc := hR.nc
    have key : bt (fb F (k + 1)) c = true ↔ bt (fb F k) c = true ∨ (F.2.2 k = true ∧ F.2.1 k = c) := by
      show bt (if F.2.2 k = true then fb F k ||| on (F.2.1 k) else fb F k) c = true ↔ _
      by_cases e : F.2.2 k = true
      · rw [if_pos e, b_or, Bool.or_eq_true]
        refine or_congr_right ?_
        constructor
        · intro h
          have h32 := b_lt h
          rw [b_on (by omega) h32, decide_eq_true_iff] at h
          exact ⟨e, h.symm⟩
        · rintro ⟨_, h⟩
          rw [b_on (by omega) (by omega)]; simp [h]
      · rw [if_neg e]
        exact ⟨fun h => Or.inl h, fun h => by rcases h with h | h; exact h; exact absurd h.1 e⟩
    rw [key, ih]
    constructor
    · rintro (⟨j, h1, h2⟩ | h)
      · exact ⟨j, by omega, h2⟩
      · exact ⟨k, by omega, h⟩
    · rintro ⟨j, h1, h2⟩
      by_cases e : j = k
      · rw [e] at h2; exact Or.inr h2
      · exact Or.inl ⟨j, by omega, h2⟩
theorem fn_b {R : rm} {F : fd} (hR : r_wf R) (hF : f_wf R F) {c : Nat} : ∀ k, k ≤ F.1 → (bt (fnn F k) c = true ↔ ∃ j, j < k ∧ ¬ F.2.2 j = true ∧ F.2.1 j = c)
  | 0, _ => by
    rw [show fnn F 0 = 0 from rfl, b_0]
    constructor
    · intro h; cases h
    · rintro ⟨j, h, _⟩; omega
  | k + 1, hk => by
    have ih := fn_b hR hF (c := c) k (by omega)
    have hc := hF.2 k (by omega)
    have nc := hR.nc
    have key : bt (fnn F (k + 1)) c = true ↔ bt (fnn F k) c = true ∨ (¬ F.2.2 k = true ∧ F.2.1 k = c) := by
      show bt (if F.2.2 k = true then fnn F k else fnn F k ||| on (F.2.1 k)) c = true ↔ _
      by_cases e : F.2.2 k = true
      · rw [if_pos e]
        exact ⟨fun h => Or.inl h, fun h => by rcases h with h | h; exact h; exact absurd e h.1⟩
      · rw [if_neg e, b_or, Bool.or_eq_true]
        refine or_congr_right ?_
        constructor
        · intro h
          have h32 := b_lt h
          rw [b_on (by omega) h32, decide_eq_true_iff] at h
          exact ⟨e, h.symm⟩
        · rintro ⟨_, h⟩
          rw [b_on (by omega) (by omega)]; simp [h]
    rw [key, ih]
    constructor
    · rintro (⟨j, h1, h2⟩ | h)
      · exact ⟨j, by omega, h2⟩
      · exact ⟨k, by omega, h⟩
    · rintro ⟨j, h1, h2⟩
      by_cases e : j = k
      · rw [e] at h2; exact Or.inr h2
      · exact Or.inl ⟨j, by omega, h2⟩
theorem lna_t {F : fd} {Y : Int32} : ∀ {k : Nat}, lna F Y k = true ↔ ∀ j, j < k → bt Y (F.2.1 j) = F.2.2 j
  | 0 => ⟨fun _ j h => absurd h (by omega), fun _ => rfl⟩
  | k + 1 => by
    have ih := @lna_t F Y k
    show (lna F Y k && (bt Y (F.2.1 k) == F.2.2 k)) = true ↔ _
    rw [Bool.and_eq_true, ih, beq_iff_eq]
    constructor
    · rintro ⟨h1, h2⟩ j hj
      by_cases e : j = k
      · rw [e]; exact h2
      · exact h1 j (by omega)
    · intro h
      exact ⟨fun j hj => h j (by omega), h k (by omega)⟩
theorem z_and {x y : Int32} : x &&& y = 0 ↔ ∀ i, ¬ (bt x i = true ∧ bt y i = true) := by
  constructor
  · intro e i h
    have := congrArg (fun z => bt z i) e
    simp only [b_and, b_0, h.1, h.2] at this
    cases this
  · intro h
    apply b_ext
    intro i _
    rw [b_and, b_0]
    have := h i
    cases e1 : bt x i <;> cases e2 : bt y i <;> first | rfl | exact absurd ⟨e1, e2⟩ this
theorem cond_lna {R : rm} {F : fd} (hR : r_wf R) (hF : f_wf R F) (Y : Int32) : (fb F F.1 &&& (Y ^^^ (-1)) = 0 ∧ fnn F F.1 &&& Y = 0) ↔ lna F Y F.1 = true := by
  have nc := hR.nc
  rw [lna_t, z_and, z_and]
  constructor
  · rintro ⟨h1, h2⟩ j hj
    have hc := hF.2 j hj
    cases e : F.2.2 j with
    | true =>
      have := h1 (F.2.1 j)
      rw [b_not _ (by omega)] at this
      cases e2 : bt Y (F.2.1 j) with
      | true => rfl
      | false => exact absurd ⟨(fb_b hR hF F.1 (Nat.le_refl _)).mpr ⟨j, hj, e, rfl⟩, by rw [e2]; rfl⟩ this
    | false =>
      have := h2 (F.2.1 j)
      cases e2 : bt Y (F.2.1 j) with
      | false => rfl
      | true => exact absurd ⟨(fn_b hR hF F.1 (Nat.le_refl _)).mpr ⟨j, hj, by rw [e]; decide, rfl⟩, e2⟩ this
  · intro h
    refine ⟨fun i ⟨h1, h2⟩ => ?_, fun i ⟨h1, h2⟩ => ?_⟩
    · obtain ⟨j, hj, e1, e2⟩ := (fb_b hR hF F.1 (Nat.le_refl _)).mp h1
      have := h j hj
      rw [e2, e1] at this
      rw [b_not _ (b_lt h1), this] at h2
      cases h2
    · obtain ⟨j, hj, e1, e2⟩ := (fn_b hR hF F.1 (Nat.le_refl _)).mp h1
      have := h j hj
      rw [e2, h2] at this
      exact e1 this.symm
/-! searching the sets -/
def lf (T : Nat → Bool) (i : Int32) : Nat → Int32 × Option Int32
  | 0 => (0, none)
  | k + 1 => match (lf T i k).2 with
    | some v => ((lf T i k).1, some v)
    | none => if T k = true then (if (lf T i k).1 = i then ((lf T i k).1, some (nI k)) else ((lf T i k).1 + 1, none)) else ((lf T i k).1, none)
def lres (T : Nat → Bool) (i : Int32) (n : Nat) : Int32 := match (lf T i n).2 with
  | some v => v
  | none => if i = -1 then (lf T i n).1 else -1
theorem lf_k {T : Nat → Bool} {i v : Int32} {k : Nat} (h : (lf T i k).2 = some v) : ∀ {m : Nat}, k ≤ m → (lf T i m).2 = some v
  | 0, hm => by rw [show k = 0 by omega] at h; exact h
  | m + 1, hm => by
    by_cases e : k = m + 1
    · rw [← e]; exact h
    · have := lf_k h (m := m) (by omega)
      unfold lf; rw [this]
theorem search1 {T : Nat → Bool} {i : Int32} {a n : Nat} {B : Int32 → Nat → Prop} {Qf : Int32 → Prop} (ha : a ≤ n) (hst : lf T i a = (0, none)) (hB0 : ∀ f, (if i = -1 then Qf f else Qf (-1)) → B f n) (hB1 : ∀ f y, a ≤ y → y < n → (T y = true → f = i → Qf (nI y)) → (T y = true → ¬ f = i → B (f + 1) (y + 1)) → (T y = false → B f (y + 1)) → B f y) (h : Qf (lres T i n)) : B 0 a := by
  have := dnA (P := fun y => (lf T i y).2 = none → B (lf T i y).1 y) a n ha ?_ ?_
  · rw [hst] at this; exact this rfl
  · intro e
    refine hB0 _ ?_
    unfold lres at h
    rw [e] at h
    dsimp only at h
    by_cases z : i = -1
    · rw [if_pos z] at h ⊢; exact h
    · rw [if_neg z] at h ⊢; exact h
  · intro y hay hy ih2 e2
    refine hB1 _ _ hay hy (fun t1 t2 => ?_) (fun t1 t2 => ?_) (fun t1 => ?_)
    · have : (lf T i (y + 1)).2 = some (nI y) := by
        unfold lf; rw [e2]; dsimp only; rw [if_pos t1, if_pos t2]
      have := lf_k this (show y + 1 ≤ n by omega)
      unfold lres at h
      rw [this] at h; exact h
    · have : lf T i (y + 1) = ((lf T i y).1 + 1, none) := by
        rw [lf]; rw [e2]; dsimp only; rw [if_pos t1, if_neg t2]
      rw [this] at ih2; exact ih2 rfl
    · have : lf T i (y + 1) = ((lf T i y).1, none) := by
        rw [lf]; rw [e2]; dsimp only; rw [if_neg (by rw [t1]; decide)]
      rw [this] at ih2; exact ih2 rfl
/-- none, or some -/
theorem lf_no {T : Nat → Bool} {i : Int32} : ∀ {n : Nat}, (∀ m, m < n → T m = false) → lf T i n = (0, none)
  | 0, _ => rfl
  | n + 1, h => by
    have ih := lf_no (i := i) (n := n) (fun m hm => h m (by omega))
    rw [lf, ih]; dsimp only; rw [if_neg (by rw [h n (by omega)]; decide)]
def cnt (T : Nat → Bool) : Nat → Nat
  | 0 => 0
  | k + 1 => cnt T k + (if T k = true then 1 else 0)
theorem cnt_le {T : Nat → Bool} : ∀ n, cnt T n ≤ n
  | 0 => Nat.le_refl _
  | n + 1 => by
    have := cnt_le (T := T) n
    unfold cnt
    split <;> omega
theorem cnt_pos {T : Nat → Bool} {m : Nat} (hm : T m = true) : ∀ n, m < n → 0 < cnt T n
  | 0, h => absurd h (by omega)
  | n + 1, h => by
    unfold cnt
    by_cases e : m = n
    · rw [← e, if_pos hm]; omega
    · have := cnt_pos hm n (by omega)
      omega
theorem lf_all {T : Nat → Bool} : ∀ n, n ≤ 64 → lf T (-1) n = (nI (cnt T n), none)
  | 0, _ => rfl
  | n + 1, hn => by
    have ih := lf_all (T := T) n (by omega)
    have := cnt_le (T := T) n
    have hc : cnt T (n + 1) = cnt T n + (if T n = true then 1 else 0) := rfl
    rw [lf, ih, hc]; dsimp only
    by_cases e : T n = true
    · rw [if_pos e, if_pos e, if_neg (nI_m1 (by omega)), nI_1]
    · rw [if_neg e, if_neg e]; rfl
theorem lf_first {T : Nat → Bool} {m : Nat} (hm : T m = true) : ∀ n, m < n → ∃ j, j < n ∧ (lf T 0 n).2 = some (nI j)
  | 0, h => absurd h (by omega)
  | n + 1, h => by
    by_cases e : ∃ j, j < n ∧ T j = true
    · obtain ⟨j, h1, h2⟩ := e
      obtain ⟨k, h3, h4⟩ := lf_first h2 n h1
      exact ⟨k, by omega, lf_k h4 (by omega)⟩
    · have no : ∀ j, j < n → T j = false := fun j hj => bf (fun z => e ⟨j, hj, z⟩)
      have : m = n := by
        rcases Nat.lt_or_ge m n with z | z
        · rw [no m z] at hm; cases hm
        · omega
      refine ⟨n, by omega, ?_⟩
      rw [lf, lf_no no]; dsimp only; rw [← this, if_pos hm, if_pos rfl]
theorem lres_01 {T : Nat → Bool} {n : Nat} (hn : n ≤ 64) : (lres T (-1) n = 0) ↔ (lres T 0 n = -1) := by
  unfold lres
  rw [lf_all n hn]
  dsimp only
  rw [if_pos rfl]
  by_cases e : ∃ m, m < n ∧ T m = true
  · obtain ⟨m, h1, h2⟩ := e
    have p := cnt_pos h2 n h1
    have := cnt_le (T := T) n
    obtain ⟨j, j1, j2⟩ := lf_first h2 n h1
    rw [j2]; dsimp only
    exact ⟨fun z => absurd z (nI_ne0 p (by omega)), fun z => absurd z (nI_m1 (by omega))⟩
  · have no : ∀ j, j < n → T j = false := fun j hj => bf (fun z => e ⟨j, hj, z⟩)
    rw [lf_no no]
    have c0 : cnt T n = 0 := by
      have := lf_all (T := T) n hn
      rw [lf_no no] at this
      have := congrArg Prod.fst this
      dsimp only at this
      have h2 := cnt_le (T := T) n
      exact ((nI_eq (a := 0) (by omega) (by omega)).mp this).symm
    rw [c0]
    exact ⟨fun _ => by dsimp only; exact if_neg (by decide), fun _ => rfl⟩
def sf (T : Nat → Bool) : Nat → Int32
  | 0 => -1
  | m + 1 => if T m = true then sf T m &&& nI m else sf T m
def af (T U : Nat → Bool) : Nat → Int32
  | 0 => 0
  | m + 1 => if T m = true then (if U m = true then af T U m + 1 else af T U m + (-1)) else af T U m
def bst (T : Nat → Bool) (U : Nat → Nat → Bool) (n : Nat) : Nat → Int32 × Int32
  | 0 => (-1, 0)
  | c + 1 => if (bst T U n c).1 = -1 ∨ ¬ (bst T U n c).2 ≤ ab1 (af T (U c) n) then (nI c, ab1 (af T (U c) n)) else bst T U n c
def fT (R : rm) (s : sc) (F : fd) (k : Int32) (m : Nat) : Bool := ft R s F k (nI m)
def fU (R : rm) (s : sc) (c m : Nat) : Bool := bt (lb R s (nI m) (r_np R)) c
def A_leant (R : rm) (s : sc) (F : fd) (k i : Int32) : Int32 := if r_n R = 0 ∨ k < 1 ∨ 3 < k ∨ ¬ (-1 : Int32) ≤ i then -1 else lres (fT R s F k) i (2 ^ r_np R)
def A_sure (R : rm) (s : sc) (F : fd) (k : Int32) : Int32 := if r_n R = 0 ∨ k < 1 ∨ 3 < k then -1 else sf (fT R s F k) (2 ^ r_np R)
def A_best (R : rm) (s : sc) (F : fd) (k : Int32) : Int32 := if r_n R = 0 ∨ k < 1 ∨ 3 < k ∨ lres (fT R s F k) 0 (2 ^ r_np R) = -1 then -1 else (bst (fT R s F k) (fU R s) (2 ^ r_np R) (r_nc R)).1
theorem fT_0 {R : rm} {s : sc} {F : fd} {k : Int32} (hk : ¬ k < 1) : fT R s F k 0 = false := by
  unfold fT ft
  have : ¬ bc (nI 0) = k := fun e => hk (by rw [← e]; decide)
  rw [decide_eq_false this]; rfl
section LN
variable {l : Launch} {G : mj_G} {L r x rs : Nat} {R : rm} {s : sc} {S S' : mj_S} {F : fd}
def CF (S : mj_S) (F : fd) : Prop := m_gi S 6 16 = nI F.1 ∧ m_gi S 6 17 = fb F F.1 ∧ m_gi S 6 18 = fnn F F.1
theorem CF.fr (h : CF S F) (f : fr DC S S') : CF S' F := ⟨(f.i _ _ rfl).trans h.1, (f.i _ _ rfl).trans h.2.1, (f.i _ _ rfl).trans h.2.2⟩
theorem s_leanedOnBy {X : Int32} {Q : mj_S → Int32 → Prop} (C : CI L S r 50 rs R s) (h : Q S (lb R s X (r_np R))) : M_X10_leanedOnBy l G 6 X S Q := by
  have np := C.rw.np
  refine e_X10_leanedOnBy (b_X10_leanedOnBy_0 C.sh.k6 ?_)
  refine dn (P := fun p => V_X10_leanedOnBy_4 l G 6 X (lb R s X p) (nI p) S Q) (r_np R) ?_ ?_
  · refine b_X10_leanedOnBy_4 C.sh.k6 ?_
    try simp only [Option.some.injEq, exists_eq_left', fi32, i10, i00, false_implies, true_implies, not_false_eq_true, not_true_eq_false, true_and, and_true, nI_1, lz0, lz1, ix0, ix11, ix2, C.p, C.sh.p6_0, C.sh.p6_4, C.sh.p6_7, C.sh.p6_8, C.sh.p6_9, C.sh.p6_10, C.sh.p6_11, C.sh.p6_12, C.sh.p6_13, C.sh.p50_1, C.sh.p50_2, C.sh.l60, C.sh.l61, C.rc.w, C.rc.h, C.rc.li, C.rc.mo, C.rc.n, C.rc.nc, C.rc.np, C.sh.rp8 C.irm, C.sh.rl8 C.irm, C.sh.rp9 C.irm, C.sh.rl9 C.irm, C.sh.rp10 C.irm, C.sh.rl10 C.irm, C.sh.rp11 C.irm, C.sh.rl11 C.irm, C.sh.rp12 C.irm, C.sh.rl12 C.irm, C.sh.rp16 C.irm, C.sh.rl16 C.irm, geT (show r_np R < 2 ^ 31 by omega)]
    exact h
  · intro p hp ih
    have hin : vp_in (nI p) 6 := vp_nI (by omega) (by omega)
    unfold lb at ih
    refine b_X10_leanedOnBy_4 C.sh.k6 ?_
    try simp only [Option.some.injEq, exists_eq_left', fi32, i10, i00, false_implies, true_implies, not_false_eq_true, not_true_eq_false, true_and, and_true, nI_1, lz0, lz1, ix0, ix11, ix2, C.p, C.sh.p6_0, C.sh.p6_4, C.sh.p6_7, C.sh.p6_8, C.sh.p6_9, C.sh.p6_10, C.sh.p6_11, C.sh.p6_12, C.sh.p6_13, C.sh.p50_1, C.sh.p50_2, C.sh.l60, C.sh.l61, C.rc.w, C.rc.h, C.rc.li, C.rc.mo, C.rc.n, C.rc.nc, C.rc.np, C.sh.rp8 C.irm, C.sh.rl8 C.irm, C.sh.rp9 C.irm, C.sh.rl9 C.irm, C.sh.rp10 C.irm, C.sh.rl10 C.irm, C.sh.rp11 C.irm, C.sh.rl11 C.irm, C.sh.rp12 C.irm, C.sh.rl12 C.irm, C.sh.rp16 C.irm, C.sh.rl16 C.irm, gtF hp (show r_np R < 2 ^ 31 by omega)]
    refine s_has (by omega) (fun hb => ?_) (fun hb => ?_)
    · rw [if_pos hb] at ih
      try simp only [Option.some.injEq, exists_eq_left', fi32, i10, i00, false_implies, true_implies, not_false_eq_true, not_true_eq_false, true_and, and_true, nI_1, lz0, lz1, ix0, ix11, ix2, C.p, C.sh.p6_0, C.sh.p6_4, C.sh.p6_7, C.sh.p6_8, C.sh.p6_9, C.sh.p6_10, C.sh.p6_11, C.sh.p6_12, C.sh.p6_13, C.sh.p50_1, C.sh.p50_2, C.sh.l60, C.sh.l61, C.rc.w, C.rc.h, C.rc.li, C.rc.mo, C.rc.n, C.rc.nc, C.rc.np, C.sh.rp8 C.irm, C.sh.rl8 C.irm, C.sh.rp9 C.irm, C.sh.rl9 C.irm, C.sh.rp10 C.irm, C.sh.rl10 C.irm, C.sh.rp11 C.irm, C.sh.rl11 C.irm, C.sh.rp12 C.irm, C.sh.rl12 C.irm, C.sh.rp16 C.irm, C.sh.rl16 C.irm, hin, nI_clamp (show p < 2 ^ 31 by omega), C.sn.pl hp]
      refine s_besides C (C.sw.pl hp) ?_
      try simp only [Option.some.injEq, exists_eq_left', fi32, i10, i00, false_implies, true_implies, not_false_eq_true, not_true_eq_false, true_and, and_true, nI_1, lz0, lz1, ix0, ix11, ix2]
      exact ih
    · rw [if_neg (by rw [hb]; decide)] at ih
      try simp only [Option.some.injEq, exists_eq_left', fi32, i10, i00, false_implies, true_implies, not_false_eq_true, not_true_eq_false, true_and, and_true, nI_1, lz0, lz1, ix0, ix11, ix2]
      exact ih
theorem s_fits {X k : Int32} {Q : mj_S → Int32 → Prop} (C : CI L S r 50 rs R s) (hF : f_wf R F) (B : CF S F) (h1 : ft R s F k X = true → Q S 1) (h0 : ft R s F k X = false → Q S 0) : M_X10_fits l G 6 X k S Q := by
  have key := cond_lna C.rw hF (lb R s X (r_np R))
  unfold ft at h1 h0
  refine e_X10_fits (b_X10_fits_0 C.sh.k6 (s_bc ⟨fun z => s_leanedOnBy C ?_, fun z => h0 (by rw [decide_eq_false z]; rfl)⟩))
  rw [B.2.1, B.2.2]
  rw [decide_eq_true z, Bool.true_and] at h1 h0
  refine ⟨fun y => h0 (bf (fun w => y (key.mpr w).1)), fun y => ⟨fun y2 => h0 (bf (fun w => y2 (key.mpr w).2)), fun y2 => h1 (key.mp ⟨y, y2⟩)⟩⟩
theorem s_canLean {k : Int32} {Q : mj_S → Int32 → Prop} (C : CI L S r x rs R s) (h1 : ¬ (r_n R = 0 ∨ k < 1 ∨ 3 < k) → Q S 1) (h0 : r_n R = 0 ∨ k < 1 ∨ 3 < k → Q S 0) : M_X10_canLean l G 6 k S Q := by
  refine e_X10_canLean (b_X10_canLean_0 C.sh.k6 (s_hasRoom C (fun e => ?_) (fun e => ?_)))
  · try simp only [Option.some.injEq, exists_eq_left', fi32, i10, i00, false_implies, true_implies, not_false_eq_true, not_true_eq_false, true_and, and_true, nI_1, lz0, lz1, ix0, ix11, ix2]
    refine s_wit (fun q1 q2 => ?_) (fun q => ?_)
    · try simp only [Option.some.injEq, exists_eq_left', fi32, i10, i00, false_implies, true_implies, not_false_eq_true, not_true_eq_false, true_and, and_true, nI_1, lz0, lz1, ix0, ix11, ix2]
      exact h1 (fun z => by rcases z with z | z | z; omega; exact q1 z; exact q2 z)
    · try simp only [Option.some.injEq, exists_eq_left', fi32, i10, i00, false_implies, true_implies, not_false_eq_true, not_true_eq_false, true_and, and_true, nI_1, lz0, lz1, ix0, ix11, ix2]
      exact h0 (Or.inr q)
  · try simp only [Option.some.injEq, exists_eq_left', fi32, i10, i00, false_implies, true_implies, not_false_eq_true, not_true_eq_false, true_and, and_true, nI_1, lz0, lz1, ix0, ix11, ix2]
    exact h0 (Or.inl e)
theorem pow6 {n : Nat} (h : n ≤ 6) : 2 ^ n ≤ 64 := Nat.pow_le_pow_right (by omega) h
theorem s_leant {k i : Int32} {Q : mj_S → Int32 → Prop} (C : CI L S r 50 rs R s) (hF : f_wf R F) (B : CF S F) (h : Q S (A_leant R s F k i)) : M_X10_leant l G 6 k i S Q := by
  have np := C.rw.np
  have h64 := pow6 np
  have hpos : 0 < 2 ^ r_np R := Nat.pow_pos (by omega)
  unfold A_leant at h
  refine e_X10_leant (b_X10_leant_0 C.sh.k6 (s_canLean C (fun e => ?_) (fun e => ?_)))
  · try simp only [Option.some.injEq, exists_eq_left', fi32, i10, i00, false_implies, true_implies, not_false_eq_true, not_true_eq_false, true_and, and_true, nI_1, lz0, lz1, ix0, ix11, ix2]
    refine ⟨fun z => ?_, fun z => ?_⟩
    · rw [if_neg (fun y => by rcases y with y | y | y | y; exact e (Or.inl y); exact e (Or.inr (Or.inl y)); exact e (Or.inr (Or.inr y)); exact y z)] at h
      have h0 := fT_0 (R := R) (s := s) (F := F) (k := k) (fun y => e (Or.inr (Or.inl y)))
      refine search1 (T := fT R s F k) (i := i) (a := 1) (n := 2 ^ r_np R) (B := fun f' m => V_X10_leant_20 l G 6 k i f' (nI m) S Q) (Qf := fun v => Q S v) (by omega) (lf_no (fun m hm => by rw [show m = 0 by omega]; exact h0)) ?_ ?_ h
      · intro f' hf
        refine b_X10_leant_20 C.sh.k6 ⟨r, C.p, s_allP C.sh C.irm C.rc ⟨fun _ => ⟨fun z => by rw [if_neg z] at hf; exact hf, fun z => by rw [if_pos z] at hf; exact hf⟩, fun z => absurd ?_ z⟩⟩
        rw [al_nI (by omega)]; exact nI_lt (by omega) (by omega)
      · intro f' m _ hm k1 k2 k3
        refine b_X10_leant_20 C.sh.k6 ⟨r, C.p, s_allP C.sh C.irm C.rc ⟨fun z => absurd z (by rw [al_nI (by omega)]; exact nI_nlt (by omega) (by omega)), fun _ => s_fits C hF B (fun e2 => ?_) (fun e2 => ?_)⟩⟩
        · try simp only [Option.some.injEq, exists_eq_left', fi32, i10, i00, false_implies, true_implies, not_false_eq_true, not_true_eq_false, true_and, and_true, nI_1, lz0, lz1, ix0, ix11, ix2]
          exact ⟨fun z => k2 e2 z, fun z => k1 e2 z⟩
        · try simp only [Option.some.injEq, exists_eq_left', fi32, i10, i00, false_implies, true_implies, not_false_eq_true, not_true_eq_false, true_and, and_true, nI_1, lz0, lz1, ix0, ix11, ix2]
          exact k3 e2
    · rw [if_pos (Or.inr (Or.inr (Or.inr z)))] at h
      exact h
  · rw [if_pos (by rcases e with y | y | y; exact Or.inl y; exact Or.inr (Or.inl y); exact Or.inr (Or.inr (Or.inl y)))] at h
    try simp only [Option.some.injEq, exists_eq_left', fi32, i10, i00, false_implies, true_implies, not_false_eq_true, not_true_eq_false, true_and, and_true, nI_1, lz0, lz1, ix0, ix11, ix2]
    exact h
theorem c_sure {k : Int32} {Q : mj_S → Int32 → Prop} (C : CI L S r 50 rs R s) (hF : f_wf R F) (B : CF S F) (h : Q S (A_sure R s F k)) : M_X10_sure l G 6 k S Q := by
  have np := C.rw.np
  have h64 := pow6 np
  have hpos : 0 < 2 ^ r_np R := Nat.pow_pos (by omega)
  unfold A_sure at h
  refine e_X10_sure (b_X10_sure_0 C.sh.k6 (s_canLean C (fun e => ?_) (fun e => ?_)))
  · rw [if_neg e] at h
    try simp only [Option.some.injEq, exists_eq_left', fi32, i10, i00, false_implies, true_implies, not_false_eq_true, not_true_eq_false, true_and, and_true, nI_1, lz0, lz1, ix0, ix11, ix2]
    have h0 := fT_0 (R := R) (s := s) (F := F) (k := k) (fun y => e (Or.inr (Or.inl y)))
    have := dnA (P := fun m => V_X10_sure_14 l G 6 k (sf (fT R s F k) m) (nI m) S Q) 1 (2 ^ r_np R) (by omega) ?_ ?_
    · have e1 : sf (fT R s F k) 1 = -1 := if_neg (by rw [h0]; decide)
      rw [e1] at this; exact this
    · refine b_X10_sure_14 C.sh.k6 ⟨r, C.p, s_allP C.sh C.irm C.rc ⟨fun _ => h, fun z => absurd ?_ z⟩⟩
      rw [al_nI (by omega)]; exact nI_lt (by omega) (by omega)
    · intro m _ hm ih
      unfold sf at ih
      refine b_X10_sure_14 C.sh.k6 ⟨r, C.p, s_allP C.sh C.irm C.rc ⟨fun z => absurd z (by rw [al_nI (by omega)]; exact nI_nlt (by omega) (by omega)), fun _ => s_fits C hF B (fun e2 => ?_) (fun e2 => ?_)⟩⟩
      · rw [if_pos (show fT R s F k m = true from e2)] at ih
        try simp only [Option.some.injEq, exists_eq_left', fi32, i10, i00, false_implies, true_implies, not_false_eq_true, not_true_eq_false, true_and, and_true, nI_1, lz0, lz1, ix0, ix11, ix2]
        exact ih
      · rw [if_neg (by unfold fT; rw [e2]; decide)] at ih
        try simp only [Option.some.injEq, exists_eq_left', fi32, i10, i00, false_implies, true_implies, not_false_eq_true, not_true_eq_false, true_and, and_true, nI_1, lz0, lz1, ix0, ix11, ix2]
        exact ih
  · rw [if_pos e] at h
    try simp only [Option.some.injEq, exists_eq_left', fi32, i10, i00, false_implies, true_implies, not_false_eq_true, not_true_eq_false, true_and, and_true, nI_1, lz0, lz1, ix0, ix11, ix2]
    exact h
theorem s_apartBy {c : Nat} {k : Int32} {Q : mj_S → Int32 → Prop} (C : CI L S r 50 rs R s) (hF : f_wf R F) (B : CF S F) (hc : c < r_nc R) (hk : ¬ k < 1) (h : Q S (ab1 (af (fT R s F k) (fU R s c) (2 ^ r_np R)))) : M_X10_apartBy l G 6 (nI c) k S Q := by
  have np := C.rw.np
  have nc := C.rw.nc
  have h64 := pow6 np
  have hpos : 0 < 2 ^ r_np R := Nat.pow_pos (by omega)
  refine e_X10_apartBy (b_X10_apartBy_0 C.sh.k6 ?_)
  have h0 := fT_0 (R := R) (s := s) (F := F) (k := k) hk
  have := dnA (P := fun m => V_X10_apartBy_5 l G 6 (nI c) k (af (fT R s F k) (fU R s c) m) (nI m) S Q) 1 (2 ^ r_np R) (by omega) ?_ ?_
  · have e1 : af (fT R s F k) (fU R s c) 1 = 0 := if_neg (by rw [h0]; decide)
    rw [e1] at this; exact this
  · refine b_X10_apartBy_5 C.sh.k6 ⟨r, C.p, s_allP C.sh C.irm C.rc ⟨fun _ => s_ab h, fun z => absurd ?_ z⟩⟩
    rw [al_nI (by omega)]; exact nI_lt (by omega) (by omega)
  · intro m _ hm ih
    unfold af at ih
    refine b_X10_apartBy_5 C.sh.k6 ⟨r, C.p, s_allP C.sh C.irm C.rc ⟨fun z => absurd z (by rw [al_nI (by omega)]; exact nI_nlt (by omega) (by omega)), fun _ => s_fits C hF B (fun e2 => ?_) (fun e2 => ?_)⟩⟩
    · rw [if_pos (show fT R s F k m = true from e2)] at ih
      try simp only [Option.some.injEq, exists_eq_left', fi32, i10, i00, false_implies, true_implies, not_false_eq_true, not_true_eq_false, true_and, and_true, nI_1, lz0, lz1, ix0, ix11, ix2]
      refine s_leanedOnBy C (s_has (by omega) (fun hb => ?_) (fun hb => ?_))
      · rw [if_pos (show fU R s c m = true from hb)] at ih
        try simp only [Option.some.injEq, exists_eq_left', fi32, i10, i00, false_implies, true_implies, not_false_eq_true, not_true_eq_false, true_and, and_true, nI_1, lz0, lz1, ix0, ix11, ix2]
        exact ih
      · rw [if_neg (by unfold fU; rw [hb]; decide)] at ih
        try simp only [Option.some.injEq, exists_eq_left', fi32, i10, i00, false_implies, true_implies, not_false_eq_true, not_true_eq_false, true_and, and_true, nI_1, lz0, lz1, ix0, ix11, ix2]
        exact ih
    · rw [if_neg (by unfold fT; rw [e2]; decide)] at ih
      try simp only [Option.some.injEq, exists_eq_left', fi32, i10, i00, false_implies, true_implies, not_false_eq_true, not_true_eq_false, true_and, and_true, nI_1, lz0, lz1, ix0, ix11, ix2]
      exact ih
theorem c_best {k : Int32} {Q : mj_S → Int32 → Prop} (C : CI L S r 50 rs R s) (hF : f_wf R F) (B : CF S F) (h : Q S (A_best R s F k)) : M_X10_best l G 6 k S Q := by
  have np := C.rw.np
  have nc := C.rw.nc
  have h64 := pow6 np
  unfold A_best at h
  refine e_X10_best (b_X10_best_0 C.sh.k6 (s_canLean C (fun e => ?_) (fun e => ?_)))
  · try simp only [Option.some.injEq, exists_eq_left', fi32, i10, i00, false_implies, true_implies, not_false_eq_true, not_true_eq_false, true_and, and_true, nI_1, lz0, lz1, ix0, ix11, ix2]
    refine s_leant C hF B ?_
    have hA : A_leant R s F k (-1) = lres (fT R s F k) (-1) (2 ^ r_np R) := if_neg (fun y => by rcases y with y | y | y | y; exact e (Or.inl y); exact e (Or.inr (Or.inl y)); exact e (Or.inr (Or.inr y)); exact y (by decide))
    rw [hA]
    refine ⟨fun z => ?_, fun z => ?_⟩
    · rw [if_neg (fun y => by rcases y with y | y | y | y; exact e (Or.inl y); exact e (Or.inr (Or.inl y)); exact e (Or.inr (Or.inr y)); exact z ((lres_01 h64).mpr y))] at h
      refine dn (P := fun c => V_X10_best_26 l G 6 k (bst (fT R s F k) (fU R s) (2 ^ r_np R) c).1 (bst (fT R s F k) (fU R s) (2 ^ r_np R) c).2 (nI c) S Q) (r_nc R) ?_ ?_
      · refine b_X10_best_26 C.sh.k6 ?_
        try simp only [Option.some.injEq, exists_eq_left', fi32, i10, i00, false_implies, true_implies, not_false_eq_true, not_true_eq_false, true_and, and_true, nI_1, lz0, lz1, ix0, ix11, ix2, C.p, C.sh.p6_0, C.sh.p6_4, C.sh.p6_7, C.sh.p6_8, C.sh.p6_9, C.sh.p6_10, C.sh.p6_11, C.sh.p6_12, C.sh.p6_13, C.sh.p50_1, C.sh.p50_2, C.sh.l60, C.sh.l61, C.rc.w, C.rc.h, C.rc.li, C.rc.mo, C.rc.n, C.rc.nc, C.rc.np, C.sh.rp8 C.irm, C.sh.rl8 C.irm, C.sh.rp9 C.irm, C.sh.rl9 C.irm, C.sh.rp10 C.irm, C.sh.rl10 C.irm, C.sh.rp11 C.irm, C.sh.rl11 C.irm, C.sh.rp12 C.irm, C.sh.rl12 C.irm, C.sh.rp16 C.irm, C.sh.rl16 C.irm, geT (show r_nc R < 2 ^ 31 by omega)]
        exact h
      · intro c hc ih
        unfold bst at ih
        refine b_X10_best_26 C.sh.k6 ?_
        try simp only [Option.some.injEq, exists_eq_left', fi32, i10, i00, false_implies, true_implies, not_false_eq_true, not_true_eq_false, true_and, and_true, nI_1, lz0, lz1, ix0, ix11, ix2, C.p, C.sh.p6_0, C.sh.p6_4, C.sh.p6_7, C.sh.p6_8, C.sh.p6_9, C.sh.p6_10, C.sh.p6_11, C.sh.p6_12, C.sh.p6_13, C.sh.p50_1, C.sh.p50_2, C.sh.l60, C.sh.l61, C.rc.w, C.rc.h, C.rc.li, C.rc.mo, C.rc.n, C.rc.nc, C.rc.np, C.sh.rp8 C.irm, C.sh.rl8 C.irm, C.sh.rp9 C.irm, C.sh.rl9 C.irm, C.sh.rp10 C.irm, C.sh.rl10 C.irm, C.sh.rp11 C.irm, C.sh.rl11 C.irm, C.sh.rp12 C.irm, C.sh.rl12 C.irm, C.sh.rp16 C.irm, C.sh.rl16 C.irm, gtF hc (show r_nc R < 2 ^ 31 by omega)]
        refine s_apartBy C hF B hc (fun y => e (Or.inr (Or.inl y))) ⟨fun y => ?_, fun y => ⟨fun y2 => ?_, fun y2 => ?_⟩⟩
        · rw [if_pos (Or.inl y)] at ih
          try simp only [Option.some.injEq, exists_eq_left', fi32, i10, i00, false_implies, true_implies, not_false_eq_true, not_true_eq_false, true_and, and_true, nI_1, lz0, lz1, ix0, ix11, ix2]
          exact ih
        · rw [if_neg (fun w => by rcases w with w | w; exact y w; exact w y2)] at ih
          try simp only [Option.some.injEq, exists_eq_left', fi32, i10, i00, false_implies, true_implies, not_false_eq_true, not_true_eq_false, true_and, and_true, nI_1, lz0, lz1, ix0, ix11, ix2]
          exact ih
        · rw [if_pos (Or.inr y2)] at ih
          try simp only [Option.some.injEq, exists_eq_left', fi32, i10, i00, false_implies, true_implies, not_false_eq_true, not_true_eq_false, true_and, and_true, nI_1, lz0, lz1, ix0, ix11, ix2]
          exact ih
    · rw [if_pos (Or.inr (Or.inr (Or.inr ((lres_01 h64).mp z))))] at h
      exact h
  · rw [if_pos (by rcases e with y | y | y; exact Or.inl y; exact Or.inr (Or.inl y); exact Or.inr (Or.inr (Or.inl y)))] at h
    try simp only [Option.some.injEq, exists_eq_left', fi32, i10, i00, false_implies, true_implies, not_false_eq_true, not_true_eq_false, true_and, and_true, nI_1, lz0, lz1, ix0, ix11, ix2]
    exact h
end LN
/-! the reference -/
section RLN
variable {l : Launch} {G : mj_G} {L : Nat} {R : rm} {s : sc} {S S' : mj_S} {F : fd}
def RFD (S : mj_S) (F : fd) : Prop := m_gi S 89 44 = nI F.1 ∧ ∀ j, j < F.1 → m_gi S 116 j = nI (F.2.1 j) ∧ m_gi S 117 j = (if F.2.2 j = true then 1 else 0)
theorem RFD.fr (h : RFD S F) (f : fr DR S S') : RFD S' F := ⟨(f.i _ _ rfl).trans h.1, fun j hj => ⟨(f.i _ _ rfl).trans (h.2 j hj).1, (f.i _ _ rfl).trans (h.2 j hj).2⟩⟩
theorem lb_ge {X : Int32} {c p : Nat} (hR : r_wf R) (hc : c < r_nc R) (h1 : bt X p = true) (h2 : be R (s_pl s p) c = true) : ∀ {k : Nat}, p < k → bt (lb R s X k) c = true
  | 0, h => absurd h (by omega)
  | k + 1, h => by
    have nc := hR.nc
    unfold lb
    by_cases e : p = k
    · rw [← e, if_pos h1, b_or, b_bs _ _ (by omega), h2]; simp [hc]
    · have ih := lb_ge (k := k) hR hc h1 h2 (by omega)
      split
      · rw [b_or, ih]; rfl
      · exact ih
theorem lb_no {X : Int32} {c : Nat} (hR : r_wf R) (hc : c < r_nc R) : ∀ {k : Nat}, (∀ p, p < k → bt X p = true → be R (s_pl s p) c = false) → bt (lb R s X k) c = false
  | 0, _ => by rw [show lb R s X 0 = 0 from rfl, b_0]
  | k + 1, h => by
    have nc := hR.nc
    have ih := lb_no (k := k) hR hc (fun p hp => h p (by omega))
    unfold lb
    split
    · rename_i e
      rw [b_or, ih, b_bs _ _ (by omega), h k (by omega) e]; simp
    · exact ih
theorem s_couldLean {X : Int32} {c : Nat} {Q : mj_S → Int32 → Prop} (C : RI L S R s) (hc : c < r_nc R) (h1 : bt (lb R s X (r_np R)) c = true → Q S 1) (h0 : bt (lb R s X (r_np R)) c = false → Q S 0) : M_X11_couldLean l G 89 X (nI c) S Q := by
  have np := C.rw.np
  refine e_X11_couldLean (b_X11_couldLean_0 C.sh.k89 ?_)
  refine dn (P := fun k => (∀ p, p < k → bt X p = true → be R (s_pl s p) c = false) → V_X11_couldLean_2 l G 89 X (nI c) (nI k) S Q) (r_np R) ?_ ?_ (fun p z => absurd z (by omega))
  · intro hf
    refine b_X11_couldLean_2 C.sh.k89 ?_
    try simp only [Option.some.injEq, exists_eq_left', fi32, i10, i00, false_implies, true_implies, not_false_eq_true, not_true_eq_false, true_and, and_true, nI_1, lz0, lz1, ix0, ix11, ix2, C.sh.p89_22, C.sh.p89_23, C.sh.p89_24, C.sh.p89_28, C.sh.p89_32, C.sh.p89_33, C.sh.l103, C.sh.l104, C.sh.l105, C.sh.l106, C.sh.l108, C.sh.l109, C.rr.n, C.rr.nc, C.rr.np, C.rr.w, C.rr.h, C.rr.li, C.rr.mo, C.rs.bk, C.rs.yr, ix4, ix6, geT (show r_np R < 2 ^ 31 by omega)]
    exact h0 (lb_no C.rw hc hf)
  · intro p hp ih hf
    have hin : vp_in (nI (11 + p)) 199 := vp_nI (by omega) (by omega)
    have next : (bt X p = true → be R (s_pl s p) c = false) → V_X11_couldLean_2 l G 89 X (nI c) (nI (p + 1)) S Q := fun z => ih (fun p' hp' => by
      by_cases e : p' = p
      · rw [e]; exact z
      · exact hf p' (by omega))
    refine b_X11_couldLean_2 C.sh.k89 ?_
    try simp only [Option.some.injEq, exists_eq_left', fi32, i10, i00, false_implies, true_implies, not_false_eq_true, not_true_eq_false, true_and, and_true, nI_1, lz0, lz1, ix0, ix11, ix2, C.sh.p89_22, C.sh.p89_23, C.sh.p89_24, C.sh.p89_28, C.sh.p89_32, C.sh.p89_33, C.sh.l103, C.sh.l104, C.sh.l105, C.sh.l106, C.sh.l108, C.sh.l109, C.rr.n, C.rr.nc, C.rr.np, C.rr.w, C.rr.h, C.rr.li, C.rr.mo, C.rs.bk, C.rs.yr, ix4, ix6, gtF hp (show r_np R < 2 ^ 31 by omega)]
    refine s_rhas (by omega) (fun hb => ?_) (fun hb => ?_)
    · try simp only [Option.some.injEq, exists_eq_left', fi32, i10, i00, false_implies, true_implies, not_false_eq_true, not_true_eq_false, true_and, and_true, nI_1, lz0, lz1, ix0, ix11, ix2, C.sh.p89_22, C.sh.p89_23, C.sh.p89_24, C.sh.p89_28, C.sh.p89_32, C.sh.p89_33, C.sh.l103, C.sh.l104, C.sh.l105, C.sh.l106, C.sh.l108, C.sh.l109, C.rr.n, C.rr.nc, C.rr.np, C.rr.w, C.rr.h, C.rr.li, C.rr.mo, C.rs.bk, C.rs.yr, ix4, ix6, hin, nI_clamp (show 11 + p < 2 ^ 31 by omega), C.rs.pl hp]
      refine s_isAt C hc (C.sw.pl hp) (fun hb2 => ?_) (fun hb2 => ?_)
      · try simp only [Option.some.injEq, exists_eq_left', fi32, i10, i00, false_implies, true_implies, not_false_eq_true, not_true_eq_false, true_and, and_true, nI_1, lz0, lz1, ix0, ix11, ix2]
        exact h1 (lb_ge C.rw hc hb (by unfold be; simpa using hb2) hp)
      · try simp only [Option.some.injEq, exists_eq_left', fi32, i10, i00, false_implies, true_implies, not_false_eq_true, not_true_eq_false, true_and, and_true, nI_1, lz0, lz1, ix0, ix11, ix2]
        exact next (fun _ => by unfold be; simpa using hb2)
    · try simp only [Option.some.injEq, exists_eq_left', fi32, i10, i00, false_implies, true_implies, not_false_eq_true, not_true_eq_false, true_and, and_true, nI_1, lz0, lz1, ix0, ix11, ix2]
      exact next (fun z => by rw [hb] at z; cases z)
theorem nar0 : narrow .boolean (.int 0) = .int 0 := by decide
theorem nar1 : narrow .boolean (.int 1) = .int 1 := by decide
theorem lna_f {Y : Int32} {k : Nat} (h : lna F Y k = false) : ∀ {m : Nat}, k ≤ m → lna F Y m = false
  | 0, hm => by rw [show k = 0 by omega] at h; exact h
  | m + 1, hm => by
    by_cases e : k = m + 1
    · rw [← e]; exact h
    · have := lna_f h (m := m) (by omega)
      unfold lna; rw [this]; rfl
theorem s_isLeant {X k : Int32} {Q : mj_S → Int32 → Prop} (C : RI L S R s) (hF : f_wf R F) (B : RFD S F) (h1 : ft R s F k X = true → Q S 1) (h0 : ft R s F k X = false → Q S 0) : M_X11_isLeant l G 89 k X S Q := by
  have hf10 := hF.1
  have end0 : ft R s F k X = false → ∀ j, V_X11_isLeant_17 l G 89 X 0 j S Q := fun z j => b_X11_isLeant_17 C.sh.k89 ⟨fun _ => ⟨nar0, h0 z⟩, fun _ => ⟨fun _ => ⟨nar0, h0 z⟩, fun y => absurd rfl y⟩⟩
  refine e_X11_isLeant (b_X11_isLeant_0 C.sh.k89 (s_bc ⟨fun z => end0 (by unfold ft; rw [decide_eq_false z]; rfl) _, fun z => ?_⟩))
  unfold ft at h1 end0
  rw [decide_eq_true z, Bool.true_and] at h1 end0
  refine dn (P := fun j => lna F (lb R s X (r_np R)) j = true → V_X11_isLeant_17 l G 89 X 1 (nI j) S Q) F.1 ?_ ?_ rfl
  · intro e
    refine b_X11_isLeant_17 C.sh.k89 ⟨fun _ => ⟨nar1, h1 e⟩, fun y => absurd ?_ y⟩
    rw [B.1]; exact nI_le (Nat.le_refl _) (by omega)
  · intro j hj ih e
    have hin : vp_in (nI j) 10 := vp_nI (by omega) (by omega)
    have hB := B.2 j hj
    have hfc := hF.2 j hj
    refine b_X11_isLeant_17 C.sh.k89 ?_
    try simp only [Option.some.injEq, exists_eq_left', fi32, i10, i00, false_implies, true_implies, not_false_eq_true, not_true_eq_false, true_and, and_true, nI_1, lz0, lz1, ix0, ix11, ix2, C.sh.p89_22, C.sh.p89_23, C.sh.p89_24, C.sh.p89_28, C.sh.p89_32, C.sh.p89_33, C.sh.l103, C.sh.l104, C.sh.l105, C.sh.l106, C.sh.l108, C.sh.l109, C.rr.n, C.rr.nc, C.rr.np, C.rr.w, C.rr.h, C.rr.li, C.rr.mo, C.rs.bk, C.rs.yr, ix4, ix6, B.1, gtF hj (show F.1 < 2 ^ 31 by omega), C.sh.p89_42, C.sh.l116, hin, nI_clamp (show j < 2 ^ 31 by omega), hB.1]
    have nxt : bt (lb R s X (r_np R)) (F.2.1 j) = F.2.2 j → V_X11_isLeant_17 l G 89 X 1 (nI (j + 1)) S Q := fun y => ih (by unfold lna; rw [e, y]; simp)
    have stop : ¬ bt (lb R s X (r_np R)) (F.2.1 j) = F.2.2 j → V_X11_isLeant_17 l G 89 X 0 (nI (j + 1)) S Q := fun y => end0 (lna_f (k := j + 1) (by unfold lna; rw [e]; simpa using y) (by omega)) _
    refine s_couldLean C hfc (fun hb => ?_) (fun hb => ?_)
    · rw [hb] at nxt stop
      try simp only [Option.some.injEq, exists_eq_left', fi32, i10, i00, false_implies, true_implies, not_false_eq_true, not_true_eq_false, true_and, and_true, nI_1, lz0, lz1, ix0, ix11, ix2, C.sh.p89_22, C.sh.p89_23, C.sh.p89_24, C.sh.p89_28, C.sh.p89_32, C.sh.p89_33, C.sh.l103, C.sh.l104, C.sh.l105, C.sh.l106, C.sh.l108, C.sh.l109, C.rr.n, C.rr.nc, C.rr.np, C.rr.w, C.rr.h, C.rr.li, C.rr.mo, C.rs.bk, C.rs.yr, ix4, ix6, C.sh.p89_43, C.sh.l117, hin, nI_clamp (show j < 2 ^ 31 by omega), hB.2]
      cases e2 : F.2.2 j with
      | true => rw [e2] at nxt; exact ⟨fun y => absurd rfl y, fun _ => nxt rfl⟩
      | false => rw [e2] at stop; exact ⟨fun _ => stop (by decide), fun y => absurd y (by decide)⟩
    · rw [hb] at nxt stop
      try simp only [Option.some.injEq, exists_eq_left', fi32, i10, i00, false_implies, true_implies, not_false_eq_true, not_true_eq_false, true_and, and_true, nI_1, lz0, lz1, ix0, ix11, ix2, C.sh.p89_22, C.sh.p89_23, C.sh.p89_24, C.sh.p89_28, C.sh.p89_32, C.sh.p89_33, C.sh.l103, C.sh.l104, C.sh.l105, C.sh.l106, C.sh.l108, C.sh.l109, C.rr.n, C.rr.nc, C.rr.np, C.rr.w, C.rr.h, C.rr.li, C.rr.mo, C.rs.bk, C.rs.yr, ix4, ix6, C.sh.p89_43, C.sh.l117, hin, nI_clamp (show j < 2 ^ 31 by omega), hB.2]
      cases e2 : F.2.2 j with
      | true => rw [e2] at stop; exact ⟨fun _ => stop (by decide), fun y => absurd y (by decide)⟩
      | false => rw [e2] at nxt; exact ⟨fun y => absurd rfl y, fun _ => nxt rfl⟩
theorem s_areLeaning {k : Int32} {Q : mj_S → Int32 → Prop} (C : RI L S R s) (h1 : ¬ (r_n R = 0 ∨ k < 1 ∨ 3 < k) → Q S 1) (h0 : r_n R = 0 ∨ k < 1 ∨ 3 < k → Q S 0) : M_X11_areLeaning l G 89 k S Q := by
  refine e_X11_areLeaning (b_X11_areLeaning_0 C.sh.k89 ?_)
  simp only [C.n0]
  refine ⟨fun e => h0 (Or.inl e), fun e => s_rin (fun q1 q2 => ?_) (fun q => ?_)⟩
  · try simp only [Option.some.injEq, exists_eq_left', fi32, i10, i00, false_implies, true_implies, not_false_eq_true, not_true_eq_false, true_and, and_true, nI_1, lz0, lz1, ix0, ix11, ix2]
    exact h1 (fun z => by rcases z with z | z | z; exact e z; exact q1 z; exact q2 z)
  · try simp only [Option.some.injEq, exists_eq_left', fi32, i10, i00, false_implies, true_implies, not_false_eq_true, not_true_eq_false, true_and, and_true, nI_1, lz0, lz1, ix0, ix11, ix2]
    exact h0 (Or.inr q)
theorem s_rleant {k i : Int32} {Q : mj_S → Int32 → Prop} (C : RI L S R s) (hF : f_wf R F) (B : RFD S F) (h : Q S (A_leant R s F k i)) : M_X11_leant l G 89 k i S Q := by
  have np := C.rw.np
  have h64 := pow6 np
  unfold A_leant at h
  refine e_X11_leant (b_X11_leant_0 C.sh.k89 (s_areLeaning C (fun e => ?_) (fun e => ?_)))
  · try simp only [Option.some.injEq, exists_eq_left', fi32, i10, i00, false_implies, true_implies, not_false_eq_true, not_true_eq_false, true_and, and_true, nI_1, lz0, lz1, ix0, ix11, ix2]
    refine ⟨fun z => ?_, fun z => ?_⟩
    · rw [if_neg (fun y => by rcases y with y | y | y | y; exact e (Or.inl y); exact e (Or.inr (Or.inl y)); exact e (Or.inr (Or.inr y)); exact y z)] at h
      refine search1 (T := fT R s F k) (i := i) (a := 0) (n := 2 ^ r_np R) (B := fun f' m => V_X11_leant_20 l G 89 k i f' (nI m) S Q) (Qf := fun v => Q S v) (Nat.zero_le _) rfl ?_ ?_ h
      · intro f' hf
        refine b_X11_leant_20 C.sh.k89 ⟨fun _ => ⟨fun z => by rw [if_neg z] at hf; exact hf, fun z => by rw [if_pos z] at hf; exact hf⟩, fun z => absurd ?_ z⟩
        rw [C.rr.np]
        show on (r_np R) ≤ _
        rw [on_nI (by omega)]; exact nI_le (Nat.le_refl _) (by omega)
      · intro f' m _ hm k1 k2 k3
        refine b_X11_leant_20 C.sh.k89 ⟨fun z => absurd z ?_, fun _ => s_isLeant C hF B (fun e2 => ?_) (fun e2 => ?_)⟩
        · rw [C.rr.np]
          show ¬ on (r_np R) ≤ _
          rw [on_nI (by omega)]; exact nI_ge hm (by omega)
        · try simp only [Option.some.injEq, exists_eq_left', fi32, i10, i00, false_implies, true_implies, not_false_eq_true, not_true_eq_false, true_and, and_true, nI_1, lz0, lz1, ix0, ix11, ix2]
          exact ⟨fun z => k2 e2 z, fun z => k1 e2 z⟩
        · try simp only [Option.some.injEq, exists_eq_left', fi32, i10, i00, false_implies, true_implies, not_false_eq_true, not_true_eq_false, true_and, and_true, nI_1, lz0, lz1, ix0, ix11, ix2]
          exact k3 e2
    · rw [if_pos (Or.inr (Or.inr (Or.inr z)))] at h
      exact h
  · rw [if_pos (by rcases e with y | y | y; exact Or.inl y; exact Or.inr (Or.inl y); exact Or.inr (Or.inr (Or.inl y)))] at h
    try simp only [Option.some.injEq, exists_eq_left', fi32, i10, i00, false_implies, true_implies, not_false_eq_true, not_true_eq_false, true_and, and_true, nI_1, lz0, lz1, ix0, ix11, ix2]
    exact h
theorem and_m1 (x : Int32) : x &&& (-1) = x := by
  apply b_ext
  intro i hi
  rw [b_and, b_m1 i hi, Bool.and_true]
theorem d_sure {k : Int32} {Q : mj_S → Int32 → Prop} (C : RI L S R s) (hF : f_wf R F) (B : RFD S F) (h : Q S (A_sure R s F k)) : M_X11_sure l G 89 k S Q := by
  have np := C.rw.np
  have h64 := pow6 np
  unfold A_sure at h
  refine e_X11_sure (b_X11_sure_0 C.sh.k89 (s_areLeaning C (fun e => ?_) (fun e => ?_)))
  · rw [if_neg e] at h
    try simp only [Option.some.injEq, exists_eq_left', fi32, i10, i00, false_implies, true_implies, not_false_eq_true, not_true_eq_false, true_and, and_true, nI_1, lz0, lz1, ix0, ix11, ix2]
    refine dn (P := fun m => V_X11_sure_14 l G 89 k (sf (fT R s F k) m) (nI m) S Q) (2 ^ r_np R) ?_ ?_
    · refine b_X11_sure_14 C.sh.k89 ⟨fun _ => h, fun z => absurd ?_ z⟩
      rw [C.rr.np]
      show on (r_np R) ≤ _
      rw [on_nI (by omega)]; exact nI_le (Nat.le_refl _) (by omega)
    · intro m hm ih
      unfold sf at ih
      refine b_X11_sure_14 C.sh.k89 ⟨fun z => absurd z ?_, fun _ => s_isLeant C hF B (fun e2 => ?_) (fun e2 => ?_)⟩
      · rw [C.rr.np]
        show ¬ on (r_np R) ≤ _
        rw [on_nI (by omega)]; exact nI_ge hm (by omega)
      · rw [if_pos (show fT R s F k m = true from e2)] at ih
        try simp only [Option.some.injEq, exists_eq_left', fi32, i10, i00, false_implies, true_implies, not_false_eq_true, not_true_eq_false, true_and, and_true, nI_1, lz0, lz1, ix0, ix11, ix2]
        exact ih
      · rw [if_neg (by unfold fT; rw [e2]; decide)] at ih
        try simp only [Option.some.injEq, exists_eq_left', fi32, i10, i00, false_implies, true_implies, not_false_eq_true, not_true_eq_false, true_and, and_true, nI_1, lz0, lz1, ix0, ix11, ix2, and_m1]
        exact ih
  · rw [if_pos e] at h
    try simp only [Option.some.injEq, exists_eq_left', fi32, i10, i00, false_implies, true_implies, not_false_eq_true, not_true_eq_false, true_and, and_true, nI_1, lz0, lz1, ix0, ix11, ix2]
    exact h
theorem d_best {k : Int32} {Q : mj_S → Int32 → Prop} (C : RI L S R s) (hF : f_wf R F) (B : RFD S F) (h : Q S (A_best R s F k)) : M_X11_best l G 89 k S Q := by
  have np := C.rw.np
  have nc := C.rw.nc
  have h64 := pow6 np
  unfold A_best at h
  refine e_X11_best (b_X11_best_0 C.sh.k89 (s_areLeaning C (fun e => ?_) (fun e => ?_)))
  · try simp only [Option.some.injEq, exists_eq_left', fi32, i10, i00, false_implies, true_implies, not_false_eq_true, not_true_eq_false, true_and, and_true, nI_1, lz0, lz1, ix0, ix11, ix2]
    refine s_rleant C hF B ?_
    have hA : A_leant R s F k 0 = lres (fT R s F k) 0 (2 ^ r_np R) := if_neg (fun y => by rcases y with y | y | y | y; exact e (Or.inl y); exact e (Or.inr (Or.inl y)); exact e (Or.inr (Or.inr y)); exact y (by decide))
    rw [hA]
    refine ⟨fun z => ?_, fun z => ?_⟩
    · rw [if_neg (fun y => by rcases y with y | y | y | y; exact e (Or.inl y); exact e (Or.inr (Or.inl y)); exact e (Or.inr (Or.inr y)); exact z y)] at h
      refine dn (P := fun c => V_X11_best_27 l G 89 k (bst (fT R s F k) (fU R s) (2 ^ r_np R) c).1 (bst (fT R s F k) (fU R s) (2 ^ r_np R) c).2 (nI c) S Q) (r_nc R) ?_ ?_
      · refine b_X11_best_27 C.sh.k89 ?_
        try simp only [Option.some.injEq, exists_eq_left', fi32, i10, i00, false_implies, true_implies, not_false_eq_true, not_true_eq_false, true_and, and_true, nI_1, lz0, lz1, ix0, ix11, ix2, C.sh.p89_22, C.sh.p89_23, C.sh.p89_24, C.sh.p89_28, C.sh.p89_32, C.sh.p89_33, C.sh.l103, C.sh.l104, C.sh.l105, C.sh.l106, C.sh.l108, C.sh.l109, C.rr.n, C.rr.nc, C.rr.np, C.rr.w, C.rr.h, C.rr.li, C.rr.mo, C.rs.bk, C.rs.yr, ix4, ix6, geT (show r_nc R < 2 ^ 31 by omega)]
        exact h
      · intro c hc ih
        unfold bst at ih
        refine b_X11_best_27 C.sh.k89 ?_
        try simp only [Option.some.injEq, exists_eq_left', fi32, i10, i00, false_implies, true_implies, not_false_eq_true, not_true_eq_false, true_and, and_true, nI_1, lz0, lz1, ix0, ix11, ix2, C.sh.p89_22, C.sh.p89_23, C.sh.p89_24, C.sh.p89_28, C.sh.p89_32, C.sh.p89_33, C.sh.l103, C.sh.l104, C.sh.l105, C.sh.l106, C.sh.l108, C.sh.l109, C.rr.n, C.rr.nc, C.rr.np, C.rr.w, C.rr.h, C.rr.li, C.rr.mo, C.rs.bk, C.rs.yr, ix4, ix6, gtF hc (show r_nc R < 2 ^ 31 by omega)]
        refine dn (P := fun m => V_X11_best_42 l G 89 k (bst (fT R s F k) (fU R s) (2 ^ r_np R) c).1 (bst (fT R s F k) (fU R s) (2 ^ r_np R) c).2 (nI c) (af (fT R s F k) (fU R s c) m) (nI m) S Q) (2 ^ r_np R) ?_ ?_
        · have big : ((1 : Int32) <<< (nI (r_np R) &&& 31) ≤ nI (2 ^ r_np R)) = True := eq_true (by
            show on (r_np R) ≤ _
            rw [on_nI (by omega)]; exact nI_le (Nat.le_refl _) (by omega))
          refine b_X11_best_42 C.sh.k89 ?_
          try simp only [Option.some.injEq, exists_eq_left', fi32, i10, i00, false_implies, true_implies, not_false_eq_true, not_true_eq_false, true_and, and_true, nI_1, lz0, lz1, ix0, ix11, ix2, C.sh.p89_22, C.sh.p89_23, C.sh.p89_24, C.sh.p89_28, C.sh.p89_32, C.sh.p89_33, C.sh.l103, C.sh.l104, C.sh.l105, C.sh.l106, C.sh.l108, C.sh.l109, C.rr.n, C.rr.nc, C.rr.np, C.rr.w, C.rr.h, C.rr.li, C.rr.mo, C.rs.bk, C.rs.yr, ix4, ix6, big]
          refine ⟨fun y => b_X11_best_108 C.sh.k89 (s_ab ?_), fun y => s_ab ⟨fun y2 => ?_, fun y2 => b_X11_best_108 C.sh.k89 (s_ab ?_)⟩⟩
          · rw [if_pos (Or.inl y)] at ih
            try simp only [Option.some.injEq, exists_eq_left', fi32, i10, i00, false_implies, true_implies, not_false_eq_true, not_true_eq_false, true_and, and_true, nI_1, lz0, lz1, ix0, ix11, ix2]
            exact ih
          · rw [if_neg (fun w => by rcases w with w | w; exact y w; exact w y2)] at ih
            try simp only [Option.some.injEq, exists_eq_left', fi32, i10, i00, false_implies, true_implies, not_false_eq_true, not_true_eq_false, true_and, and_true, nI_1, lz0, lz1, ix0, ix11, ix2]
            exact ih
          · rw [if_pos (Or.inr y2)] at ih
            try simp only [Option.some.injEq, exists_eq_left', fi32, i10, i00, false_implies, true_implies, not_false_eq_true, not_true_eq_false, true_and, and_true, nI_1, lz0, lz1, ix0, ix11, ix2]
            exact ih
        · intro m hm ih2
          have small : ((1 : Int32) <<< (nI (r_np R) &&& 31) ≤ nI m) = False := eq_false (by
            show ¬ on (r_np R) ≤ _
            rw [on_nI (by omega)]; exact nI_ge hm (by omega))
          have add0 : ∀ v : Int32, v + 0 = v := Int32.add_zero
          unfold af at ih2
          refine b_X11_best_42 C.sh.k89 ?_
          try simp only [Option.some.injEq, exists_eq_left', fi32, i10, i00, false_implies, true_implies, not_false_eq_true, not_true_eq_false, true_and, and_true, nI_1, lz0, lz1, ix0, ix11, ix2, C.sh.p89_22, C.sh.p89_23, C.sh.p89_24, C.sh.p89_28, C.sh.p89_32, C.sh.p89_33, C.sh.l103, C.sh.l104, C.sh.l105, C.sh.l106, C.sh.l108, C.sh.l109, C.rr.n, C.rr.nc, C.rr.np, C.rr.w, C.rr.h, C.rr.li, C.rr.mo, C.rs.bk, C.rs.yr, ix4, ix6, small]
          refine s_isLeant C hF B (fun e2 => ?_) (fun e2 => ?_)
          · rw [if_pos (show fT R s F k m = true from e2)] at ih2
            try simp only [Option.some.injEq, exists_eq_left', fi32, i10, i00, false_implies, true_implies, not_false_eq_true, not_true_eq_false, true_and, and_true, nI_1, lz0, lz1, ix0, ix11, ix2]
            refine s_couldLean C hc (fun hb => ?_) (fun hb => ?_)
            · rw [if_pos (show fU R s c m = true from hb)] at ih2
              try simp only [Option.some.injEq, exists_eq_left', fi32, i10, i00, false_implies, true_implies, not_false_eq_true, not_true_eq_false, true_and, and_true, nI_1, lz0, lz1, ix0, ix11, ix2]
              exact ih2
            · rw [if_neg (by unfold fU; rw [hb]; decide)] at ih2
              try simp only [Option.some.injEq, exists_eq_left', fi32, i10, i00, false_implies, true_implies, not_false_eq_true, not_true_eq_false, true_and, and_true, nI_1, lz0, lz1, ix0, ix11, ix2]
              exact ih2
          · rw [if_neg (by unfold fT; rw [e2]; decide)] at ih2
            try simp only [Option.some.injEq, exists_eq_left', fi32, i10, i00, false_implies, true_implies, not_false_eq_true, not_true_eq_false, true_and, and_true, nI_1, lz0, lz1, ix0, ix11, ix2, add0]
            exact ih2
    · rw [if_pos (Or.inr (Or.inr (Or.inr z)))] at h
      exact h
  · rw [if_pos (by rcases e with y | y | y; exact Or.inl y; exact Or.inr (Or.inl y); exact Or.inr (Or.inr (Or.inl y)))] at h
    try simp only [Option.some.injEq, exists_eq_left', fi32, i10, i00, false_implies, true_implies, not_false_eq_true, not_true_eq_false, true_and, and_true, nI_1, lz0, lz1, ix0, ix11, ix2]
    exact h
end RLN
