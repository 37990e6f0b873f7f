/-! the simple calls -/
def f_add (F : fd) (c : Nat) (b : Bool) : fd := (F.1 + 1, fun i => if i = F.1 then c else F.2.1 i, fun i => if i = F.1 then b else F.2.2 i)
theorem fb_cong {F F' : fd} : ∀ k, (∀ j, j < k → F'.2.1 j = F.2.1 j ∧ F'.2.2 j = F.2.2 j) → fb F' k = fb F k ∧ fnn F' k = fnn F k
  | 0, _ => ⟨rfl, rfl⟩
  | k + 1, h => by
    have ih := fb_cong k (fun j hj => h j (by omega))
    have hk := h k (by omega)
    constructor
    · show (if F'.2.2 k = true then fb F' k ||| on (F'.2.1 k) else fb F' k) = (if F.2.2 k = true then fb F k ||| on (F.2.1 k) else fb F k)
      rw [ih.1, hk.1, hk.2]
    · show (if F'.2.2 k = true then fnn F' k else fnn F' k ||| on (F'.2.1 k)) = (if F.2.2 k = true then fnn F k else fnn F k ||| on (F.2.1 k))
      rw [ih.2, hk.1, hk.2]
def A_count (R : rm) (s : sc) (nk tl hv nf na : Nat) (ho : Int32) (x : Int32) : Int32 := match ixn 15 x with
  | none => -1000000
  | some k => if k = 0 then nI (r_n R) else if k = 1 then nI (r_nc R) else if k = 2 then nI (r_np R) else if k = 3 then nI nk else if k = 4 then nI tl else if k = 5 then ho else if k = 6 then nI (s_yr s) else if k = 7 then nI (pt R (hg R s) 20 (al (r_n R)) 0) else if k = 8 then hg R s else if k = 9 then fa R s else if k = 10 then nI (clo s (r_nc R)) else if k = 11 then nI hv else if k = 12 then nI nf else if k = 13 then nI (min (s_yr s) 60) else nI na
section SM
variable {l : Launch} {G : mj_G} {L r rs : Nat} {R : rm} {s : sc} {S : mj_S} {F : fd}
theorem ix_end {n : Nat} {x : Int32} (hn : n < 1000000) : (∃ k, ixn (n + 1) x = some k ∧ k ≤ n ∧ x = nI k ∧ ¬ x < 0 ∧ x ≤ nI n) ∨ (ixn (n + 1) x = none ∧ (x < 0 ∨ ¬ x ≤ nI n)) := by
  cases e : ixn (n + 1) x with
  | some k =>
    obtain ⟨h1, h2⟩ := ixn_some (by omega) e
    exact Or.inl ⟨k, rfl, by omega, h2, by rw [h2]; exact nI_pos (by omega), by rw [h2]; exact nI_le (by omega) (by omega)⟩
  | none =>
    refine Or.inr ⟨rfl, ?_⟩
    rcases ixn_none (by omega) e with h | h
    · exact Or.inl h
    · refine Or.inr (fun z => ?_)
      have a := Int32.le_iff_toInt_le.mp h
      have b := Int32.le_iff_toInt_le.mp z
      rw [nI_toInt (by omega)] at a b
      omega
theorem c_end {x : Int32} {tl : Nat} {Q : mj_S → Int32 → Prop} (hs : Sh L S) (e : m_gi S 6 1 = nI tl) (ht : tl ≤ 240) (h1 : ∀ k, ixn (tl + 1) x = some k → ∀ S', S' = m_si S 6 1 (nI k) → Q S' 1) (h0 : ixn (tl + 1) x = none → Q S 0) : M_X10_end l G 6 x S Q := by
  refine e_X10_end (b_X10_end_0 hs.k6 ?_)
  rw [e]
  rcases ix_end (n := tl) (x := x) (by omega) with ⟨k, a, b, c, d, g⟩ | ⟨a, b⟩
  · exact ⟨fun z => absurd z d, fun _ => ⟨fun _ S1 e1 => h1 k a S1 (by rw [e1, ← c]), fun z => absurd g z⟩⟩
  · refine ⟨fun _ => h0 a, fun y => ⟨fun z => ?_, fun _ => h0 a⟩⟩
    rcases b with b | b
    · exact absurd b y
    · exact absurd z b
theorem d_end {x : Int32} {tl : Nat} {Q : mj_S → Int32 → Prop} (hs : Sh L S) (e : m_gi S 89 2 = nI tl) (ht : tl ≤ 240) (h1 : ∀ k, ixn (tl + 1) x = some k → ∀ S', S' = m_si S 89 2 (nI k) → Q S' 1) (h0 : ixn (tl + 1) x = none → Q S 0) : M_X11_end l G 89 x S Q := by
  refine e_X11_end (b_X11_end_0 hs.k89 ?_)
  rw [e]
  rcases ix_end (n := tl) (x := x) (by omega) with ⟨k, a, b, c, d, g⟩ | ⟨a, b⟩
  · exact ⟨fun z => absurd z d, fun _ => ⟨fun _ S1 e1 => h1 k a S1 (by rw [e1, ← c]), fun z => absurd g z⟩⟩
  · refine ⟨fun _ => h0 a, fun y => ⟨fun z => ?_, fun _ => h0 a⟩⟩
    rcases b with b | b
    · exact absurd b y
    · exact absurd z b
theorem c_heat {x : Int32} {hv : Nat} {Q : mj_S → Int32 → Prop} (hs : Sh L S) (e : m_gi S 6 14 = nI hv) (hh : hv ≤ 99) (h1 : ∀ k, ixn 100 x = some k → k ≠ hv → ∀ S', S' = m_si S 6 14 (nI k) → Q S' 1) (h0 : (∀ k, ixn 100 x = some k → k = hv) → Q S 0) : M_X10_heat l G 6 x S Q := by
  refine e_X10_heat (b_X10_heat_0 hs.k6 (s_witN (n := 99) (by omega) (fun k a => ?_) (fun a => ?_)))
  · obtain ⟨b, c⟩ := ixn_some (by omega) a
    rw [e]
    refine ⟨fun z => absurd z (by decide), fun _ => ⟨fun z S3 e3 => h1 k a (fun y => z (by rw [c, y])) S3 (by rw [e3, c]), fun z => h0 (fun k' a' => ?_)⟩⟩
    rw [a] at a'; cases a'
    rw [c] at z
    exact (nI_eq (by omega) (by omega)).mp z
  · exact ⟨fun _ => h0 (fun k' a' => by rw [a] at a'; cases a'), fun z => absurd rfl z⟩
theorem d_heat {x : Int32} {hv : Nat} {Q : mj_S → Int32 → Prop} (hs : Sh L S) (e : m_gi S 89 31 = nI hv) (hh : hv ≤ 99) (h1 : ∀ k, ixn 100 x = some k → k ≠ hv → ∀ S', S' = m_si S 89 31 (nI k) → Q S' 1) (h0 : (∀ k, ixn 100 x = some k → k = hv) → Q S 0) : M_X11_heat l G 89 x S Q := by
  refine e_X11_heat (b_X11_heat_0 hs.k89 (s_rinN (n := 100) (by omega) (fun k a => ?_) (fun a => ?_)))
  · obtain ⟨b, c⟩ := ixn_some (by omega) a
    rw [e]
    refine ⟨fun z => absurd z (by decide), fun _ => ⟨fun z S3 e3 => h1 k a (fun y => z (by rw [c, y])) S3 (by rw [e3, c]), fun z => h0 (fun k' a' => ?_)⟩⟩
    rw [a] at a'; cases a'
    rw [c] at z
    exact (nI_eq (by omega) (by omega)).mp z
  · exact ⟨fun _ => h0 (fun k' a' => by rw [a] at a'; cases a'), fun z => absurd rfl z⟩
def A_status (rf : Nat → Int32) (x : Int32) : Int32 := match ixn 5 x with
  | some k => rf k
  | none => -1
theorem c_status {x : Int32} {Q : mj_S → Int32 → Prop} {rf : Nat → Int32} (hs : Sh L S) (e : ∀ i, i < 5 → m_gi S 88 i = rf i) (h : Q S (A_status rf x)) : M_X10_status l G 6 x S Q := by
  unfold A_status at h
  refine e_X10_status (b_X10_status_0 hs.k6 (s_witN (n := 4) (by omega) (fun k a => ?_) (fun a => ?_)))
  · obtain ⟨b, c⟩ := ixn_some (by omega) a
    rw [a] at h
    refine ⟨fun z => absurd z (by decide), fun _ => ⟨88, hs.p6_13, ?_⟩⟩
    rw [c, hs.l88, nI_clamp (by omega), e k (by omega)]
    exact ⟨vp_nI (by omega) (by omega), h⟩
  · rw [a] at h
    exact ⟨fun _ => h, fun z => absurd rfl z⟩
theorem d_status {x : Int32} {Q : mj_S → Int32 → Prop} {rf : Nat → Int32} (hs : Sh L S) (e : ∀ i, i < 5 → m_gi S 107 i = rf i) (h : Q S (A_status rf x)) : M_X11_status l G 89 x S Q := by
  unfold A_status at h
  refine e_X11_status (b_X11_status_0 hs.k89 (s_rinN (n := 5) (by omega) (fun k a => ?_) (fun a => ?_)))
  · obtain ⟨b, c⟩ := ixn_some (by omega) a
    rw [a] at h
    refine ⟨fun z => absurd z (by decide), fun _ => ⟨107, hs.p89_29, ?_⟩⟩
    rw [c, hs.l107, nI_clamp (by omega), e k (by omega)]
    exact ⟨vp_nI (by omega) (by omega), h⟩
  · rw [a] at h
    exact ⟨fun _ => h, fun z => absurd rfl z⟩
/-- may a law be named so -/
def lw_ok (nk : Nat) (x : Int32) : Prop := -1 ≤ x.toInt ∧ x.toInt < nk
theorem m1_i : (-1 : Int32).toInt = -1 := by decide
theorem c_law {x : Int32} {nk : Nat} {Q : mj_S → Int32 → Prop} (hs : Sh L S) (e : m_gi S 23 0 = nI nk) (hn : nk ≤ 4) (h1 : lw_ok nk x → ∀ S', S' = m_si S 23 1 x → Q S' 1) (h0 : ¬ lw_ok nk x → Q S 0) : M_X10_law l G 6 x S Q := by
  refine e_X10_law (b_X10_law_0 hs.k6 ⟨fun z => h0 (fun y => ?_), fun z => ⟨23, hs.p6_4, ?_⟩⟩)
  · have := Int32.lt_iff_toInt_lt.mp z
    rw [m1_i] at this
    unfold lw_ok at y; omega
  · rw [e]
    have z' : ¬ x.toInt < -1 := fun y => z (Int32.lt_iff_toInt_lt.mpr (by rw [m1_i]; exact y))
    refine ⟨fun y => ⟨23, hs.p6_4, fun S3 e3 => h1 ⟨by omega, ?_⟩ S3 e3⟩, fun y => h0 (fun w => y ?_)⟩
    · have := Int32.lt_iff_toInt_lt.mp y
      rw [nI_toInt (by omega)] at this; exact this
    · apply Int32.lt_iff_toInt_lt.mpr
      rw [nI_toInt (by omega)]; exact w.2
theorem d_law {x : Int32} {nk : Nat} {Q : mj_S → Int32 → Prop} (hs : Sh L S) (e : m_gi S 89 13 = nI nk) (hn : nk ≤ 4) (h1 : lw_ok nk x → ∀ S', S' = m_si S 89 30 x → Q S' 1) (h0 : ¬ lw_ok nk x → Q S 0) : M_X11_law l G 89 x S Q := by
  have ei : (nI nk - 1).toInt = (nk : Int) - 1 := by
    have : ∀ n, n < 5 → (nI n - 1).toInt = (n : Int) - 1 := by decide +kernel
    exact this nk (by omega)
  refine e_X11_law (b_X11_law_0 hs.k89 ?_)
  rw [e]
  refine s_rin (fun a b => ?_) (fun a => ?_)
  · refine ⟨fun _ S3 e3 => h1 ⟨?_, ?_⟩ S3 e3, fun z => absurd z (by decide)⟩
    · by_cases y : x.toInt < -1
      · exact absurd (Int32.lt_iff_toInt_lt.mpr (by rw [m1_i]; exact y)) a
      · omega
    · by_cases y : (nI nk - 1).toInt < x.toInt
      · exact absurd (Int32.lt_iff_toInt_lt.mpr y) b
      · omega
  · refine ⟨fun z => absurd rfl z, fun _ => h0 (fun w => ?_)⟩
    unfold lw_ok at w
    rcases a with a | a
    · have := Int32.lt_iff_toInt_lt.mp a
      rw [m1_i] at this; omega
    · have := Int32.lt_iff_toInt_lt.mp a
      omega
theorem c_faded {x1 x2 : Int32} {Q : mj_S → Int32 → Prop} (C : CI L S r 50 rs R s) (K : CF S F) (hF : F.1 ≤ 10) (h1 : ∀ c, ixn (r_nc R) x1 = some c → F.1 < 10 → ∀ S', (∀ a j, ¬ (a = 6 ∧ 16 ≤ j ∧ j ≤ 18) → m_gi S' a j = m_gi S a j) → S'.1 = S.1 → (∀ a j, m_gl S' a j = m_gl S a j) → (∀ a j, m_gp S' a j = m_gp S a j) → CF S' (f_add F c (decide (x2 ≠ 0))) → Q S' (nI (F.1 + 1))) (h0 : ixn (r_nc R) x1 = none ∨ F.1 = 10 → Q S (-1)) : M_X10_faded l G 6 x1 x2 S Q := by
  have nc := C.rw.nc
  refine e_X10_faded (b_X10_faded_0 C.sh.k6 (s_isCurtain C (fun c e => ?_) (fun e => ?_)))
  · obtain ⟨hc, ec⟩ := ixn_some (by omega) e
    refine ⟨fun z => absurd z (by decide), fun _ => ?_⟩
    rw [K.1, show (10 : Int32) = nI 10 from rfl, nI_ltI (by omega) (by omega)]
    refine ⟨fun z => ⟨fun y S3 e3 S4 e4 => ?_, fun y S3 e3 S4 e4 => ?_⟩, fun z => h0 (Or.inr (by omega))⟩
    · have cg := fb_cong (F := F) (F' := f_add F c (decide (x2 ≠ 0))) F.1 (fun j hj => ⟨if_neg (by omega), if_neg (by omega)⟩)
      have e16 : m_gi S4 6 16 = nI (F.1 + 1) := by rw [e4, m_gi_si, if_pos ⟨rfl, rfl⟩, e3, m_gi_si, if_neg (by omega), K.1, nI_1]
      rw [e16]
      have ed : decide (x2 ≠ 0) = false := by rw [y]; rfl
      refine h1 c e z S4 (fun a j ha => by rw [e4, m_gi_si, if_neg (by omega), e3, m_gi_si, if_neg (by omega)]) (by rw [e4, e3]; rfl) (fun a j => by rw [e4, e3]; rfl) (fun a j => by rw [e4, e3]; rfl) ⟨e16, ?_, ?_⟩
      · rw [e4, m_gi_si, if_neg (by omega), e3, m_gi_si, if_neg (by omega), K.2.1]
        show fb F F.1 = (if (if F.1 = F.1 then decide (x2 ≠ 0) else F.2.2 F.1) = true then _ else fb (f_add F c (decide (x2 ≠ 0))) F.1)
        rw [if_pos rfl, ed, if_neg (by decide), ← ed, cg.1]
      · rw [e4, m_gi_si, if_neg (by omega), e3, m_gi_si, if_pos ⟨rfl, rfl⟩, K.2.2, ec]
        show fnn F F.1 ||| on c = (if (if F.1 = F.1 then decide (x2 ≠ 0) else F.2.2 F.1) = true then _ else fnn (f_add F c (decide (x2 ≠ 0))) F.1 ||| on (if F.1 = F.1 then c else F.2.1 F.1))
        rw [if_pos rfl, ed, if_neg (by decide), ← ed, cg.2, if_pos rfl]
    · have cg := fb_cong (F := F) (F' := f_add F c (decide (x2 ≠ 0))) F.1 (fun j hj => ⟨if_neg (by omega), if_neg (by omega)⟩)
      have e16 : m_gi S4 6 16 = nI (F.1 + 1) := by rw [e4, m_gi_si, if_pos ⟨rfl, rfl⟩, e3, m_gi_si, if_neg (by omega), K.1, nI_1]
      rw [e16]
      have ed : decide (x2 ≠ 0) = true := decide_eq_true y
      refine h1 c e z S4 (fun a j ha => by rw [e4, m_gi_si, if_neg (by omega), e3, m_gi_si, if_neg (by omega)]) (by rw [e4, e3]; rfl) (fun a j => by rw [e4, e3]; rfl) (fun a j => by rw [e4, e3]; rfl) ⟨e16, ?_, ?_⟩
      · rw [e4, m_gi_si, if_neg (by omega), e3, m_gi_si, if_pos ⟨rfl, rfl⟩, K.2.1, ec]
        show fb F F.1 ||| on c = (if (if F.1 = F.1 then decide (x2 ≠ 0) else F.2.2 F.1) = true then fb (f_add F c (decide (x2 ≠ 0))) F.1 ||| on (if F.1 = F.1 then c else F.2.1 F.1) else _)
        rw [if_pos rfl, if_pos ed, cg.1, if_pos rfl]
      · rw [e4, m_gi_si, if_neg (by omega), e3, m_gi_si, if_neg (by omega), K.2.2]
        show fnn F F.1 = (if (if F.1 = F.1 then decide (x2 ≠ 0) else F.2.2 F.1) = true then fnn (f_add F c (decide (x2 ≠ 0))) F.1 else _)
        rw [if_pos rfl, if_pos ed, cg.2]
  · exact ⟨fun _ => h0 (Or.inl e), fun z => absurd rfl z⟩
end SM
