/-! the reference reads items -/
def D89 (a j : Nat) : Bool := Nat.beq a 89 && (Nat.beq j 3 || Nat.beq j 4)
def Dit (u b m : Nat) (a j : Nat) : Bool := D89 a j || (Nat.beq a u && (Nat.ble b j && Nat.blt j (b + m)))
theorem D89_it {u b m : Nat} {S S' : mj_S} (f : fr D89 S S') : fr (Dit u b m) S S' := f.wid (fun a j h => by unfold Dit at h; rw [Bool.or_eq_false_iff] at h; exact h.1)
theorem Dit_u {u b m j : Nat} (h1 : b ≤ j) (h2 : j < b + m) : Dit u b m u j = true := by
  unfold Dit
  have e1 : Nat.beq u u = true := by rw [Nat.beq_eq]
  have e2 : Nat.ble b j = true := by rw [Nat.ble_eq]; exact h1
  have e3 : Nat.blt j (b + m) = true := by rw [Nat.blt_eq]; exact h2
  rw [e1, e2, e3]; simp
theorem Dit_no {u b m a j : Nat} (h1 : ¬ (a = 89 ∧ (j = 3 ∨ j = 4))) (h2 : ¬ (a = u ∧ b ≤ j ∧ j < b + m)) : Dit u b m a j = false := by
  rw [← Bool.not_eq_true]
  intro z
  unfold Dit D89 at z
  rw [Bool.or_eq_true, Bool.and_eq_true, Bool.or_eq_true, Bool.and_eq_true, Bool.and_eq_true, Nat.beq_eq, Nat.beq_eq, Nat.beq_eq, Nat.beq_eq, Nat.ble_eq, Nat.blt_eq] at z
  omega
section RIT
variable {l : Launch} {G : mj_G} {L : Nat} {S : mj_S} {n p : Nat} {t : Nat → Nat}
theorem RRD.keep {S' : mj_S} (h : RRD S t n p) (h1 : S'.1 = S.1) (h2 : m_gp S' 89 1 = m_gp S 89 1) (h3 : m_gi S' 89 2 = m_gi S 89 2) (h4 : m_gi S' 89 3 = m_gi S 89 3) (h5 : ∀ j, m_gi S' 90 j = m_gi S 90 j) : RRD S' t n p := by
  refine ⟨⟨?_, ?_, h2.trans h.1.2.2⟩, h3.trans h.2.1, h4.trans h.2.2.1, h.2.2.2.1, h.2.2.2.2.1, fun i hi => (h5 i).trans (h.2.2.2.2.2.1 i hi), h.2.2.2.2.2.2⟩
  · unfold m_kd; rw [h1]; exact h.1.1
  · unfold m_ln; rw [h1]; exact h.1.2.1
theorem s_bad {Q : mj_S → Prop} (T : RRD S t n p) (w : m_gi S 89 4 = -1) (h : ∀ S', S' = m_si S 89 4 (nI p) → Q S') : M_X11_bad l G 89 S Q := by
  refine e_X11_bad (b_X11_bad_0 T.1.1 ⟨fun z => absurd w z, fun _ S2 e2 => h S2 ?_⟩)
  rw [e2, T.at_]
theorem s_number67 {lo hi v : Nat} {Q : mj_S → Int32 → Prop} (T : RRD S t n p) (w : m_gi S 89 4 = -1) (hlo : lo < 1000) (hhi : hi < 1000) (hv : v < 100) (hp : 0 < p) (h0 : ∀ j, (if dg t n p = true then .inl p else nmf lo hi v p) = .inl j → ∀ S', fr D89 S S' → m_gi S' 89 4 = nI j → ∀ x, Q S' x) (h1 : dg t n p = false → lo ≤ v ∧ v ≤ hi → Q S (nI v)) : V_X11_number_67 l G 89 (nI lo) (nI hi) (nI v) S Q := by
  refine b_X11_number_67 T.1.1 (s_here T (s_risDigit T.tw (fun d => ?_) (fun d => ?_)))
  · rw [if_pos d] at h0
    try simp only [Option.some.injEq, exists_eq_left', fi32, i10, i00, false_implies, true_implies, not_false_eq_true, not_true_eq_false, true_and, and_true, nI_1, lz0, lz1, ix0, ix11, ix2]
    exact s_bad T w (fun S' e' => h0 p rfl S' (by rw [e']; exact fr.si rfl) (by rw [e', m_gi_si, if_pos ⟨rfl, rfl⟩]) _)
  · rw [if_neg (by rw [d]; decide)] at h0
    unfold nmf at h0
    try simp only [Option.some.injEq, exists_eq_left', fi32, i10, i00, false_implies, true_implies, not_false_eq_true, not_true_eq_false, true_and, and_true, nI_1, lz0, lz1, ix0, ix11, ix2]
    refine s_rin (fun q1 q2 => ?_) (fun q => ?_)
    · rw [nI_ltI (by omega) (by omega)] at q1 q2
      try simp only [Option.some.injEq, exists_eq_left', fi32, i10, i00, false_implies, true_implies, not_false_eq_true, not_true_eq_false, true_and, and_true, nI_1, lz0, lz1, ix0, ix11, ix2]
      exact h1 d ⟨by omega, by omega⟩
    · rw [nI_ltI (by omega) (by omega), nI_ltI (by omega) (by omega)] at q
      rw [if_neg (by omega)] at h0
      try simp only [Option.some.injEq, exists_eq_left', fi32, i10, i00, false_implies, true_implies, not_false_eq_true, not_true_eq_false, true_and, and_true, nI_1, lz0, lz1, ix0, ix11, ix2, T.at_]
      rw [show nI p - 1 = nI (p - 1) from sub_v (w := 1) (by omega)]
      intro S7 e7
      have hpn := T.pn
      have T7 : RRD S7 t n (p - 1) := by rw [e7]; exact T.mv (by omega)
      refine s_bad T7 (by rw [e7, m_gi_si, if_neg (by omega)]; exact w) (fun S' e' => h0 (p - 1) rfl S' ?_ (by rw [e', m_gi_si, if_pos ⟨rfl, rfl⟩]) _)
      rw [e', e7]; exact (fr.si rfl).tr (fr.si rfl)
theorem s_number {lo hi : Nat} {Q : mj_S → Int32 → Prop} (T : RRD S t n p) (w : m_gi S 89 4 = -1) (hlo : lo < 1000) (hhi : hi < 1000) (h0 : ∀ j, nmb t n lo hi p = .inl j → ∀ S', fr D89 S S' → m_gi S' 89 4 = nI j → ∀ x, Q S' x) (h1 : ∀ r, nmb t n lo hi p = .inr r → ∀ S', S' = m_si S 89 3 (nI r.2) → r.2 ≤ n → Q S' (nI r.1)) : M_X11_number l G 89 (nI lo) (nI hi) S Q := by
  have hpn := T.pn
  refine e_X11_number (b_X11_number_0 T.1.1 (s_look T (fun S1 e1 T1 => s_risDigit T.tw (fun d1 => ?_) (fun d1 => ?_))))
  · have hq := skp_b (t := t) hpn.1
    unfold nmb at h0 h1
    rw [if_pos d1] at h0 h1
    generalize skp t n p = q at *
    have f1 : fr D89 S S1 := by rw [e1]; exact fr.si rfl
    have w1 : m_gi S1 89 4 = -1 := by rw [e1, m_gi_si, if_neg (by omega)]; exact w
    have hd1 : q < n ∧ 48 ≤ t q ∧ t q ≤ 57 := by unfold dg at d1; rw [decide_eq_true_iff] at d1; exact d1
    try simp only [Option.some.injEq, exists_eq_left', fi32, i10, i00, false_implies, true_implies, not_false_eq_true, not_true_eq_false, true_and, and_true, nI_1, lz0, lz1, ix0, ix11, ix2]
    refine s_here T1 ?_
    rw [cr_in hd1.1, T1.at_, nI_1, show nI (t q) - 48 = nI (t q - 48) from sub_v (w := 48) (by omega)]
    intro S8 e8
    have es8 : S8 = m_si S 89 3 (nI (q + 1)) := by rw [e8, e1, m_si_si]
    have f8 : fr D89 S S8 := by rw [es8]; exact fr.si rfl
    have w8 : m_gi S8 89 4 = -1 := by rw [es8, m_gi_si, if_neg (by omega)]; exact w
    have T8 : RRD S8 t n (q + 1) := by rw [e8]; exact T1.mv (by omega)
    refine s_here T8 (s_risDigit T.tw (fun d2 => ?_) (fun d2 => ?_))
    · rw [if_pos d2] at h0 h1
      have hd2 : q + 1 < n ∧ 48 ≤ t (q + 1) ∧ t (q + 1) ≤ 57 := by unfold dg at d2; rw [decide_eq_true_iff] at d2; exact d2
      try simp only [Option.some.injEq, exists_eq_left', fi32, i10, i00, false_implies, true_implies, not_false_eq_true, not_true_eq_false, true_and, and_true, nI_1, lz0, lz1, ix0, ix11, ix2]
      refine s_here T8 ?_
      have ev : (10 : Int32) * nI (t q - 48) + cr t n (q + 1) - 48 = nI (10 * (t q - 48) + (t (q + 1) - 48)) := by
        rw [cr_in hd2.1, show (10 : Int32) = nI 10 from rfl, show (48 : Int32) = nI 48 from rfl, nI_mul, nI_add, sub_v (by omega)]
        congr 1; omega
      rw [ev, T8.at_, nI_1]
      intro S16 e16
      have es : S16 = m_si S 89 3 (nI (q + 2)) := by rw [e16, es8, m_si_si]
      have f16 : fr D89 S S16 := by rw [es]; exact fr.si rfl
      refine s_number67 (p := q + 2) (by rw [e16]; exact T8.mv (by omega)) (by rw [es, m_gi_si, if_neg (by omega)]; exact w) hlo hhi (by omega) (by omega) (fun j ej S' f' e' x => h0 j ej S' (f16.tr f') e' x) (fun d g => ?_)
      rw [if_neg (by rw [d]; decide)] at h1
      unfold nmf at h1
      rw [if_pos g] at h1
      exact h1 _ rfl S16 es (by omega)
    · rw [if_neg (by rw [d2]; decide)] at h0 h1
      try simp only [Option.some.injEq, exists_eq_left', fi32, i10, i00, false_implies, true_implies, not_false_eq_true, not_true_eq_false, true_and, and_true, nI_1, lz0, lz1, ix0, ix11, ix2]
      refine s_number67 T8 w8 hlo hhi (by omega) (by omega) (fun j ej S' f' e' x => h0 j ?_ S' (f8.tr f') e' x) (fun d g => ?_)
      · rw [if_neg (by rw [d2]; decide)] at ej; exact ej
      · unfold nmf at h1
        rw [if_pos g] at h1
        exact h1 _ rfl S8 es8 (by omega)
  · unfold nmb at h0
    rw [if_neg (by rw [d1]; decide)] at h0
    try simp only [Option.some.injEq, exists_eq_left', fi32, i10, i00, false_implies, true_implies, not_false_eq_true, not_true_eq_false, true_and, and_true, nI_1, lz0, lz1, ix0, ix11, ix2]
    refine s_bad T1 (by rw [e1, m_gi_si, if_neg (by omega)]; exact w) (fun S' e' => h0 _ rfl S' ?_ (by rw [e', m_gi_si, if_pos ⟨rfl, rfl⟩]) _)
    rw [e', e1]; exact (fr.si rfl).tr (fr.si rfl)
/-- the three sorts of clauses: sign, first item, how many -/
def srt (sg f m : Nat) : Prop := sg = 115 ∧ f = 0 ∧ m = 4 ∨ sg = 99 ∧ f = 4 ∧ m = 6 ∨ sg = 112 ∧ f = 10 ∧ m = 2
theorem srt.le {sg f m : Nat} (h : srt sg f m) : f + m ≤ 12 ∧ sg < 256 := by unfold srt at h; omega
theorem s_usual {sg f m k : Nat} (hq : srt sg f m) (hk : k < m) {Q : mj_S → Int32 → Prop} (h : Q S (nI (tb US (f + k)))) : M_X11_usual l G (nI sg) (nI k) S Q := by
  apply e_X11_usual
  apply b_X11_usual_0
  rcases hq with ⟨e1, e2, e3⟩ | ⟨e1, e2, e3⟩ | ⟨e1, e2, e3⟩ <;> subst e1 e2 e3
  · match k, hk with
    | 0, _ | 1, _ | 2, _ | 3, _ => repeat' first | exact h | (exact fun z => absurd z (by decide)) | constructor | intro _
  · match k, hk with
    | 0, _ | 1, _ | 2, _ | 3, _ | 4, _ | 5, _ => repeat' first | exact h | (exact fun z => absurd z (by decide)) | constructor | intro _
  · match k, hk with
    | 0, _ | 1, _ => repeat' first | exact h | (exact fun z => absurd z (by decide)) | constructor | intro _
theorem s_highest {sg f m k : Nat} (hq : srt sg f m) (hk : k < m) {Q : mj_S → Int32 → Prop} (h : Q S (nI (tb HI (f + k)))) : M_X11_highest l G (nI sg) (nI k) S Q := by
  apply e_X11_highest
  apply b_X11_highest_0
  rcases hq with ⟨e1, e2, e3⟩ | ⟨e1, e2, e3⟩ | ⟨e1, e2, e3⟩ <;> subst e1 e2 e3
  · match k, hk with
    | 0, _ | 1, _ | 2, _ | 3, _ => repeat' first | exact h | (exact fun z => absurd z (by decide)) | constructor | intro _
  · match k, hk with
    | 0, _ | 1, _ | 2, _ | 3, _ | 4, _ | 5, _ => repeat' first | exact h | (exact fun z => absurd z (by decide)) | constructor | intro _
  · match k, hk with
    | 0, _ | 1, _ => repeat' first | exact h | (exact fun z => absurd z (by decide)) | constructor | intro _
theorem s_lowestI {sg f m k : Nat} (hq : srt sg f m) (hk : k < m) {Q : mj_S → Int32 → Prop} (h : Q S (nI (tb LO (f + k)))) : M_X11_lowest l G (nI sg) (nI k) S Q := by
  apply e_X11_lowest
  apply b_X11_lowest_0
  rcases hq with ⟨e1, e2, e3⟩ | ⟨e1, e2, e3⟩ | ⟨e1, e2, e3⟩ <;> subst e1 e2 e3
  · match k, hk with
    | 0, _ | 1, _ | 2, _ | 3, _ => repeat' first | exact h | (exact fun z => absurd z (by decide)) | apply b_X11_lowest_11 | apply b_X11_lowest_22 | constructor | intro _
  · match k, hk with
    | 0, _ | 1, _ | 2, _ | 3, _ | 4, _ | 5, _ => repeat' first | exact h | (exact fun z => absurd z (by decide)) | apply b_X11_lowest_11 | apply b_X11_lowest_22 | constructor | intro _
  · match k, hk with
    | 0, _ | 1, _ => repeat' first | exact h | (exact fun z => absurd z (by decide)) | apply b_X11_lowest_11 | apply b_X11_lowest_22 | constructor | intro _
theorem s_ritemOf {sg f m : Nat} (hq : srt sg f m) {x : Int32} {Q : mj_S → Int32 → Prop} (h : Q S (oI (itn f x m 0))) : M_X11_itemOf l G (nI sg) x S Q := by
  apply e_X11_itemOf
  apply b_X11_itemOf_0
  rcases hq with ⟨e1, e2, e3⟩ | ⟨e1, e2, e3⟩ | ⟨e1, e2, e3⟩ <;> subst e1 e2 e3
  · refine ⟨fun z => absurd z (by decide), fun _ => ?_, fun z => absurd (by decide) z.2⟩
    have e : itn 0 x 4 0 = if (119 : Int32) = x then some 0 else if (104 : Int32) = x then some 1 else if (108 : Int32) = x then some 2 else if (109 : Int32) = x then some 3 else none := rfl
    rw [e] at h
    refine ⟨fun z1 => ⟨fun z2 => ⟨fun z3 => ⟨fun z4 => ?_, fun z4 => ?_⟩, fun z3 => ?_⟩, fun z2 => ?_⟩, fun z1 => ?_⟩
    · rw [if_neg (fun y => z1 y.symm), if_neg (fun y => z2 y.symm), if_neg (fun y => z3 y.symm), if_neg (fun y => z4 y.symm)] at h; exact h
    · rw [if_neg (fun y => z1 y.symm), if_neg (fun y => z2 y.symm), if_neg (fun y => z3 y.symm), if_pos z4.symm] at h; exact h
    · rw [if_neg (fun y => z1 y.symm), if_neg (fun y => z2 y.symm), if_pos z3.symm] at h; exact h
    · rw [if_neg (fun y => z1 y.symm), if_pos z2.symm] at h; exact h
    · rw [if_pos z1.symm] at h; exact h
  · refine ⟨fun _ => ?_, fun z => absurd z (by decide), fun z => absurd (by decide) z.1⟩
    have e : itn 4 x 6 0 = if (97 : Int32) = x then some 0 else if (100 : Int32) = x then some 1 else if (118 : Int32) = x then some 2 else if (107 : Int32) = x then some 3 else if (103 : Int32) = x then some 4 else if (111 : Int32) = x then some 5 else none := rfl
    rw [e] at h
    refine ⟨fun z1 => ⟨fun z2 => ⟨fun z3 => ⟨fun z4 => ⟨fun z5 => ⟨fun z6 => ?_, fun z6 => ?_⟩, fun z5 => ?_⟩, fun z4 => ?_⟩, fun z3 => ?_⟩, fun z2 => ?_⟩, fun z1 => ?_⟩
    · rw [if_neg (fun y => z1 y.symm), if_neg (fun y => z2 y.symm), if_neg (fun y => z3 y.symm), if_neg (fun y => z4 y.symm), if_neg (fun y => z5 y.symm), if_neg (fun y => z6 y.symm)] at h; exact h
    · rw [if_neg (fun y => z1 y.symm), if_neg (fun y => z2 y.symm), if_neg (fun y => z3 y.symm), if_neg (fun y => z4 y.symm), if_neg (fun y => z5 y.symm), if_pos z6.symm] at h; exact h
    · rw [if_neg (fun y => z1 y.symm), if_neg (fun y => z2 y.symm), if_neg (fun y => z3 y.symm), if_neg (fun y => z4 y.symm), if_pos z5.symm] at h; exact h
    · rw [if_neg (fun y => z1 y.symm), if_neg (fun y => z2 y.symm), if_neg (fun y => z3 y.symm), if_pos z4.symm] at h; exact h
    · rw [if_neg (fun y => z1 y.symm), if_neg (fun y => z2 y.symm), if_pos z3.symm] at h; exact h
    · rw [if_neg (fun y => z1 y.symm), if_pos z2.symm] at h; exact h
    · rw [if_pos z1.symm] at h; exact h
  · refine ⟨fun z => absurd z (by decide), fun z => absurd z (by decide), fun _ => ?_⟩
    have e : itn 10 x 2 0 = if (99 : Int32) = x then some 0 else if (109 : Int32) = x then some 1 else none := rfl
    rw [e] at h
    refine ⟨fun z1 => ⟨fun z2 => ?_, fun z2 => ?_⟩, fun z1 => ?_⟩
    · rw [if_neg (fun y => z1 y.symm), if_neg (fun y => z2 y.symm)] at h; exact h
    · rw [if_neg (fun y => z1 y.symm), if_pos z2.symm] at h; exact h
    · rw [if_pos z1.symm] at h; exact h
/-- what the reference holds after a fault at j among the items -/
def IBad (S' : mj_S) (t : Nat → Nat) (n j : Nat) : Prop := m_gi S' 89 4 = nI j ∧ j < 1000 ∨ m_gi S' 89 4 = -1 ∧ RRD S' t n j ∧ skp t n j = j ∧ j < n ∧ t j ≠ 59
theorem nmb_lt {lo hi j : Nat} (hpn : p ≤ n) (hn : n ≤ 240) (e : nmb t n lo hi p = .inl j) : j < 1000 := by
  have hq := skp_b (t := t) hpn
  unfold nmb nmf at e
  split at e
  · split at e
    · split at e
      · cases e; omega
      · split at e
        · cases e
        · cases e; omega
    · split at e
      · cases e
      · cases e; omega
  · cases e; omega
theorem s_items41 {sg f m u B : Nat} (hq : srt sg f m) (hu : u ≠ 89) (hu2 : u ≠ 90) (hB : B < 1000) : ∀ (g : Nat) (had : Nat → Bool) (v : Nat → Nat) (b : Int32) (p : Nat) (S : mj_S) (Q : mj_S → Prop), g + chd had m = m + 1 → (∀ k, k < m → bt b k = had k) → RRD S t n p → skp t n p = p → m_kd S u = 100 → B + m ≤ m_ln S u ∧ m_ln S u < 1000 → m_gi S 89 4 = -1 → (∀ k, k < m → m_gi S u (B + k) = nI (v k)) → (∀ j, its t n f m g had v p = .inl j → ∀ S', fr (Dit u B m) S S' → IBad S' t n j → Q S') → (∀ r, its t n f m g had v p = .inr r → ∀ S', fr (Dit u B m) S S' → RRD S' t n r.2 → m_gi S' 89 4 = -1 → (∀ k, k < m → m_gi S' u (B + k) = nI (r.1 k)) → Q S') → V_X11_items_41 l G 89 (nI sg) u (nI B) b (oI (itn f (cr t n p) m 0)) S Q
  | 0, had, v, b, p, S, Q, gi, hb, T, hsk, hku, hlu, w, hv, h0, h1 => by
    have := chd_le (had := had) m
    omega
  | g + 1, had, v, b, p, S, Q, gi, hb, T, hsk, hku, hlu, w, hv, h0, h1 => by
    have hpn := T.pn
    have hle := hq.le
    have h0' : ∀ j, (match itn f (cr t n (skp t n p)) m 0 with
      | none => (.inr (v, skp t n p) : Nat ⊕ ((Nat → Nat) × Nat))
      | some k => if had k = true then .inl (skp t n p) else match nmb t n (tb LO (f + k)) (tb HI (f + k)) (skp t n p + 1) with
        | .inl j => .inl j
        | .inr r => its t n f m g (fun i => had i || decide (i = k)) (fun i => if i = k then r.1 else v i) r.2) = .inl j → ∀ S', fr (Dit u B m) S S' → IBad S' t n j → Q S' := h0
    have h1' : ∀ r, (match itn f (cr t n (skp t n p)) m 0 with
      | none => (.inr (v, skp t n p) : Nat ⊕ ((Nat → Nat) × Nat))
      | some k => if had k = true then .inl (skp t n p) else match nmb t n (tb LO (f + k)) (tb HI (f + k)) (skp t n p + 1) with
        | .inl j => .inl j
        | .inr r => its t n f m g (fun i => had i || decide (i = k)) (fun i => if i = k then r.1 else v i) r.2) = .inr r → ∀ S', fr (Dit u B m) S S' → RRD S' t n r.2 → m_gi S' 89 4 = -1 → (∀ k, k < m → m_gi S' u (B + k) = nI (r.1 k)) → Q S' := h1
    clear h0 h1
    rw [hsk] at h0' h1'
    refine b_X11_items_41 T.1.1 hku ⟨fun z => absurd w z, fun _ => ?_⟩
    cases ek : itn f (cr t n p) m 0 with
    | none =>
      rw [ek] at h1'
      exact ⟨fun _ => h1' _ rfl S fr.rf T w hv, fun z => absurd rfl z⟩
    | some k =>
      rw [ek] at h0' h1'
      have hk := itn_lt ek
      have htb := tb_b (f + k) (by omega)
      have hlt := (cr_is (p := p) T.tw (show tb LT (f + k) < 2 ^ 31 by omega)).mp hk.2.2.symm
      rw [show oI (some k) = nI k from rfl]
      refine ⟨fun z => absurd z (nI_m1 (by omega)), fun _ => s_rhas (by omega) (fun q => ?_) (fun q => ?_)⟩
      · rw [hb k (by omega)] at q
        try simp only [Option.some.injEq, exists_eq_left', fi32, i10, i00, false_implies, true_implies, not_false_eq_true, not_true_eq_false, true_and, and_true, nI_1, lz0, lz1, ix0, ix11, ix2]
        have h0'' := h0' p
        simp only [q, if_true] at h0''
        have hne : t p ≠ 59 := by
          rw [hlt.2]
          have : ∀ i, i < 12 → tb LT i ≠ 59 := by decide +kernel
          exact this _ (by omega)
        exact h0'' trivial S fr.rf (Or.inr ⟨w, T, hsk, hlt.1, hne⟩)
      · rw [hb k (by omega)] at q
        simp only [q, Bool.false_eq_true, if_false] at h0' h1'
        try simp only [Option.some.injEq, exists_eq_left', fi32, i10, i00, false_implies, true_implies, not_false_eq_true, not_true_eq_false, true_and, and_true, nI_1, lz0, lz1, ix0, ix11, ix2, T.at_]
        intro S4 e4
        have T4 : RRD S4 t n (p + 1) := by rw [e4]; exact T.mv (by omega)
        have w4 : m_gi S4 89 4 = -1 := by rw [e4, m_gi_si, if_neg (by omega)]; exact w
        have f4 : fr (Dit u B m) S S4 := D89_it (by rw [e4]; exact fr.si rfl)
        refine s_lowestI hq (by omega) (s_highest hq (by omega) (s_number T4 w4 (by omega) (by omega) (fun j ej S9 f9 w9 x => ?_) (fun r er S9 e9 hr => ?_)))
        · simp only [ej] at h0'
          have f9' : fr (Dit u B m) S S9 := f4.tr (D89_it f9)
          have hl9 : m_ln S9 u = m_ln S u := by unfold m_ln; rw [f9'.1]
          have hj := nmb_lt (by omega) (by omega) ej
          rw [nI_add, nI_clamp (by omega)]
          refine ⟨by rw [hl9]; exact vp_nI (by omega) (by omega), fun S11 e11 => ?_⟩
          have w11 : m_gi S11 89 4 = nI j := by rw [e11, m_gi_si, if_neg (fun z => hu z.1.symm)]; exact w9
          have f11 : fr (Dit u B m) S S11 := f9'.tr (by rw [e11]; exact fr.si (Dit_u (by omega) (by omega)))
          refine ⟨fun _ => ?_, fun z => absurd (w11.symm.trans z) (nI_m1 (by omega))⟩
          have hk11 : m_kd S11 u = 100 := by unfold m_kd; rw [f11.1]; exact hku
          have hk89 : m_kd S11 89 = 10 := by unfold m_kd; rw [f11.1]; exact T.1.1
          exact b_X11_items_41 hk89 hk11 ⟨fun _ => h0' j rfl S11 f11 (Or.inl ⟨w11, hj⟩), fun z => absurd (w11.symm.trans z) (nI_m1 (by omega))⟩
        · simp only [er] at h0' h1'
          have f9 : fr (Dit u B m) S S9 := f4.tr (D89_it (by rw [e9]; exact fr.si rfl))
          have hl9 : m_ln S9 u = m_ln S u := by unfold m_ln; rw [f9.1]
          have T9 : RRD S9 t n r.2 := by rw [e9]; exact T4.mv hr
          rw [nI_add, nI_clamp (by omega)]
          refine ⟨by rw [hl9]; exact vp_nI (by omega) (by omega), fun S11 e11 => ?_⟩
          have w11 : m_gi S11 89 4 = -1 := by rw [e11, m_gi_si, if_neg (fun z => hu z.1.symm), e9, m_gi_si, if_neg (by omega)]; exact w4
          have f11 : fr (Dit u B m) S S11 := f9.tr (by rw [e11]; exact fr.si (Dit_u (by omega) (by omega)))
          have T11 : RRD S11 t n r.2 := by
            refine T9.keep (by rw [e11]; rfl) (by rw [e11]; rfl) ?_ ?_ (fun j => ?_)
            · rw [e11, m_gi_si, if_neg (fun z => hu z.1.symm)]
            · rw [e11, m_gi_si, if_neg (fun z => hu z.1.symm)]
            · rw [e11, m_gi_si, if_neg (fun z => hu2 z.1.symm)]
          refine ⟨fun z => absurd w11 z, fun _ => s_look T11 (fun S12 e12 T12 => s_ritemOf hq ?_)⟩
          have f12 : fr (Dit u B m) S S12 := f11.tr (D89_it (by rw [e12]; exact fr.si rfl))
          have hq12 := skp_id (t := t) (T11.pn.1)
          have its_sk : ∀ (g : Nat) (had : Nat → Bool) (v : Nat → Nat) (p : Nat), p ≤ n → its t n f m (g + 1) had v (skp t n p) = its t n f m (g + 1) had v p := by
            intro g had v p hp
            show (match itn f (cr t n (skp t n (skp t n p))) m 0 with
              | none => (.inr (v, skp t n (skp t n p)) : Nat ⊕ ((Nat → Nat) × Nat))
              | some k => if had k = true then .inl (skp t n (skp t n p)) else match nmb t n (tb LO (f + k)) (tb HI (f + k)) (skp t n (skp t n p) + 1) with
                | .inl j => .inl j
                | .inr r => its t n f m g (fun i => had i || decide (i = k)) (fun i => if i = k then r.1 else v i) r.2) = _
            rw [skp_id hp]; rfl
          have hch : g + chd (fun i => had i || decide (i = k)) m = m + 1 := by
            rw [chd_s (by rw [q]; decide) m (by omega)]; omega
          have hg : ∃ g', g = g' + 1 := by
            have := chd_le (had := fun i => had i || decide (i = k)) m
            exact ⟨g - 1, by omega⟩
          obtain ⟨g', eg⟩ := hg
          subst eg
          refine s_items41 hq hu hu2 hB (g' + 1) _ (fun i => if i = k then r.1 else v i) _ _ S12 Q hch ?_ T12 hq12 (by unfold m_kd; rw [f12.1]; exact hku) (by unfold m_ln; rw [f12.1]; exact hlu) ?_ ?_ (fun j ej S' f' => h0' j ?_ S' (f12.tr f')) (fun y ey S' f' => h1' y ?_ S' (f12.tr f'))
          · intro j hj
            show bt (b ||| on k) j = _
            rw [b_or, b_on (by omega) (by omega), hb j hj]
          · rw [e12, m_gi_si, if_neg (by omega)]; exact w11
          · intro j hj
            rw [e12, m_gi_si, if_neg (fun z => hu z.1), e11, m_gi_si]
            by_cases e : j = k
            · rw [if_pos ⟨rfl, by omega⟩, if_pos e]
            · rw [if_neg (by omega), if_neg e, e9, m_gi_si, if_neg (fun z => hu z.1), e4, m_gi_si, if_neg (fun z => hu z.1)]
              exact hv j hj
          · rw [its_sk _ _ _ _ T11.pn.1] at ej; exact ej
          · rw [its_sk _ _ _ _ T11.pn.1] at ey; exact ey
theorem s_items3 {sg f m u B : Nat} (hq : srt sg f m) (hu : u ≠ 89) (hu2 : u ≠ 90) (hB : B < 1000) : ∀ (g i : Nat) (p : Nat) (S : mj_S) (Q : mj_S → Prop), g + i = m → RRD S t n p → m_kd S u = 100 → B + m ≤ m_ln S u ∧ m_ln S u < 1000 → m_gi S 89 4 = -1 → (∀ k, k < i → m_gi S u (B + k) = nI (tb US (f + k))) → (∀ j, its t n f m (m + 1) (fun _ => false) (fun k => tb US (f + k)) p = .inl j → ∀ S', fr (Dit u B m) S S' → IBad S' t n j → Q S') → (∀ r, its t n f m (m + 1) (fun _ => false) (fun k => tb US (f + k)) p = .inr r → ∀ S', fr (Dit u B m) S S' → RRD S' t n r.2 → m_gi S' 89 4 = -1 → (∀ k, k < m → m_gi S' u (B + k) = nI (r.1 k)) → Q S') → V_X11_items_3 l G 89 (nI sg) u (nI B) (nI m) (nI i) S Q
  | 0, i, p, S, Q, gi, T, hku, hlu, w, hv, h0, h1 => by
    have hle := hq.le
    refine b_X11_items_3 T.1.1 hku ⟨fun _ => s_look T (fun S1 e1 T1 => s_ritemOf hq ?_), fun z => absurd (nI_le (by omega) (by omega)) z⟩
    have f1 : fr (Dit u B m) S S1 := D89_it (by rw [e1]; exact fr.si rfl)
    have its_sk : its t n f m (m + 1) (fun _ => false) (fun k => tb US (f + k)) (skp t n p) = its t n f m (m + 1) (fun _ => false) (fun k => tb US (f + k)) p := by
      show (match itn f (cr t n (skp t n (skp t n p))) m 0 with
        | none => (.inr (_, skp t n (skp t n p)) : Nat ⊕ ((Nat → Nat) × Nat))
        | some k => if (fun _ => false) k = true then .inl (skp t n (skp t n p)) else match nmb t n (tb LO (f + k)) (tb HI (f + k)) (skp t n (skp t n p) + 1) with
          | .inl j => .inl j
          | .inr r => its t n f m m (fun i => (fun _ => false) i || decide (i = k)) (fun i => if i = k then r.1 else tb US (f + i)) r.2) = _
      rw [skp_id T.pn.1]; rfl
    refine s_items41 hq hu hu2 hB (m + 1) (fun _ => false) (fun k => tb US (f + k)) 0 (skp t n p) S1 Q (by rw [chd_0]) (fun k hk => by rw [show (0 : Int32) = nI 0 from rfl, b_nI _ (by omega)]; simp) T1 (skp_id T.pn.1) (by unfold m_kd; rw [f1.1]; exact hku) (by unfold m_ln; rw [f1.1]; exact hlu) ?_ ?_ (fun j ej S' f' => h0 j (by rw [← its_sk]; exact ej) S' (f1.tr f')) (fun y ey S' f' => h1 y (by rw [← its_sk]; exact ey) S' (f1.tr f'))
    · rw [e1, m_gi_si, if_neg (by omega)]; exact w
    · intro k hk
      rw [e1, m_gi_si, if_neg (fun z => hu z.1)]; exact hv k (by omega)
  | g + 1, i, p, S, Q, gi, T, hku, hlu, w, hv, h0, h1 => by
    have hle := hq.le
    refine b_X11_items_3 T.1.1 hku ⟨fun z => absurd z (nI_ge (by omega) (by omega)), fun _ => s_usual hq (by omega) ?_⟩
    rw [nI_add, nI_1, nI_clamp (by omega)]
    refine ⟨vp_nI (by omega) (by omega), fun S7 e7 v8 e8 => ?_⟩
    have f7 : fr (Dit u B m) S S7 := by rw [e7]; exact fr.si (Dit_u (by omega) (by omega))
    have T7 : RRD S7 t n p := by
      refine T.keep (by rw [e7]; rfl) (by rw [e7]; rfl) ?_ ?_ (fun j => ?_)
      · rw [e7, m_gi_si, if_neg (fun z => hu z.1.symm)]
      · rw [e7, m_gi_si, if_neg (fun z => hu z.1.symm)]
      · rw [e7, m_gi_si, if_neg (fun z => hu2 z.1.symm)]
    rw [e8]
    refine s_items3 hq hu hu2 hB g (i + 1) p S7 Q (by omega) T7 (by unfold m_kd; rw [f7.1]; exact hku) (by unfold m_ln; rw [f7.1]; exact hlu) ?_ ?_ (fun j ej S' f' => h0 j ej S' (f7.tr f')) (fun y ey S' f' => h1 y ey S' (f7.tr f'))
    · rw [e7, m_gi_si, if_neg (fun z => hu z.1.symm)]; exact w
    · intro k hk
      rw [e7, m_gi_si]
      by_cases e : k = i
      · rw [if_pos ⟨rfl, by omega⟩, e]
      · rw [if_neg (by omega)]; exact hv k (by omega)
theorem s_items {sg f m u B : Nat} {Q : mj_S → Prop} (hq : srt sg f m) (hu : u ≠ 89) (hu2 : u ≠ 90) (hB : B < 1000) (T : RRD S t n p) (hku : m_kd S u = 100) (hlu : B + m ≤ m_ln S u ∧ m_ln S u < 1000) (w : m_gi S 89 4 = -1) (h0 : ∀ j, its t n f m (m + 1) (fun _ => false) (fun k => tb US (f + k)) p = .inl j → ∀ S', fr (Dit u B m) S S' → IBad S' t n j → Q S') (h1 : ∀ r, its t n f m (m + 1) (fun _ => false) (fun k => tb US (f + k)) p = .inr r → ∀ S', fr (Dit u B m) S S' → RRD S' t n r.2 → m_gi S' 89 4 = -1 → (∀ k, k < m → m_gi S' u (B + k) = nI (r.1 k)) → Q S') : M_X11_items l G 89 (nI sg) u (nI B) (nI m) S Q :=
  e_X11_items (b_X11_items_0 T.1.1 hku (s_items3 hq hu hu2 hB m 0 p S Q (by omega) T hku hlu w (fun k hk => by omega) h0 h1))
end RIT
