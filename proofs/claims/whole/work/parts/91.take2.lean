/-! the reference takes a room: what is beside, what hangs between -/
def nxF (w h q way : Nat) : Option Nat := if way = 0 then (if q % w + 1 < w then some (q + 1) else none) else if way = 1 then (if q + w < w * h then some (q + w) else none) else if way = 2 then (if 0 < q % w then some (q - 1) else none) else (if w ≤ q then some (q - w) else none)
def bsX (w q way : Nat) : Int32 := (nI q - nI q / nI w * nI w) + (if way = 0 then 1 else if way = 2 then -1 else 0)
def bsY (w q way : Nat) : Int32 := nI q / nI w + (if way = 1 then 1 else if way = 3 then -1 else 0)
def bsF (w h q way : Nat) : Int32 := if bsX w q way < 0 ∨ nI w - 1 < bsX w q way then -1 else if bsY w q way < 0 ∨ nI h - 1 < bsY w q way then -1 else bsY w q way * nI w + bsX w q way
theorem bsF_ck : ((List.range 6).all fun w => (List.range 5).all fun h => (List.range 20).all fun q => (List.range 4).all fun way => !decide (0 < w) || (!decide (q < w * h) || decide (bsF w h q way = oI (nxF w h q way)))) = true := by decide +kernel
theorem bsF_is (w : Nat) (hw : w < 6) (h : Nat) (hh : h < 5) (q : Nat) (hq : q < 20) (way : Nat) (hy : way < 4) (h1 : 0 < w) (h2 : q < w * h) : bsF w h q way = oI (nxF w h q way) := by
  have a := List.all_eq_true.mp bsF_ck w (List.mem_range.mpr hw)
  have b := List.all_eq_true.mp a h (List.mem_range.mpr hh)
  have c := List.all_eq_true.mp b q (List.mem_range.mpr hq)
  have d := List.all_eq_true.mp c way (List.mem_range.mpr hy)
  simp only [decide_eq_true h1, decide_eq_true h2, Bool.not_true, Bool.false_or] at d
  exact of_decide_eq_true d
theorem bw_up {R : rm} {u v c : Nat} : ∀ (d k : Nat), bw R u v k = some c → bw R u v (k + d) = some c
  | 0, k, h => h
  | d + 1, k, h => by
    show (match bw R u v (k + d) with
      | some c => some c
      | none => if r_nr R (k + d) = u ∧ r_fr R (k + d) = v then some (k + d) else none) = some c
    rw [bw_up d k h]
/-- the reference's room without what is beside -/
def Rz (S : mj_S) (R : rm) : Prop := (m_gi S 89 25 = nI (r_n R) ∧ m_gi S 89 26 = nI (r_nc R) ∧ m_gi S 89 27 = nI (r_np R)) ∧ (m_gi S 103 0 = nI (r_w R) ∧ m_gi S 103 1 = nI (r_h R) ∧ m_gi S 103 2 = nI (r_li R) ∧ m_gi S 103 3 = nI (r_mo R)) ∧ (∀ c, c < r_nc R → m_gi S 104 (6 * c) = nI (r_nr R c) ∧ m_gi S 104 (6 * c + 1) = nI (r_rl R c) ∧ m_gi S 104 (6 * c + 2) = nI (r_ve R c) ∧ m_gi S 104 (6 * c + 4) = nI (r_gp R c)) ∧ (∀ p, p < r_np R → m_gi S 105 (2 * p + 1) = nI (r_mi R p))
section T2
variable {l : Launch} {G : mj_G} {L : Nat} {S : mj_S} {R : rm}
theorem Rz.k {S' : mj_S} (h : Rz S R) (k1 : ∀ j, 25 ≤ j → j ≤ 27 → m_gi S' 89 j = m_gi S 89 j) (k2 : ∀ a j, 103 ≤ a → a ≤ 105 → m_gi S' a j = m_gi S a j) : Rz S' R := ⟨⟨(k1 _ (by omega) (by omega)).trans h.1.1, (k1 _ (by omega) (by omega)).trans h.1.2.1, (k1 _ (by omega) (by omega)).trans h.1.2.2⟩, ⟨(k2 _ _ (by omega) (by omega)).trans h.2.1.1, (k2 _ _ (by omega) (by omega)).trans h.2.1.2.1, (k2 _ _ (by omega) (by omega)).trans h.2.1.2.2.1, (k2 _ _ (by omega) (by omega)).trans h.2.1.2.2.2⟩, fun c hc => by
    have := h.2.2.1 c hc
    exact ⟨(k2 _ _ (by omega) (by omega)).trans this.1, (k2 _ _ (by omega) (by omega)).trans this.2.1, (k2 _ _ (by omega) (by omega)).trans this.2.2.1, (k2 _ _ (by omega) (by omega)).trans this.2.2.2⟩, fun p hp => (k2 _ _ (by omega) (by omega)).trans (h.2.2.2 p hp)⟩
theorem z_of {c k : Nat} {Q : mj_S → Int32 → Prop} (hs : Sh L S) (hc : c < 10) (hk : k < 6) (h : Q S (m_gi S 104 (6 * c + k))) : M_X11_of l G 89 (nI c) (nI k) S Q := by
  refine e_X11_of (b_X11_of_0 hs.k89 ⟨104, hs.p89_23, ?_, ?_⟩)
  · rw [ix6, hs.l104]; exact vp_nI (by omega) (by omega)
  · rw [ix6, nI_clamp (by omega)]; exact h
theorem z_firstSide {c : Nat} {Q : mj_S → Int32 → Prop} (hs : Sh L S) (hR : r_wf R) (C : Rz S R) (hc : c < r_nc R) (h : Q S (nI (r_nr R c))) : M_X11_firstSide l G 89 (nI c) S Q := by
  have nc := hR.nc
  refine e_X11_firstSide (b_X11_firstSide_0 hs.k89 (z_of (k := 0) hs (by omega) (by omega) ?_))
  rw [Nat.add_zero, (C.2.2.1 c hc).1]; exact h
theorem z_secondSide {c : Nat} {Q : mj_S → Int32 → Prop} (hs : Sh L S) (hR : r_wf R) (C : Rz S R) (hc : c < r_nc R) (h : Q S (nI (r_fr R c))) : M_X11_secondSide l G 89 (nI c) S Q := by
  have nc := hR.nc
  refine e_X11_secondSide (b_X11_secondSide_0 hs.k89 (z_of (k := 0) hs (by omega) (by omega) (z_of (k := 1) hs (by omega) (by omega) ?_)))
  have e0 : m_gi S 104 (6 * c + 0) = nI (r_nr R c) := (C.2.2.1 c hc).1
  rw [e0, (C.2.2.1 c hc).2.1]
  unfold r_fr at h
  refine ⟨fun q => ⟨103, hs.p89_22, by rw [hs.l103]; exact vp_nI (p := 0) (by omega) (by omega), ?_⟩, fun q => ?_⟩
  · rw [show (0 : Int32).toNatClampNeg = 0 by decide, C.2.1.1, nI_add]
    rw [if_neg (fun z => q (by rw [z]; rfl))] at h; exact h
  · rw [nI_1]
    rw [if_pos (show r_rl R c = 0 by rcases hR.rl hc with z | z; exact z.1; rw [z.1] at q; exact absurd q (by decide))] at h; exact h
theorem s_between {q b : Nat} {Q : mj_S → Int32 → Prop} (hs : Sh L S) (hR : r_wf R) (C : Rz S R) (hq : q < 20) (hb : b < 20) (h : Q S (oI (bw R (min q b) (max q b) (r_nc R)))) : M_X11_between l G 89 (nI q) (nI b) S Q := by
  have nc := hR.nc
  have n20 := hR.n
  have emn : mn (nI q) (nI b) = nI (min q b) := by
    unfold mn
    by_cases e : b < q
    · rw [if_pos (nI_lt e (by omega)), Nat.min_eq_right (by omega)]
    · rw [if_neg (nI_nlt (by omega) (by omega)), Nat.min_eq_left (by omega)]
  have emx : mx (nI q) (nI b) = nI (max q b) := by
    unfold mx
    by_cases e : q < b
    · rw [if_pos (nI_lt e (by omega)), Nat.max_eq_right (by omega)]
    · rw [if_neg (nI_nlt (by omega) (by omega)), Nat.max_eq_left (by omega)]
  have key : ∀ k c, k + c = r_nc R → bw R (min q b) (max q b) c = none → V_X11_between_2 l G 89 (nI q) (nI b) (nI c) S Q := by
    intro k
    induction k with
    | zero =>
      intro c ek hn
      refine b_X11_between_2 hs.k89 ?_
      rw [C.1.2.1]
      refine ⟨fun _ => ?_, fun z => absurd (nI_le (by omega) (by omega)) z⟩
      rw [show r_nc R = c by omega, hn] at h
      exact h
    | succ k ih =>
      intro c ek hn
      have hc : c < r_nc R := by omega
      have h1 := hR.nr hc
      have h2 := hR.fr hc
      have hmn : min q b < 20 := by omega
      have hmx : max q b < 20 := by omega
      have nxt : ¬ (r_nr R c = min q b ∧ r_fr R c = max q b) → bw R (min q b) (max q b) (c + 1) = none := by
        intro z
        show (match bw R (min q b) (max q b) c with
          | some c => some c
          | none => if r_nr R c = min q b ∧ r_fr R c = max q b then some c else none) = none
        rw [hn]
        exact if_neg z
      refine b_X11_between_2 hs.k89 ?_
      rw [C.1.2.1]
      refine ⟨fun z => absurd z (nI_ge (by omega) (by omega)), fun _ => z_firstSide hs hR C hc (s_mn ?_)⟩
      rw [emn, nI_eqI (by omega) (by omega), nI_1]
      refine ⟨fun z v5 e5 => ?_, fun z => z_secondSide hs hR C hc (s_mx ?_)⟩
      · rw [e5]; exact ih (c + 1) (by omega) (nxt (fun y => z y.1))
      · rw [emx, nI_eqI (by omega) (by omega)]
        refine ⟨fun y v10 e10 => ?_, fun y => ?_⟩
        · rw [e10]; exact ih (c + 1) (by omega) (nxt (fun u => y u.2))
        · have e1 : bw R (min q b) (max q b) (c + 1) = some c := by
            show (match bw R (min q b) (max q b) c with
              | some c => some c
              | none => if r_nr R c = min q b ∧ r_fr R c = max q b then some c else none) = some c
            rw [hn]
            exact if_pos ⟨z, y⟩
          have e2 := bw_up (r_nc R - (c + 1)) (c + 1) e1
          rw [show c + 1 + (r_nc R - (c + 1)) = r_nc R by omega] at e2
          rw [e2] at h
          exact h
  exact e_X11_between (b_X11_between_0 hs.k89 (key (r_nc R) 0 (by omega) rfl))
theorem s_beside {q way : Nat} {Q : mj_S → Int32 → Prop} (hs : Sh L S) (hR : r_wf R) (C : Rz S R) (hq : q < r_n R) (hw : way < 4) (h : Q S (oI (nx R q way))) : M_X11_beside l G 89 (nI q) (nI way) S Q := by
  have n20 := hR.n
  have hw5 := hR.w
  have hh4 := hR.h
  have w0 : 0 < r_w R := by
    by_cases e : r_w R = 0
    · unfold r_n at hq; rw [e, Nat.zero_mul] at hq; omega
    · omega
  have eF : bsF (r_w R) (r_h R) q way = oI (nx R q way) := bsF_is (r_w R) (by omega) (r_h R) (by omega) q (by omega) way hw w0 hq
  rw [← eF] at h
  unfold bsF at h
  have g0 : vp_in (0 : Int32) 4 := vp_nI (p := 0) (by omega) (by omega)
  have g1 : vp_in (1 : Int32) 4 := vp_nI (p := 1) (by omega) (by omega)
  have wne : ¬ nI (r_w R) = 0 := nI_ne0 w0 (by omega)
  have last : V_X11_beside_55 l G 89 (bsX (r_w R) q way) (nI q / nI (r_w R)) (if way = 1 then 1 else if way = 3 then -1 else 0) S Q := by
    refine b_X11_beside_55 hs.k89 (fun v1 e1 => ⟨103, hs.p89_22, by rw [hs.l103]; exact g0, ?_⟩)
    have e1' : v1 = bsY (r_w R) q way := e1
    rw [lz0, C.2.1.1, e1']
    refine s_rin (fun a b => ?_) (fun a => ?_)
    · rw [if_neg (fun z => by rcases z with z | z; exact a z; exact b z)] at h
      try simp only [Option.some.injEq, exists_eq_left', fi32, i10, i00, false_implies, true_implies, not_false_eq_true, not_true_eq_false, true_and, and_true, nI_1, lz0, lz1, ix0, ix11, ix2]
      refine ⟨103, hs.p89_22, by rw [hs.l103]; exact g1, ?_⟩
      rw [C.2.1.2.1]
      refine s_rin (fun a b => ?_) (fun a => ?_)
      · rw [if_neg (fun z => by rcases z with z | z; exact a z; exact b z)] at h
        try simp only [Option.some.injEq, exists_eq_left', fi32, i10, i00, false_implies, true_implies, not_false_eq_true, not_true_eq_false, true_and, and_true, nI_1, lz0, lz1, ix0, ix11, ix2]
        refine ⟨103, hs.p89_22, by rw [hs.l103]; exact g0, ?_⟩
        rw [C.2.1.1]
        exact h
      · rw [if_pos a] at h
        try simp only [Option.some.injEq, exists_eq_left', fi32, i10, i00, false_implies, true_implies, not_false_eq_true, not_true_eq_false, true_and, and_true, nI_1, lz0, lz1, ix0, ix11, ix2]
        exact h
    · rw [if_pos a] at h
      try simp only [Option.some.injEq, exists_eq_left', fi32, i10, i00, false_implies, true_implies, not_false_eq_true, not_true_eq_false, true_and, and_true, nI_1, lz0, lz1, ix0, ix11, ix2]
      exact h
  have mid : V_X11_beside_26 l G 89 (nI q) (nI way) (nI q - nI q / nI (r_w R) * nI (r_w R)) (if way = 0 then 1 else if way = 2 then -1 else 0) S Q := by
    refine b_X11_beside_26 hs.k89 (fun v1 e1 => ⟨103, hs.p89_22, by rw [hs.l103]; exact g0, ?_⟩)
    have e1' : v1 = bsX (r_w R) q way := e1
    rw [lz0, C.2.1.1, e1', show (1 : Int32) = nI 1 from rfl, show (3 : Int32) = nI 3 from rfl, nI_eqI (by omega) (by omega), nI_eqI (by omega) (by omega)]
    refine ⟨wne, fun z => ⟨fun y => ?_, fun y => ?_⟩, fun z => ?_⟩
    · rw [if_neg z, if_neg y] at last; exact last
    · rw [if_neg z, if_pos y] at last; exact last
    · rw [if_pos z] at last; exact last
  refine e_X11_beside (b_X11_beside_0 hs.k89 ⟨103, hs.p89_22, by rw [hs.l103]; exact g0, ?_⟩)
  rw [lz0, C.2.1.1, nI_e0 (a := way) (by omega), show (2 : Int32) = nI 2 from rfl, nI_eqI (by omega) (by omega)]
  refine ⟨wne, fun z => ⟨fun y => ?_, fun y => ?_⟩, fun z => ?_⟩
  · rw [if_neg z, if_neg y] at mid; exact mid
  · rw [if_neg z, if_pos y] at mid; exact mid
  · rw [if_pos z] at mid; exact mid
end T2
