/-! the law's loop -/
section LL_
variable {l : Launch} {G : mj_G} {L : Nat}
theorem inv_sh {S : mj_S} (V : INV L S) : Sh L S := by
  obtain ⟨a, w, c, d⟩ := V
  exact c.sh
theorem l6_lt {i : Nat} (hL : L ≤ 3072) (hi : i ≤ 6000) : (Int32.ofNat L - 6 < nI i) ↔ L < i + 6 := by
  rw [Int32.lt_iff_toInt_lt, Int32.toInt_sub, nI_toInt (show i < 2 ^ 31 by omega), show (Int32.ofNat L).toInt = (L : Int) from nI_toInt (show L < 2 ^ 31 by omega), show (6 : Int32).toInt = 6 from rfl, Int.bmod_eq_of_le_mul_two (by omega) (by omega)]
  omega
theorem law_loop (hl : l.stackTraces = false) (hL : L ≤ 3072) : ∀ (f m k n : Nat) (S : mj_S), L ≤ 6 * (m + f) → m + f ≤ 512 → k ≤ 200 + m → n ≤ 25000 + 6 * m → INV L S → V_L_law_23 l G k n 5 6 89 119 (nI (6 * m)) S
  | 0, m, k, n, S, hf, hm, hk, hn, V => by
    have hs := inv_sh V
    refine b_L_law_23 ⟨by omega, by omega⟩ hs.k5 hs.k6 hs.k89 hs.k119 ?_
    rw [hs.l5]
    exact ⟨fun _ => rfl, fun z => absurd ((l6_lt hL (by omega)).mpr (by omega)) z⟩
  | f + 1, m, k, n, S, hf, hm, hk, hn, V => by
    have hs := inv_sh V
    have hkn : k ≤ 600000 ∧ n ≤ 7200000 := ⟨by omega, by omega⟩
    by_cases hend : L < 6 * m + 6
    · refine b_L_law_23 hkn hs.k5 hs.k6 hs.k89 hs.k119 ?_
      rw [hs.l5]
      exact ⟨fun _ => rfl, fun z => absurd ((l6_lt hL (by omega)).mpr hend) z⟩
    have go : ∀ {S2 : mj_S} {v : Int32}, INV L S2 → v = nI (6 * m) + 6 → V_L_law_23 l G k n 5 6 89 119 v S2 := by
      intro S2 v V2 e
      rw [e, show (6 : Int32) = nI 6 from rfl, nI_add, show 6 * m + 6 = 6 * (m + 1) by omega]
      exact law_loop hl hL f (m + 1) k n S2 (by omega) (by omega) (by omega) (by omega) V2
    have go1 : ∀ {S2 : mj_S} {v : Int32}, INV L S2 → v = nI (6 * m) + 6 → V_L_law_23 l G (k + 1) (n + 6) 5 6 89 119 v S2 := by
      intro S2 v V2 e
      rw [e, show (6 : Int32) = nI 6 from rfl, nI_add, show 6 * m + 6 = 6 * (m + 1) by omega]
      exact law_loop hl hL f (m + 1) (k + 1) (n + 6) S2 (by omega) (by omega) (by omega) (by omega) V2
    have vp0 : vp_in (nI (6 * m)) L := vp_nI (by omega) (by omega)
    have vp1 : vp_in (nI (6 * m) + 1) L := by rw [show (1 : Int32) = nI 1 from rfl, nI_add]; exact vp_nI (by omega) (by omega)
    have vp2 : vp_in (nI (6 * m) + 2) L := by rw [show (2 : Int32) = nI 2 from rfl, nI_add]; exact vp_nI (by omega) (by omega)
    have vp3 : vp_in (nI (6 * m) + 3) L := by rw [show (3 : Int32) = nI 3 from rfl, nI_add]; exact vp_nI (by omega) (by omega)
    have vp4 : vp_in (nI (6 * m) + 4) L := by rw [show (4 : Int32) = nI 4 from rfl, nI_add]; exact vp_nI (by omega) (by omega)
    have vp5 : vp_in (nI (6 * m) + 5) L := by rw [show (5 : Int32) = nI 5 from rfl, nI_add]; exact vp_nI (by omega) (by omega)
    have pl : ∀ b : Int32, (m_gi S 5 (nI (6 * m) + 3).toNatClampNeg = 0 ∧ b = 0 ∨ ¬ m_gi S 5 (nI (6 * m) + 3).toNatClampNeg = 0 ∧ b = 1) → V_L_law_682 l G k n 5 6 89 119 (nI (6 * m)) 6 (m_gi S 5 (nI (6 * m) + 1).toNatClampNeg) (m_gi S 5 (nI (6 * m) + 2).toNatClampNeg) b S := by
      intro b hb
      refine b_L_law_682 hkn hs.k5 hs.k6 hs.k89 hs.k119 hs.k6 (p_pull V (fun S1 v k1 l1 hr => ?_))
      have k1' : ∀ j, m_gi S1 5 j = m_gi S 5 j := k1
      simp only [k1', l1.l5]
      have hh : ∀ b2 : Int32, b2 = b → m_kd S1 89 = 10 → m_kd S1 5 = 110 → m_kd S1 6 = 9 → m_kd S1 119 = 102 → V_L_law_712 l G k n 5 6 89 119 (nI (6 * m)) v 89 (m_gi S 5 (nI (6 * m) + 1).toNatClampNeg) (m_gi S 5 (nI (6 * m) + 2).toNatClampNeg) b2 S1 := by
        intro b2 e2 g1 g2 g3 g4
        rw [e2]
        exact b_L_law_712 hkn g2 g3 g1 g4 g1 (hr _ (fun S2 k2 V2 => ⟨fun _ v' e' => go V2 e', fun z => absurd rfl z⟩))
      have g := l1
      refine ⟨vp1, vp2, vp3, fun z => hh 0 ?_ g.k89 g.k5 g.k6 g.k119, fun z => hh 1 ?_ g.k89 g.k5 g.k6 g.k119⟩
      · rcases hb with q | q
        · exact q.2.symm
        · exact absurd z q.1
      · rcases hb with q | q
        · exact absurd q.1 z
        · exact q.2.symm
    have fa : ∀ b : Int32, (m_gi S 5 (nI (6 * m) + 2).toNatClampNeg = 0 ∧ b = 0 ∨ ¬ m_gi S 5 (nI (6 * m) + 2).toNatClampNeg = 0 ∧ b = 1) → V_L_law_1477 l G k n 5 6 89 119 (nI (6 * m)) 6 (m_gi S 5 (nI (6 * m) + 1).toNatClampNeg) b S := by
      intro b hb
      have hb01 : b = 0 ∨ b = 1 := by
        rcases hb with q | q
        · exact Or.inl q.2
        · exact Or.inr q.2
      refine b_L_law_1477 hkn hs.k5 hs.k6 hs.k89 hs.k119 hs.k6 (p_faded hb01 V (fun S1 v k1 l1 hr => ?_))
      have k1' : ∀ j, m_gi S1 5 j = m_gi S 5 j := k1
      simp only [k1', l1.l5]
      have hh : ∀ b2 : Int32, b2 = b → m_kd S1 89 = 10 → m_kd S1 5 = 110 → m_kd S1 6 = 9 → m_kd S1 119 = 102 → V_L_law_1501 l G k n 5 6 89 119 (nI (6 * m)) v 89 (m_gi S 5 (nI (6 * m) + 1).toNatClampNeg) b2 S1 := by
        intro b2 e2 g1 g2 g3 g4
        rw [e2]
        exact b_L_law_1501 hkn g2 g3 g1 g4 g1 (hr _ (fun S2 k2 V2 => ⟨fun _ v' e' => go V2 e', fun z => absurd rfl z⟩))
      have g := l1
      refine ⟨vp1, vp2, fun z => hh 0 ?_ g.k89 g.k5 g.k6 g.k119, fun z => hh 1 ?_ g.k89 g.k5 g.k6 g.k119⟩
      · rcases hb with q | q
        · exact q.2.symm
        · exact absurd z q.1
      · rcases hb with q | q
        · exact absurd q.1 z
        · exact q.2.symm
    refine b_L_law_23 hkn hs.k5 hs.k6 hs.k89 hs.k119 ?_
    rw [hs.l5]
    refine ⟨fun _ => rfl, fun _ => ⟨vp0, fun _ v1 e1 => go V e1, fun _ => ⟨vp1, vp2, vp3, vp4, vp5, p_feed V (fun S1 v k1 l1 hr => by
      have k1' : ∀ j, m_gi S1 5 j = m_gi S 5 j := k1
      simp only [k1', l1.l5]
      exact ⟨vp1, vp2, vp3, vp4, vp5, hr _ (fun S2 k2 V2 => ⟨fun _ v' e' => go V2 e', fun z => absurd rfl z⟩)⟩)⟩,
    fun _ => ⟨vp1, p_end V (fun S1 v k1 l1 hr => by
      have k1' : ∀ j, m_gi S1 5 j = m_gi S 5 j := k1
      simp only [k1', l1.l5]
      exact ⟨vp1, hr _ (fun S2 k2 V2 => ⟨fun _ v' e' => go V2 e', fun z => absurd rfl z⟩)⟩)⟩,
    fun _ => ⟨vp1, p_fault V (fun S1 v k1 l1 hr => by
      have k1' : ∀ j, m_gi S1 5 j = m_gi S 5 j := k1
      simp only [k1', l1.l5]
      exact ⟨vp1, hr _ (fun S2 k2 V2 => ⟨fun _ v' e' => go V2 e', fun z => absurd rfl z⟩)⟩)⟩,
    fun _ => ⟨vp1, p_text V (fun S1 v k1 l1 hr => by
      have k1' : ∀ j, m_gi S1 5 j = m_gi S 5 j := k1
      simp only [k1', l1.l5]
      exact ⟨vp1, hr _ (fun S2 k2 V2 => ⟨fun _ v' e' => go V2 e', fun z => absurd rfl z⟩)⟩)⟩,
    fun _ => ⟨vp1, p_rule V (fun S1 v k1 l1 hr => by
      have k1' : ∀ j, m_gi S1 5 j = m_gi S 5 j := k1
      simp only [k1', l1.l5]
      exact ⟨vp1, hr _ (fun S2 k2 V2 => ⟨fun _ v' e' => go V2 e', fun z => absurd rfl z⟩)⟩)⟩,
    fun _ => ⟨vp1, vp2, p_curtain V (fun S1 v k1 l1 hr => by
      have k1' : ∀ j, m_gi S1 5 j = m_gi S 5 j := k1
      simp only [k1', l1.l5]
      exact ⟨vp1, vp2, hr _ (fun S2 k2 V2 => ⟨fun _ v' e' => go V2 e', fun z => absurd rfl z⟩)⟩)⟩,
    fun _ => ⟨vp1, vp2, p_person hl V (fun S1 kk k1 l1 hr => by
      have k1' : ∀ j, m_gi S1 5 j = m_gi S 5 j := k1
      simp only [k1', l1.l5]
      refine ⟨vp1, vp2, hr _ (fun S2 v k2 V2 l2 e0 eg => e_X11_thrown (b_X11_thrown_0 (inv_sh V2).k89 ⟨fun _ => ⟨fun _ v' e' => go1 V2 e', fun z => ⟨by rw [l2]; exact vp_nI (p := 0) (by omega) (by omega), fun _ v' e' => go1 V2 e', fun y => absurd ?_ y⟩⟩, fun z => absurd e0 z⟩))⟩
      exact (lg_cmp_eq _ _).mpr (eg z))⟩,
    fun _ => ⟨vp1, p_law V (fun S1 v k1 l1 hr => by
      have k1' : ∀ j, m_gi S1 5 j = m_gi S 5 j := k1
      simp only [k1', l1.l5]
      exact ⟨vp1, hr _ (fun S2 k2 V2 => ⟨fun _ v' e' => go V2 e', fun z => absurd rfl z⟩)⟩)⟩,
    fun _ => ⟨vp1, p_state V (fun S1 v k1 l1 hr => by
      have k1' : ∀ j, m_gi S1 5 j = m_gi S 5 j := k1
      simp only [k1', l1.l5]
      exact ⟨vp1, hr _ (fun S2 k2 V2 => ⟨fun _ v' e' => go V2 e', fun z => absurd rfl z⟩)⟩)⟩,
    fun _ => ⟨vp1, p_lord V (fun S1 v k1 l1 hr => by
      have k1' : ∀ j, m_gi S1 5 j = m_gi S 5 j := k1
      simp only [k1', l1.l5]
      exact ⟨vp1, hr _ (fun S2 k2 V2 => ⟨fun _ v' e' => go V2 e', fun z => absurd rfl z⟩)⟩)⟩,
    fun _ => ⟨vp1, p_lit V (fun S1 v k1 l1 hr => by
      have k1' : ∀ j, m_gi S1 5 j = m_gi S 5 j := k1
      simp only [k1', l1.l5]
      exact ⟨vp1, hr _ (fun S2 k2 V2 => ⟨fun _ v' e' => go V2 e', fun z => absurd rfl z⟩)⟩)⟩,
    fun _ => ⟨vp1, vp2, p_touch V (fun S1 v k1 l1 hr => by
      have k1' : ∀ j, m_gi S1 5 j = m_gi S 5 j := k1
      simp only [k1', l1.l5]
      exact ⟨vp1, vp2, hr _ (fun S2 k2 V2 => ⟨fun _ v' e' => go V2 e', fun z => absurd rfl z⟩)⟩)⟩,
    fun _ => ⟨vp1, vp2, vp3, fun z3 => pl 0 (Or.inl ⟨z3, rfl⟩), fun z3 => pl 1 (Or.inr ⟨z3, rfl⟩)⟩,
    fun _ => ⟨vp1, vp2, p_go V (fun S1 v k1 l1 hr => by
      have k1' : ∀ j, m_gi S1 5 j = m_gi S 5 j := k1
      simp only [k1', l1.l5]
      exact ⟨vp1, vp2, hr _ (fun S2 k2 V2 => ⟨fun _ v' e' => go V2 e', fun z => absurd rfl z⟩)⟩)⟩,
    fun _ => ⟨vp1, vp2, p_creep V (fun S1 v k1 l1 hr => by
      have k1' : ∀ j, m_gi S1 5 j = m_gi S 5 j := k1
      simp only [k1', l1.l5]
      exact ⟨vp1, vp2, hr _ (fun S2 k2 V2 => ⟨fun _ v' e' => go V2 e', fun z => absurd rfl z⟩)⟩)⟩,
    fun _ => ⟨vp1, vp2, p_mend V (fun S1 v k1 l1 hr => by
      have k1' : ∀ j, m_gi S1 5 j = m_gi S 5 j := k1
      simp only [k1', l1.l5]
      exact ⟨vp1, vp2, hr _ (fun S2 k2 V2 => ⟨fun _ v' e' => go V2 e', fun z => absurd rfl z⟩)⟩)⟩,
    fun _ => ⟨vp1, p_years V (fun S1 v k1 l1 hr => by
      have k1' : ∀ j, m_gi S1 5 j = m_gi S 5 j := k1
      simp only [k1', l1.l5]
      exact ⟨vp1, hr _ (fun S2 k2 V2 => ⟨fun _ v' e' => go V2 e', fun z => absurd rfl z⟩)⟩)⟩,
    fun _ => ⟨vp1, p_heat V (fun S1 v k1 l1 hr => by
      have k1' : ∀ j, m_gi S1 5 j = m_gi S 5 j := k1
      simp only [k1', l1.l5]
      exact ⟨vp1, hr _ (fun S2 k2 V2 => ⟨fun _ v' e' => go V2 e', fun z => absurd rfl z⟩)⟩)⟩,
    fun _ => ⟨vp1, vp2, vp3, p_centuries V (fun S1 v k1 l1 hr => by
      have k1' : ∀ j, m_gi S1 5 j = m_gi S 5 j := k1
      simp only [k1', l1.l5]
      exact ⟨vp1, vp2, vp3, hr _ (fun S2 k2 V2 => ⟨fun _ v' e' => go V2 e', fun z => absurd rfl z⟩)⟩)⟩,
    fun _ => ⟨vp1, p_status V (fun S1 v k1 l1 hr => by
      have k1' : ∀ j, m_gi S1 5 j = m_gi S 5 j := k1
      simp only [k1', l1.l5]
      exact ⟨vp1, hr _ (fun S2 k2 V2 => ⟨fun _ v' e' => go V2 e', fun z => absurd rfl z⟩)⟩)⟩,
    fun _ => p_undo V (fun S1 v k1 l1 hr => hr _ (fun S2 k2 V2 => ⟨fun _ v' e' => go V2 e', fun z => absurd rfl z⟩)),
    fun _ => ⟨vp1, vp2, p_log V (fun S1 v k1 l1 hr => by
      have k1' : ∀ j, m_gi S1 5 j = m_gi S 5 j := k1
      simp only [k1', l1.l5]
      exact ⟨vp1, vp2, hr _ (fun S2 k2 V2 => ⟨fun _ v' e' => go V2 e', fun z => absurd rfl z⟩)⟩)⟩,
    fun _ => ⟨vp1, vp2, p_join V (fun S1 v k1 l1 hr => by
      have k1' : ∀ j, m_gi S1 5 j = m_gi S 5 j := k1
      simp only [k1', l1.l5]
      exact ⟨vp1, vp2, hr _ (fun S2 k2 V2 => ⟨fun _ v' e' => go V2 e', fun z => absurd rfl z⟩)⟩)⟩,
    fun _ => ⟨vp1, vp2, vp3, p_hide V (fun S1 v k1 l1 hr => by
      have k1' : ∀ j, m_gi S1 5 j = m_gi S 5 j := k1
      simp only [k1', l1.l5]
      exact ⟨vp1, vp2, vp3, hr _ (fun S2 k2 V2 => ⟨fun _ v' e' => go V2 e', fun z => absurd rfl z⟩)⟩)⟩,
    fun _ => ⟨vp1, vp2, p_seen V (fun S1 v k1 l1 hr => by
      have k1' : ∀ j, m_gi S1 5 j = m_gi S 5 j := k1
      simp only [k1', l1.l5]
      exact ⟨vp1, vp2, hr _ (fun S2 k2 V2 => ⟨fun _ v' e' => go V2 e', fun z => absurd rfl z⟩)⟩)⟩,
    fun _ => ⟨vp1, vp2, vp3, p_under V (fun S1 v k1 l1 hr => by
      have k1' : ∀ j, m_gi S1 5 j = m_gi S 5 j := k1
      simp only [k1', l1.l5]
      exact ⟨vp1, vp2, vp3, hr _ (fun S2 k2 V2 => ⟨fun _ v' e' => go V2 e', fun z => absurd rfl z⟩)⟩)⟩,
    fun _ => ⟨vp1, p_lead V (fun S1 v k1 l1 hr => by
      have k1' : ∀ j, m_gi S1 5 j = m_gi S 5 j := k1
      simp only [k1', l1.l5]
      exact ⟨vp1, hr _ (fun S2 k2 V2 => ⟨fun _ v' e' => go V2 e', fun z => absurd rfl z⟩)⟩)⟩,
    fun _ => ⟨vp1, p_first V (fun S1 v k1 l1 hr => by
      have k1' : ∀ j, m_gi S1 5 j = m_gi S 5 j := k1
      simp only [k1', l1.l5]
      exact ⟨vp1, hr _ (fun S2 k2 V2 => ⟨fun _ v' e' => go V2 e', fun z => absurd rfl z⟩)⟩)⟩,
    fun _ => ⟨vp1, p_cloth V (fun S1 v k1 l1 hr => by
      have k1' : ∀ j, m_gi S1 5 j = m_gi S 5 j := k1
      simp only [k1', l1.l5]
      exact ⟨vp1, hr _ (fun S2 k2 V2 => ⟨fun _ v' e' => go V2 e', fun z => absurd rfl z⟩)⟩)⟩,
    fun _ => ⟨vp1, vp2, vp3, vp4, vp5, p_game V (fun S1 v k1 l1 hr => by
      have k1' : ∀ j, m_gi S1 5 j = m_gi S 5 j := k1
      simp only [k1', l1.l5]
      exact ⟨vp1, vp2, vp3, vp4, vp5, hr _ (fun S2 k2 V2 => ⟨fun _ v' e' => go V2 e', fun z => absurd rfl z⟩)⟩)⟩,
    fun _ => ⟨vp1, vp2, vp3, p_rests V (fun S1 v k1 l1 hr => by
      have k1' : ∀ j, m_gi S1 5 j = m_gi S 5 j := k1
      simp only [k1', l1.l5]
      exact ⟨vp1, vp2, vp3, hr _ (fun S2 k2 V2 => ⟨fun _ v' e' => go V2 e', fun z => absurd rfl z⟩)⟩)⟩,
    fun _ => ⟨vp1, vp2, p_treaty V (fun S1 v k1 l1 hr => by
      have k1' : ∀ j, m_gi S1 5 j = m_gi S 5 j := k1
      simp only [k1', l1.l5]
      exact ⟨vp1, vp2, hr _ (fun S2 k2 V2 => ⟨fun _ v' e' => go V2 e', fun z => absurd rfl z⟩)⟩)⟩,
    fun _ => ⟨vp1, p_air V (fun S1 v k1 l1 hr => by
      have k1' : ∀ j, m_gi S1 5 j = m_gi S 5 j := k1
      simp only [k1', l1.l5]
      exact ⟨vp1, hr _ (fun S2 k2 V2 => ⟨fun _ v' e' => go V2 e', fun z => absurd rfl z⟩)⟩)⟩,
    fun _ => ⟨vp1, vp2, fun z3 => fa 0 (Or.inl ⟨z3, rfl⟩), fun z3 => fa 1 (Or.inr ⟨z3, rfl⟩)⟩,
    fun _ => ⟨vp1, vp2, p_leant V (fun S1 v k1 l1 hr => by
      have k1' : ∀ j, m_gi S1 5 j = m_gi S 5 j := k1
      simp only [k1', l1.l5]
      exact ⟨vp1, vp2, hr _ (fun S2 k2 V2 => ⟨fun _ v' e' => go V2 e', fun z => absurd rfl z⟩)⟩)⟩,
    fun _ => ⟨vp1, p_sure V (fun S1 v k1 l1 hr => by
      have k1' : ∀ j, m_gi S1 5 j = m_gi S 5 j := k1
      simp only [k1', l1.l5]
      exact ⟨vp1, hr _ (fun S2 k2 V2 => ⟨fun _ v' e' => go V2 e', fun z => absurd rfl z⟩)⟩)⟩,
    fun _ => ⟨vp1, p_best V (fun S1 v k1 l1 hr => by
      have k1' : ∀ j, m_gi S1 5 j = m_gi S 5 j := k1
      simp only [k1', l1.l5]
      exact ⟨vp1, hr _ (fun S2 k2 V2 => ⟨fun _ v' e' => go V2 e', fun z => absurd rfl z⟩)⟩)⟩,
    fun _ => p_cross V (fun S1 v k1 l1 hr => hr _ (fun S2 k2 V2 => ⟨fun _ v' e' => go V2 e', fun z => absurd rfl z⟩)),
    fun _ => p_realm V (fun S1 v k1 l1 hr => hr _ (fun S2 k2 V2 => ⟨fun _ v' e' => go V2 e', fun z => absurd rfl z⟩)),
    fun _ => p_gathered V (fun S1 v k1 l1 hr => hr _ (fun S2 k2 V2 => ⟨fun _ v' e' => go V2 e', fun z => absurd rfl z⟩)),
    fun _ => p_dark V (fun S1 v k1 l1 hr => hr _ (fun S2 k2 V2 => ⟨fun _ v' e' => go V2 e', fun z => absurd rfl z⟩)),
    fun _ => ⟨vp1, p_borders V (fun S1 v k1 l1 hr => by
      have k1' : ∀ j, m_gi S1 5 j = m_gi S 5 j := k1
      simp only [k1', l1.l5]
      exact ⟨vp1, hr _ (fun S2 k2 V2 => ⟨fun _ v' e' => go V2 e', fun z => absurd rfl z⟩)⟩)⟩,
    fun _ => p_guests V (fun S1 v k1 l1 hr => hr _ (fun S2 k2 V2 => ⟨fun _ v' e' => go V2 e', fun z => absurd rfl z⟩)),
    fun _ => p_image V (fun S1 v k1 l1 hr => hr _ (fun S2 k2 V2 => ⟨fun _ v' e' => go V2 e', fun z => absurd rfl z⟩)),
    fun _ => p_back V (fun S1 v k1 l1 hr => hr _ (fun S2 k2 V2 => ⟨fun _ v' e' => go V2 e', fun z => absurd rfl z⟩)),
    fun _ => ⟨vp1, p_count V (fun S1 v k1 l1 hr => by
      have k1' : ∀ j, m_gi S1 5 j = m_gi S 5 j := k1
      simp only [k1', l1.l5]
      exact ⟨vp1, hr _ (fun S2 k2 V2 => ⟨fun _ v' e' => go V2 e', fun z => absurd rfl z⟩)⟩)⟩⟩⟩
end LL_
