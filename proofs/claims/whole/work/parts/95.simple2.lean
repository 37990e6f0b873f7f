/-! the simple calls: faded and count -/
section SM2
variable {l : Launch} {G : mj_G} {L r rs : Nat} {R : rm} {s : sc} {S : mj_S} {F : fd}
theorem d_faded {x1 x2 : Int32} {Q : mj_S → Int32 → Prop} (C : RI L S R s) (K : RFD S F) (hF : F.1 ≤ 10) (hx : x2 = 0 ∨ x2 = 1) (h1 : ∀ c, ixn (r_nc R) x1 = some c → F.1 < 10 → ∀ S', (∀ a j, ¬ (a = 89 ∧ j = 44) → a ≠ 116 → a ≠ 117 → m_gi S' a j = m_gi S a j) → S'.1 = S.1 → (∀ a j, m_gl S' a j = m_gl S a j) → (∀ a j, m_gp S' a j = m_gp S a j) → RFD S' (f_add F c (decide (x2 ≠ 0))) → Q S' (nI (F.1 + 1))) (h0 : ixn (r_nc R) x1 = none ∨ F.1 = 10 → Q S (-1)) : M_X11_faded l G 89 x1 x2 S Q := by
  have nc := C.rw.nc
  refine e_X11_faded (b_X11_faded_0 C.sh.k89 (s_risCurtain C (fun c e => ?_) (fun e => ?_)))
  · obtain ⟨hc, ec⟩ := ixn_some (by omega) e
    refine ⟨fun z => absurd z (by decide), fun _ => ?_⟩
    rw [K.1, show (10 : Int32) = nI 10 from rfl, nI_eqI (by omega) (by omega)]
    refine ⟨fun z => ⟨116, C.sh.p89_42, ?_⟩, fun z => h0 (Or.inr z)⟩
    rw [C.sh.l116, nI_clamp (by omega)]
    refine ⟨vp_nI (by omega) (by omega), fun S4 e4 => ?_⟩
    have hs4 : Sh L S4 := by rw [e4]; exact C.sh
    have k4 : m_gi S4 89 44 = nI F.1 := by rw [e4, m_gi_si, if_neg (by omega)]; exact K.1
    refine ⟨117, hs4.p89_43, ?_⟩
    rw [k4, hs4.l117, nI_clamp (by omega)]
    refine ⟨vp_nI (by omega) (by omega), fun S6 e6 S7 e7 => ?_⟩
    have k7 : m_gi S7 89 44 = nI (F.1 + 1) := by rw [e7, m_gi_si, if_pos ⟨rfl, rfl⟩, e6, m_gi_si, if_neg (by omega), k4, nI_1]
    rw [k7]
    have en : vp_nar .boolean x2 = if decide (x2 ≠ 0) = true then 1 else 0 := by
      rcases hx with hx | hx <;> subst hx <;> decide
    refine h1 c e (by omega) S7 (fun a j ha hb hd => by rw [e7, m_gi_si, if_neg (by omega), e6, m_gi_si, if_neg (by omega), e4, m_gi_si, if_neg (by omega)]) (by rw [e7, e6, e4]; rfl) (fun a j => by rw [e7, e6, e4]; rfl) (fun a j => by rw [e7, e6, e4]; rfl) ⟨k7, fun j hj => ?_⟩
    have hj' : j < F.1 + 1 := hj
    show _ = nI (if j = F.1 then c else F.2.1 j) ∧ _ = (if (if j = F.1 then decide (x2 ≠ 0) else F.2.2 j) = true then 1 else 0)
    by_cases q : j = F.1
    · rw [if_pos q, if_pos q, q]
      refine ⟨?_, ?_⟩
      · rw [e7, m_gi_si, if_neg (by omega), e6, m_gi_si, if_neg (by omega), e4, m_gi_si, if_pos ⟨rfl, rfl⟩, ec]
      · rw [e7, m_gi_si, if_neg (by omega), e6, m_gi_si, if_pos ⟨rfl, rfl⟩, en]
    · rw [if_neg q, if_neg q]
      have := K.2 j (by omega)
      refine ⟨?_, ?_⟩
      · rw [e7, m_gi_si, if_neg (by omega), e6, m_gi_si, if_neg (by omega), e4, m_gi_si, if_neg (by omega)]; exact this.1
      · rw [e7, m_gi_si, if_neg (by omega), e6, m_gi_si, if_neg (by omega), e4, m_gi_si, if_neg (by omega)]; exact this.2
  · exact ⟨fun _ => h0 (Or.inl e), fun z => absurd rfl z⟩
theorem c_count {x : Int32} {nk tl hv na : Nat} {ho : Int32} {Q : mj_S → Int32 → Prop} (C : CI L S r 50 rs R s) (K : CF S F) (hy : s_yr s ≤ 999) (e3 : m_gi S 23 0 = nI nk) (e4 : m_gi S 6 1 = nI tl) (e5 : m_gi S 23 1 = ho) (e11 : m_gi S 6 14 = nI hv) (e14 : m_gi S 74 0 = nI na) (h : ∀ S', fr DC S S' → Q S' (A_count R s nk tl hv F.1 na ho x)) : M_X10_count l G 6 x S Q := by
  unfold A_count at h
  have h0 := h S fr.rf
  refine e_X10_count (b_X10_count_0 C.sh.k6 ⟨fun z => ?_, fun z => ⟨r, C.p, ?_⟩, fun z => ⟨r, C.p, ?_⟩, fun z => ⟨r, C.p, ?_⟩, fun z => ⟨23, C.sh.p6_4, ?_⟩, fun z => ?_, fun z => ⟨23, C.sh.p6_4, ?_⟩, fun z => ⟨50, C.sh.p6_7, ?_⟩, fun z => ⟨50, C.sh.p6_7, s_statesOf C (fun S' f => ?_)⟩, fun z => ⟨50, C.sh.p6_7, s_hung C ?_⟩, fun z => ⟨50, C.sh.p6_7, s_fallen C ?_⟩, fun z => ⟨50, C.sh.p6_7, s_fabricOfAll C ?_⟩, fun z => ?_, fun z => ?_, fun z => s_logged C hy ?_, fun z => ⟨74, C.sh.p6_9, ?_⟩⟩)
  · rw [ixn_o (n := 15) (by omega)] at h0; exact h0
  · rw [ixn_i (k := 0) (by omega) z] at h0; rw [C.rc.n]; exact h0
  · rw [ixn_i (k := 1) (by omega) z] at h0; rw [C.rc.nc]; exact h0
  · rw [ixn_i (k := 2) (by omega) z] at h0; rw [C.rc.np]; exact h0
  · rw [ixn_i (k := 3) (by omega) z] at h0; rw [e3]; exact h0
  · rw [ixn_i (k := 4) (by omega) z] at h0; rw [e4]; exact h0
  · rw [ixn_i (k := 5) (by omega) z] at h0; rw [e5]; exact h0
  · rw [ixn_i (k := 6) (by omega) z] at h0; rw [C.sn.yr]; exact h0
  · have h1 := h S' f
    rw [ixn_i (k := 7) (by omega) z] at h1; exact h1
  · rw [ixn_i (k := 8) (by omega) z] at h0; exact h0
  · rw [ixn_i (k := 9) (by omega) z] at h0; exact h0
  · rw [ixn_i (k := 10) (by omega) z] at h0; exact h0
  · rw [ixn_i (k := 11) (by omega) z] at h0; rw [e11]; exact h0
  · rw [ixn_i (k := 12) (by omega) z] at h0; rw [K.1]; exact h0
  · rw [ixn_i (k := 13) (by omega) z] at h0; exact h0
  · rw [ixn_i (k := 14) (by omega) z] at h0; rw [e14]; exact h0
theorem d_count {x : Int32} {nk tl hv na : Nat} {ho : Int32} {Q : mj_S → Int32 → Prop} (C : RI L S R s) (K : RFD S F) (e18 : m_gi S 106 18 = nI (min (s_yr s) 60)) (e3 : m_gi S 89 13 = nI nk) (e4 : m_gi S 89 2 = nI tl) (e5 : m_gi S 89 30 = ho) (e11 : m_gi S 89 31 = nI hv) (e14 : m_gi S 89 37 = nI na) (h : Q S (A_count R s nk tl hv F.1 na ho x)) : M_X11_count l G 89 x S Q := by
  unfold A_count at h
  have c17 : (17 : Int32).toNatClampNeg = 17 := by decide
  have c18 : (18 : Int32).toNatClampNeg = 18 := by decide
  refine e_X11_count (b_X11_count_0 C.sh.k89 ⟨fun z => ?_, fun z => ?_, fun z => ?_, fun z => ?_, fun z => ?_, fun z => ?_, fun z => ?_, fun z => ⟨106, C.sh.p89_28, by rw [C.sh.l106]; exact vp_nI (p := 17) (by omega) (by omega), ?_⟩, fun z => s_states C ?_, fun z => s_hanging C ?_, fun z => s_rfallen C ?_, fun z => s_clothOfAll C ?_, fun z => ?_, fun z => ?_, fun z => ⟨106, C.sh.p89_28, by rw [C.sh.l106]; exact vp_nI (p := 18) (by omega) (by omega), ?_⟩, fun z => ?_⟩)
  · rw [ixn_o (n := 15) (by omega)] at h; exact h
  · rw [ixn_i (k := 0) (by omega) z] at h; rw [C.rr.n]; exact h
  · rw [ixn_i (k := 1) (by omega) z] at h; rw [C.rr.nc]; exact h
  · rw [ixn_i (k := 2) (by omega) z] at h; rw [C.rr.np]; exact h
  · rw [ixn_i (k := 3) (by omega) z] at h; rw [e3]; exact h
  · rw [ixn_i (k := 4) (by omega) z] at h; rw [e4]; exact h
  · rw [ixn_i (k := 5) (by omega) z] at h; rw [e5]; exact h
  · rw [ixn_i (k := 6) (by omega) z] at h; rw [c17, C.rs.yr]; exact h
  · rw [ixn_i (k := 7) (by omega) z] at h; exact h
  · rw [ixn_i (k := 8) (by omega) z] at h; exact h
  · rw [ixn_i (k := 9) (by omega) z] at h; exact h
  · rw [ixn_i (k := 10) (by omega) z] at h; exact h
  · rw [ixn_i (k := 11) (by omega) z] at h; rw [e11]; exact h
  · rw [ixn_i (k := 12) (by omega) z] at h; rw [K.1]; exact h
  · rw [ixn_i (k := 13) (by omega) z] at h; rw [c18, e18]; exact h
  · rw [ixn_i (k := 14) (by omega) z] at h; rw [e14]; exact h
end SM2
