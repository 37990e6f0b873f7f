abbrev V_X11_layBright_0 (l : Launch) (G : mj_G) (a0 : Nat) (x1 : Int32) (x2 : Int32) (x3 : Int32) (S : mj_S) (Q : mj_S → Prop) : Prop := mj_V l G (mj_room 7 0 0) RX11 cX11_layBright 10 none false 0 [some (.ref a0), some (.int x1), some (.int x2), some (.int x3), none, none, none, none, none, none] [] S 0 0 (mj_std G none (mj_room 7 0 0) (mj_qv Q))
abbrev V_X11_layBright_3 (l : Launch) (G : mj_G) (a0 : Nat) (x1 : Int32) (x2 : Int32) (x3 : Int32) (x4 : Int32) (S : mj_S) (Q : mj_S → Prop) : Prop := mj_V l G (mj_room 7 0 0) RX11 cX11_layBright 10 none false 3 [some (.ref a0), some (.int x1), some (.int x2), some (.int x3), some (.int x4), none, none, none, none, none] [] S 0 0 (mj_std G none (mj_room 7 0 0) (mj_qv Q))
abbrev V_X11_layBright_47 (l : Launch) (G : mj_G) (a0 : Nat) (x1 : Int32) (x2 : Int32) (x4 : Int32) (S : mj_S) (Q : mj_S → Prop) : Prop := mj_V l G (mj_room 7 0 0) RX11 cX11_layBright 10 none false 47 [some (.ref a0), some (.int x1), some (.int x2), none, some (.int x4), none, none, none, none, none] [] S 0 0 (mj_std G none (mj_room 7 0 0) (mj_qv Q))
abbrev V_X11_layBright_81 (l : Launch) (G : mj_G) (a0 : Nat) (x4 : Int32) (S : mj_S) (Q : mj_S → Prop) : Prop := mj_V l G (mj_room 7 0 0) RX11 cX11_layBright 10 none false 81 [some (.ref a0), none, none, none, some (.int x4), none, none, none, none, none] [] S 0 0 (mj_std G none (mj_room 7 0 0) (mj_qv Q))
abbrev V_X11_layBright_92 (l : Launch) (G : mj_G) (a0 : Nat) (x4 : Int32) (x5 : Int32) (S : mj_S) (Q : mj_S → Prop) : Prop := mj_V l G (mj_room 7 0 0) RX11 cX11_layBright 10 none false 92 [some (.ref a0), none, none, none, some (.int x4), some (.int x5), none, none, none, none] [] S 0 0 (mj_std G none (mj_room 7 0 0) (mj_qv Q))
abbrev V_X11_layBright_104 (l : Launch) (G : mj_G) (a0 : Nat) (x4 : Int32) (x5 : Int32) (x6 : Int32) (S : mj_S) (Q : mj_S → Prop) : Prop := mj_V l G (mj_room 7 0 0) RX11 cX11_layBright 10 none false 104 [some (.ref a0), none, none, none, some (.int x4), some (.int x5), some (.int x6), none, none, none] [] S 0 0 (mj_std G none (mj_room 7 0 0) (mj_qv Q))
abbrev V_X11_layBright_164 (l : Launch) (G : mj_G) (a0 : Nat) (x4 : Int32) (x5 : Int32) (x6 : Int32) (x7 : Int32) (s0 : Int32) (s1 : Int32) (S : mj_S) (Q : mj_S → Prop) : Prop := mj_V l G (mj_room 7 0 0) RX11 cX11_layBright 10 none false 164 [some (.ref a0), none, none, none, some (.int x4), some (.int x5), some (.int x6), some (.int x7), none, none] [.int s1, .int s0] S 0 0 (mj_std G none (mj_room 7 0 0) (mj_qv Q))
theorem e_X11_layBright {l : Launch} {G : mj_G} {a0 : Nat} {x1 : Int32} {x2 : Int32} {x3 : Int32} {S : mj_S} {Q : mj_S → Prop} (h : V_X11_layBright_0 l G a0 x1 x2 x3 S Q) : M_X11_layBright l G a0 x1 x2 x3 S Q := mj_enter (r := 6) (ini := false) (by decide +kernel) (fun h => by cases h) (fun _ => Nat.le_of_ble_eq_true rfl) rfl h
set_option maxRecDepth 20000 in
set_option maxHeartbeats 1000000 in
theorem b_X11_layBright_0 {l : Launch} {G : mj_G} {a0 : Nat} {x1 : Int32} {x2 : Int32} {x3 : Int32} {S : mj_S} {Q : mj_S → Prop} (hk_a0 : m_kd S a0 = 10) (h : V_X11_layBright_3 l G a0 x1 x2 x3 (0 : Int32) S Q) : V_X11_layBright_0 l G a0 x1 x2 x3 S Q := by
  refine mj_iconst (v := 0) dX11_layBright_0 (by decide) ?_
  refine mj_istore dX11_layBright_1 (by decide) rfl rfl ?_
  exact h
set_option maxRecDepth 20000 in
set_option maxHeartbeats 1000000 in
theorem b_X11_layBright_3 {l : Launch} {G : mj_G} {a0 : Nat} {x1 : Int32} {x2 : Int32} {x3 : Int32} {x4 : Int32} {S : mj_S} {Q : mj_S → Prop} (hk_a0 : m_kd S a0 = 10) (h : (((m_gi S a0 26) ≤ x4) → V_X11_layBright_47 l G a0 x1 x2 (0 : Int32) S Q) ∧ ((¬ ((m_gi S a0 26) ≤ x4)) → ∃ b1, m_gp S a0 35 = some b1 ∧ (M_X11_has l G x3 x4 S (fun S2 r3 => ((r3 = 0) → vp_in x4 (m_ln S2 b1) ∧ (∀ S4 : mj_S, S4 = m_si S2 b1 (x4).toNatClampNeg (0 : Int32) → ∀ v5 : Int32, v5 = x4 + (1 : Int32) → V_X11_layBright_3 l G a0 x1 x2 x3 v5 S4 Q)) ∧ ((¬ (r3 = 0)) → M_X11_takes l G a0 x4 S2 (fun S6 r7 => vp_in x4 (m_ln S6 b1) ∧ (∀ S8 : mj_S, S8 = m_si S6 b1 (x4).toNatClampNeg r7 → ∀ v9 : Int32, v9 = x4 + (1 : Int32) → V_X11_layBright_3 l G a0 x1 x2 x3 v9 S8 Q))))))) : V_X11_layBright_3 l G a0 x1 x2 x3 x4 S Q := by
  refine mj_iload dX11_layBright_3 rfl ?_
  refine mj_aload_n dX11_layBright_5 rfl rfl ?_
  refine mj_getI dX11_layBright_6 fl_X11_261_10 hk_a0 rfl ?_
  refine mj_icmp_ge (tgt := 44) dX11_layBright_9 (by decide) ⟨fun hc => ?_, fun hc => ?_⟩
  · replace h := h.1 hc
    refine mj_iconst (v := 0) dX11_layBright_44 (by decide) ?_
    refine mj_istore dX11_layBright_45 (by decide) rfl rfl ?_
    exact mj_lessm [true, true, true, false, true, false, false, false, false, false] rfl h
  · replace h := h.2 hc
    refine mj_aload_n dX11_layBright_12 rfl rfl ?_
    obtain ⟨b1, eb1, h⟩ := h
    refine mj_getP dX11_layBright_13 fl_X11_77_10 hk_a0 rfl ⟨b1, eb1, fun hk_b1 => ?_⟩
    refine mj_iload dX11_layBright_16 rfl ?_
    refine mj_iload_n dX11_layBright_18 rfl rfl ?_
    refine mj_iload dX11_layBright_19 rfl ?_
    refine mj_callSi (as := [.int x3, .int x4]) (st := [.int x4, .ref b1]) dX11_layBright_21 cal_X11_has lk_X11_228 sm_X11_has h rfl (Nat.le_of_ble_eq_true rfl) (by decide) ⟨Nat.le_of_ble_eq_true rfl, Nat.le_of_ble_eq_true rfl⟩ (fun S2 r3 h hn_r3 hp => ?_)
    have hk_a0 : m_kd S2 a0 = 10 := m_kd_pre hp hk_a0 (by decide)
    have hk_b1 : m_kd S2 b1 = 100 := m_kd_pre hp hk_b1 (by decide)
    refine mj_if_eq (tgt := 36) dX11_layBright_24 (by decide) ⟨fun hc => ?_, fun hc => ?_⟩
    · replace h := h.1 hc
      refine mj_iconst (v := 0) dX11_layBright_36 (by decide) ?_
      refine mj_iast dX11_layBright_37 hk_b1 ⟨h.1, ?_⟩
      replace h := h.2
      obtain ⟨S4, eS4⟩ : ∃ z, z = m_si S2 b1 (x4).toNatClampNeg (0 : Int32) := ⟨_, rfl⟩
      rw [← eS4]
      replace h := h S4 eS4
      have hk_a0 : m_kd S4 a0 = 10 := by rw [eS4]; exact hk_a0
      have hk_b1 : m_kd S4 b1 = 100 := by rw [eS4]; exact hk_b1
      obtain ⟨v5, ev5⟩ : ∃ z : Int32, z = x4 + (1 : Int32) := ⟨_, rfl⟩
      refine mj_iinc (v := v5) dX11_layBright_38 rfl (by rw [ev5]; rfl) (by decide) rfl rfl ?_
      replace h := h v5 ev5
      refine mj_goto (tgt := 3) dX11_layBright_41 (by decide) ?_
      exact h
    · replace h := h.2 hc
      refine mj_aload_n dX11_layBright_27 rfl rfl ?_
      refine mj_iload dX11_layBright_28 rfl ?_
      refine mj_callVi (as := [.int x4]) (st := [.int x4, .ref b1]) dX11_layBright_30 cal_X11_takes lk_X11_334 im_X11_takes se_X11_takes (ci := 10) rfl (by decide) hk_a0 h rfl (Nat.le_of_ble_eq_true rfl) (by decide) ⟨Nat.le_of_ble_eq_true rfl, Nat.le_of_ble_eq_true rfl⟩ (fun S6 r7 h hn_r7 hp => ?_)
      have hk_a0 : m_kd S6 a0 = 10 := m_kd_pre hp hk_a0 (by decide)
      have hk_b1 : m_kd S6 b1 = 100 := m_kd_pre hp hk_b1 (by decide)
      refine mj_goto (tgt := 37) dX11_layBright_33 (by decide) ?_
      refine mj_iast dX11_layBright_37 hk_b1 ⟨h.1, ?_⟩
      replace h := h.2
      obtain ⟨S8, eS8⟩ : ∃ z, z = m_si S6 b1 (x4).toNatClampNeg r7 := ⟨_, rfl⟩
      rw [← eS8]
      replace h := h S8 eS8
      have hk_a0 : m_kd S8 a0 = 10 := by rw [eS8]; exact hk_a0
      have hk_b1 : m_kd S8 b1 = 100 := by rw [eS8]; exact hk_b1
      obtain ⟨v9, ev9⟩ : ∃ z : Int32, z = x4 + (1 : Int32) := ⟨_, rfl⟩
      refine mj_iinc (v := v9) dX11_layBright_38 rfl (by rw [ev9]; rfl) (by decide) rfl rfl ?_
      replace h := h v9 ev9
      refine mj_goto (tgt := 3) dX11_layBright_41 (by decide) ?_
      exact h
set_option maxRecDepth 20000 in
set_option maxHeartbeats 1000000 in
theorem b_X11_layBright_47 {l : Launch} {G : mj_G} {a0 : Nat} {x1 : Int32} {x2 : Int32} {x4 : Int32} {S : mj_S} {Q : mj_S → Prop} (hk_a0 : m_kd S a0 = 10) (h : (((20 : Int32) ≤ x4) → V_X11_layBright_81 l G a0 (1 : Int32) S Q) ∧ ((¬ ((20 : Int32) ≤ x4)) → ∃ b1, m_gp S a0 34 = some b1 ∧ (((¬ x4 = x1) → vp_in x4 (m_ln S b1) ∧ (∀ S2 : mj_S, S2 = m_si S b1 (x4).toNatClampNeg (0 : Int32) → ∀ v3 : Int32, v3 = x4 + (1 : Int32) → V_X11_layBright_47 l G a0 x1 x2 v3 S2 Q)) ∧ ((x4 = x1) → vp_in x4 (m_ln S b1) ∧ (∀ S4 : mj_S, S4 = m_si S b1 (x4).toNatClampNeg x2 → ∀ v5 : Int32, v5 = x4 + (1 : Int32) → V_X11_layBright_47 l G a0 x1 x2 v5 S4 Q))))) : V_X11_layBright_47 l G a0 x1 x2 x4 S Q := by
  refine mj_iload dX11_layBright_47 rfl ?_
  refine mj_bipush (v := 20) dX11_layBright_49 (by decide) ?_
  refine mj_icmp_ge (tgt := 78) dX11_layBright_51 (by decide) ⟨fun hc => ?_, fun hc => ?_⟩
  · replace h := h.1 hc
    refine mj_iconst (v := 1) dX11_layBright_78 (by decide) ?_
    refine mj_istore dX11_layBright_79 (by decide) rfl rfl ?_
    exact mj_lessm [true, false, false, false, true, false, false, false, false, false] rfl h
  · replace h := h.2 hc
    refine mj_aload_n dX11_layBright_54 rfl rfl ?_
    obtain ⟨b1, eb1, h⟩ := h
    refine mj_getP dX11_layBright_55 fl_X11_74_10 hk_a0 rfl ⟨b1, eb1, fun hk_b1 => ?_⟩
    refine mj_iload dX11_layBright_58 rfl ?_
    refine mj_iload dX11_layBright_60 rfl ?_
    refine mj_iload_n dX11_layBright_62 rfl rfl ?_
    refine mj_icmp_ne (tgt := 70) dX11_layBright_63 (by decide) ⟨fun hc => ?_, fun hc => ?_⟩
    · replace h := h.1 hc
      refine mj_iconst (v := 0) dX11_layBright_70 (by decide) ?_
      refine mj_iast dX11_layBright_71 hk_b1 ⟨h.1, ?_⟩
      replace h := h.2
      obtain ⟨S2, eS2⟩ : ∃ z, z = m_si S b1 (x4).toNatClampNeg (0 : Int32) := ⟨_, rfl⟩
      rw [← eS2]
      replace h := h S2 eS2
      have hk_a0 : m_kd S2 a0 = 10 := by rw [eS2]; exact hk_a0
      have hk_b1 : m_kd S2 b1 = 100 := by rw [eS2]; exact hk_b1
      obtain ⟨v3, ev3⟩ : ∃ z : Int32, z = x4 + (1 : Int32) := ⟨_, rfl⟩
      refine mj_iinc (v := v3) dX11_layBright_72 rfl (by rw [ev3]; rfl) (by decide) rfl rfl ?_
      replace h := h v3 ev3
      refine mj_goto (tgt := 47) dX11_layBright_75 (by decide) ?_
      exact h
    · replace h := h.2 hc
      refine mj_iload_n dX11_layBright_66 rfl rfl ?_
      refine mj_goto (tgt := 71) dX11_layBright_67 (by decide) ?_
      refine mj_iast dX11_layBright_71 hk_b1 ⟨h.1, ?_⟩
      replace h := h.2
      obtain ⟨S4, eS4⟩ : ∃ z, z = m_si S b1 (x4).toNatClampNeg x2 := ⟨_, rfl⟩
      rw [← eS4]
      replace h := h S4 eS4
      have hk_a0 : m_kd S4 a0 = 10 := by rw [eS4]; exact hk_a0
      have hk_b1 : m_kd S4 b1 = 100 := by rw [eS4]; exact hk_b1
      obtain ⟨v5, ev5⟩ : ∃ z : Int32, z = x4 + (1 : Int32) := ⟨_, rfl⟩
      refine mj_iinc (v := v5) dX11_layBright_72 rfl (by rw [ev5]; rfl) (by decide) rfl rfl ?_
      replace h := h v5 ev5
      refine mj_goto (tgt := 47) dX11_layBright_75 (by decide) ?_
      exact h
set_option maxRecDepth 20000 in
set_option maxHeartbeats 1000000 in
theorem b_X11_layBright_81 {l : Launch} {G : mj_G} {a0 : Nat} {x4 : Int32} {S : mj_S} {Q : mj_S → Prop} (hk_a0 : m_kd S a0 = 10) (h : ((x4 = 0) → Q S) ∧ ((¬ (x4 = 0)) → V_X11_layBright_92 l G a0 (0 : Int32) (0 : Int32) S Q)) : V_X11_layBright_81 l G a0 x4 S Q := by
  refine mj_iload dX11_layBright_81 rfl ?_
  refine mj_if_eq (tgt := 212) dX11_layBright_83 (by decide) ⟨fun hc => ?_, fun hc => ?_⟩
  · replace h := h.1 hc
    exact mj_retv dX11_layBright_212 rfl ⟨Nat.le_of_ble_eq_true rfl, Nat.le_of_ble_eq_true rfl⟩ h
  · replace h := h.2 hc
    refine mj_iconst (v := 0) dX11_layBright_86 (by decide) ?_
    refine mj_istore dX11_layBright_87 (by decide) rfl rfl ?_
    refine mj_iconst (v := 0) dX11_layBright_89 (by decide) ?_
    refine mj_istore dX11_layBright_90 (by decide) rfl rfl ?_
    exact h
set_option maxRecDepth 20000 in
set_option maxHeartbeats 1000000 in
theorem b_X11_layBright_92 {l : Launch} {G : mj_G} {a0 : Nat} {x4 : Int32} {x5 : Int32} {S : mj_S} {Q : mj_S → Prop} (hk_a0 : m_kd S a0 = 10) (h : (((m_gi S a0 25) ≤ x5) → V_X11_layBright_81 l G a0 x4 S Q) ∧ ((¬ ((m_gi S a0 25) ≤ x5)) → V_X11_layBright_104 l G a0 x4 x5 (0 : Int32) S Q)) : V_X11_layBright_92 l G a0 x4 x5 S Q := by
  refine mj_iload dX11_layBright_92 rfl ?_
  refine mj_aload_n dX11_layBright_94 rfl rfl ?_
  refine mj_getI dX11_layBright_95 fl_X11_267_10 hk_a0 rfl ?_
  refine mj_icmp_ge (tgt := 209) dX11_layBright_98 (by decide) ⟨fun hc => ?_, fun hc => ?_⟩
  · replace h := h.1 hc
    refine mj_goto (tgt := 81) dX11_layBright_209 (by decide) ?_
    exact mj_lessm [true, false, false, false, true, false, false, false, false, false] rfl h
  · replace h := h.2 hc
    refine mj_iconst (v := 0) dX11_layBright_101 (by decide) ?_
    refine mj_istore dX11_layBright_102 (by decide) rfl rfl ?_
    exact h
set_option maxRecDepth 20000 in
set_option maxHeartbeats 1000000 in
theorem b_X11_layBright_104 {l : Launch} {G : mj_G} {a0 : Nat} {x4 : Int32} {x5 : Int32} {x6 : Int32} {S : mj_S} {Q : mj_S → Prop} (hk_a0 : m_kd S a0 = 10) (h : (((4 : Int32) ≤ x6) → ∀ v1 : Int32, v1 = x5 + (1 : Int32) → V_X11_layBright_92 l G a0 x4 v1 S Q) ∧ ((¬ ((4 : Int32) ≤ x6)) → ∃ b2, m_gp S a0 32 = some b2 ∧ (vp_in (((4 : Int32) * x5) + x6) (m_ln S b2) ∧ (∀ v3 : Int32, v3 = (m_gi S b2 ((((4 : Int32) * x5) + x6)).toNatClampNeg) → ∃ b4, m_gp S a0 33 = some b4 ∧ (vp_in (((4 : Int32) * x5) + x6) (m_ln S b4) ∧ (∀ v5 : Int32, v5 = (m_gi S b4 ((((4 : Int32) * x5) + x6)).toNatClampNeg) → ∃ b6, m_gp S a0 34 = some b6 ∧ (vp_in x5 (m_ln S b6) ∧ (((¬ v5 = (-1 : Int32)) → ∃ b7, m_gp S a0 35 = some b7 ∧ (vp_in v5 (m_ln S b7) ∧ (V_X11_layBright_164 l G a0 x4 x5 x6 v3 ((m_gi S b6 (x5).toNatClampNeg) - (1 : Int32)) (m_gi S b7 (v5).toNatClampNeg) S Q))) ∧ ((v5 = (-1 : Int32)) → V_X11_layBright_164 l G a0 x4 x5 x6 v3 ((m_gi S b6 (x5).toNatClampNeg) - (1 : Int32)) (0 : Int32) S Q))))))))) : V_X11_layBright_104 l G a0 x4 x5 x6 S Q := by
  refine mj_iload dX11_layBright_104 rfl ?_
  refine mj_iconst (v := 4) dX11_layBright_106 (by decide) ?_
  refine mj_icmp_ge (tgt := 203) dX11_layBright_107 (by decide) ⟨fun hc => ?_, fun hc => ?_⟩
  · replace h := h.1 hc
    obtain ⟨v1, ev1⟩ : ∃ z : Int32, z = x5 + (1 : Int32) := ⟨_, rfl⟩
    refine mj_iinc (v := v1) dX11_layBright_203 rfl (by rw [ev1]; rfl) (by decide) rfl rfl ?_
    replace h := h v1 ev1
    refine mj_goto (tgt := 92) dX11_layBright_206 (by decide) ?_
    exact mj_lessm [true, false, false, false, true, true, false, false, false, false] rfl h
  · replace h := h.2 hc
    refine mj_aload_n dX11_layBright_110 rfl rfl ?_
    obtain ⟨b2, eb2, h⟩ := h
    refine mj_getP dX11_layBright_111 fl_X11_68_10 hk_a0 rfl ⟨b2, eb2, fun hk_b2 => ?_⟩
    refine mj_iconst (v := 4) dX11_layBright_114 (by decide) ?_
    refine mj_iload dX11_layBright_115 rfl ?_
    refine mj_imul dX11_layBright_117 ?_
    refine mj_iload dX11_layBright_118 rfl ?_
    refine mj_iadd dX11_layBright_120 ?_
    refine mj_iald dX11_layBright_121 (Or.inl hk_b2) ⟨h.1, ?_⟩
    replace h := h.2
    refine mj_nmi (fun v3 ev3 => ?_)
    replace h := h v3 ev3
    refine mj_istore dX11_layBright_122 (by decide) rfl rfl ?_
    refine mj_aload_n dX11_layBright_124 rfl rfl ?_
    obtain ⟨b4, eb4, h⟩ := h
    refine mj_getP dX11_layBright_125 fl_X11_71_10 hk_a0 rfl ⟨b4, eb4, fun hk_b4 => ?_⟩
    refine mj_iconst (v := 4) dX11_layBright_128 (by decide) ?_
    refine mj_iload dX11_layBright_129 rfl ?_
    refine mj_imul dX11_layBright_131 ?_
    refine mj_iload dX11_layBright_132 rfl ?_
    refine mj_iadd dX11_layBright_134 ?_
    refine mj_iald dX11_layBright_135 (Or.inl hk_b4) ⟨h.1, ?_⟩
    replace h := h.2
    refine mj_nmi (fun v5 ev5 => ?_)
    replace h := h v5 ev5
    refine mj_istore dX11_layBright_136 (by decide) rfl rfl ?_
    refine mj_aload_n dX11_layBright_138 rfl rfl ?_
    obtain ⟨b6, eb6, h⟩ := h
    refine mj_getP dX11_layBright_139 fl_X11_74_10 hk_a0 rfl ⟨b6, eb6, fun hk_b6 => ?_⟩
    refine mj_iload dX11_layBright_142 rfl ?_
    refine mj_iald dX11_layBright_144 (Or.inl hk_b6) ⟨h.1, ?_⟩
    replace h := h.2
    refine mj_iconst (v := 1) dX11_layBright_145 (by decide) ?_
    refine mj_isub dX11_layBright_146 ?_
    refine mj_iload dX11_layBright_147 rfl ?_
    refine mj_iconst (v := (-1)) dX11_layBright_149 (by decide) ?_
    refine mj_icmp_ne (tgt := 157) dX11_layBright_150 (by decide) ⟨fun hc => ?_, fun hc => ?_⟩
    · replace h := h.1 hc
      refine mj_aload_n dX11_layBright_157 rfl rfl ?_
      obtain ⟨b7, eb7, h⟩ := h
      refine mj_getP dX11_layBright_158 fl_X11_77_10 hk_a0 rfl ⟨b7, eb7, fun hk_b7 => ?_⟩
      refine mj_iload dX11_layBright_161 rfl ?_
      refine mj_iald dX11_layBright_163 (Or.inl hk_b7) ⟨h.1, ?_⟩
      replace h := h.2
      exact mj_lessm [true, false, false, false, true, true, true, true, false, false] rfl h
    · replace h := h.2 hc
      refine mj_iconst (v := 0) dX11_layBright_153 (by decide) ?_
      refine mj_goto (tgt := 164) dX11_layBright_154 (by decide) ?_
      exact mj_lessm [true, false, false, false, true, true, true, true, false, false] rfl h
set_option maxRecDepth 20000 in
set_option maxHeartbeats 1000000 in
theorem b_X11_layBright_164 {l : Launch} {G : mj_G} {a0 : Nat} {x4 : Int32} {x5 : Int32} {x6 : Int32} {x7 : Int32} {s0 : Int32} {s1 : Int32} {S : mj_S} {Q : mj_S → Prop} (hk_a0 : m_kd S a0 = 10) (h : ∀ v1 : Int32, v1 = (s0 - s1) → ((x7 = (-1 : Int32)) → ∀ v2 : Int32, v2 = x6 + (1 : Int32) → V_X11_layBright_104 l G a0 x4 x5 v2 S Q) ∧ ((¬ (x7 = (-1 : Int32))) → ∃ b3, m_gp S a0 34 = some b3 ∧ (vp_in x7 (m_ln S b3) ∧ (((v1 ≤ (m_gi S b3 (x7).toNatClampNeg)) → ∀ v4 : Int32, v4 = x6 + (1 : Int32) → V_X11_layBright_104 l G a0 x4 x5 v4 S Q) ∧ ((¬ (v1 ≤ (m_gi S b3 (x7).toNatClampNeg))) → ∃ b5, m_gp S a0 34 = some b5 ∧ (vp_in x7 (m_ln S b5) ∧ (∀ S6 : mj_S, S6 = m_si S b5 (x7).toNatClampNeg v1 → ∀ v7 : Int32, v7 = x6 + (1 : Int32) → V_X11_layBright_104 l G a0 (1 : Int32) x5 v7 S6 Q))))))) : V_X11_layBright_164 l G a0 x4 x5 x6 x7 s0 s1 S Q := by
  refine mj_isub dX11_layBright_164 ?_
  refine mj_nmi (fun v1 ev1 => ?_)
  replace h := h v1 ev1
  refine mj_istore dX11_layBright_165 (by decide) rfl rfl ?_
  refine mj_iload dX11_layBright_167 rfl ?_
  refine mj_iconst (v := (-1)) dX11_layBright_169 (by decide) ?_
  refine mj_icmp_eq (tgt := 197) dX11_layBright_170 (by decide) ⟨fun hc => ?_, fun hc => ?_⟩
  · replace h := h.1 hc
    obtain ⟨v2, ev2⟩ : ∃ z : Int32, z = x6 + (1 : Int32) := ⟨_, rfl⟩
    refine mj_iinc (v := v2) dX11_layBright_197 rfl (by rw [ev2]; rfl) (by decide) rfl rfl ?_
    replace h := h v2 ev2
    refine mj_goto (tgt := 104) dX11_layBright_200 (by decide) ?_
    exact mj_lessm [true, false, false, false, true, true, true, false, false, false] rfl h
  · replace h := h.2 hc
    refine mj_iload dX11_layBright_173 rfl ?_
    refine mj_aload_n dX11_layBright_175 rfl rfl ?_
    obtain ⟨b3, eb3, h⟩ := h
    refine mj_getP dX11_layBright_176 fl_X11_74_10 hk_a0 rfl ⟨b3, eb3, fun hk_b3 => ?_⟩
    refine mj_iload dX11_layBright_179 rfl ?_
    refine mj_iald dX11_layBright_181 (Or.inl hk_b3) ⟨h.1, ?_⟩
    replace h := h.2
    refine mj_icmp_le (tgt := 197) dX11_layBright_182 (by decide) ⟨fun hc => ?_, fun hc => ?_⟩
    · replace h := h.1 hc
      obtain ⟨v4, ev4⟩ : ∃ z : Int32, z = x6 + (1 : Int32) := ⟨_, rfl⟩
      refine mj_iinc (v := v4) dX11_layBright_197 rfl (by rw [ev4]; rfl) (by decide) rfl rfl ?_
      replace h := h v4 ev4
      refine mj_goto (tgt := 104) dX11_layBright_200 (by decide) ?_
      exact mj_lessm [true, false, false, false, true, true, true, false, false, false] rfl h
    · replace h := h.2 hc
      refine mj_aload_n dX11_layBright_185 rfl rfl ?_
      obtain ⟨b5, eb5, h⟩ := h
      refine mj_getP dX11_layBright_186 fl_X11_74_10 hk_a0 rfl ⟨b5, eb5, fun hk_b5 => ?_⟩
      refine mj_iload dX11_layBright_189 rfl ?_
      refine mj_iload dX11_layBright_191 rfl ?_
      refine mj_iast dX11_layBright_193 hk_b5 ⟨h.1, ?_⟩
      replace h := h.2
      obtain ⟨S6, eS6⟩ : ∃ z, z = m_si S b5 (x7).toNatClampNeg v1 := ⟨_, rfl⟩
      rw [← eS6]
      replace h := h S6 eS6
      have hk_a0 : m_kd S6 a0 = 10 := by rw [eS6]; exact hk_a0
      have hk_b3 : m_kd S6 b3 = 100 := by rw [eS6]; exact hk_b3
      have hk_b5 : m_kd S6 b5 = 100 := by rw [eS6]; exact hk_b5
      refine mj_iconst (v := 1) dX11_layBright_194 (by decide) ?_
      refine mj_istore dX11_layBright_195 (by decide) rfl rfl ?_
      obtain ⟨v7, ev7⟩ : ∃ z : Int32, z = x6 + (1 : Int32) := ⟨_, rfl⟩
      refine mj_iinc (v := v7) dX11_layBright_197 rfl (by rw [ev7]; rfl) (by decide) rfl rfl ?_
      replace h := h v7 ev7
      refine mj_goto (tgt := 104) dX11_layBright_200 (by decide) ?_
      exact mj_lessm [true, false, false, false, true, true, true, false, false, false] rfl h
abbrev V_X11_layLit_0 (l : Launch) (G : mj_G) (a0 : Nat) (S : mj_S) (Q : mj_S → Prop) : Prop := mj_V l G (mj_room 8 0 0) RX11 cX11_layLit 1 none false 0 [some (.ref a0)] [] S 0 0 (mj_std G none (mj_room 8 0 0) (mj_qv Q))
theorem e_X11_layLit {l : Launch} {G : mj_G} {a0 : Nat} {S : mj_S} {Q : mj_S → Prop} (h : V_X11_layLit_0 l G a0 S Q) : M_X11_layLit l G a0 S Q := mj_enter (r := 0) (ini := false) (by decide +kernel) (fun h => by cases h) (fun _ => Nat.le_of_ble_eq_true rfl) rfl h
set_option maxRecDepth 20000 in
set_option maxHeartbeats 1000000 in
theorem b_X11_layLit_0 {l : Launch} {G : mj_G} {a0 : Nat} {S : mj_S} {Q : mj_S → Prop} (hk_a0 : m_kd S a0 = 10) (h : ∃ b1, m_gp S a0 22 = some b1 ∧ (vp_in (2 : Int32) (m_ln S b1) ∧ (M_X11_hanging l G a0 S (fun S2 r3 => M_X11_layBright l G a0 (0 : Int32) (m_gi S b1 ((2 : Int32)).toNatClampNeg) r3 S2 (fun S4 => Q S4))))) : V_X11_layLit_0 l G a0 S Q := by
  refine mj_aload_n dX11_layLit_0 rfl rfl ?_
  refine mj_iconst (v := 0) dX11_layLit_1 (by decide) ?_
  refine mj_aload_n dX11_layLit_2 rfl rfl ?_
  obtain ⟨b1, eb1, h⟩ := h
  refine mj_getP dX11_layLit_3 fl_X11_49_10 hk_a0 rfl ⟨b1, eb1, fun hk_b1 => ?_⟩
  refine mj_iconst (v := 2) dX11_layLit_6 (by decide) ?_
  refine mj_iald dX11_layLit_7 (Or.inl hk_b1) ⟨h.1, ?_⟩
  replace h := h.2
  refine mj_aload_n dX11_layLit_8 rfl rfl ?_
  refine mj_callVi (as := []) (st := [.int (m_gi S b1 ((2 : Int32)).toNatClampNeg), .int (0 : Int32), .ref a0]) dX11_layLit_9 cal_X11_hanging lk_X11_314 im_X11_hanging se_X11_hanging (ci := 10) rfl (by decide) hk_a0 h rfl (Nat.le_of_ble_eq_true rfl) (by decide) ⟨Nat.le_of_ble_eq_true rfl, Nat.le_of_ble_eq_true rfl⟩ (fun S2 r3 h hn_r3 hp => ?_)
  have hk_a0 : m_kd S2 a0 = 10 := m_kd_pre hp hk_a0 (by decide)
  have hk_b1 : m_kd S2 b1 = 100 := m_kd_pre hp hk_b1 (by decide)
  refine mj_callVv (as := [.int (0 : Int32), .int (m_gi S b1 ((2 : Int32)).toNatClampNeg), .int r3]) (st := []) dX11_layLit_12 cal_X11_layBright lk_X11_337 im_X11_layBright se_X11_layBright (ci := 10) rfl (by decide) hk_a0 h rfl (Nat.le_of_ble_eq_true rfl) (by decide) ⟨Nat.le_of_ble_eq_true rfl, Nat.le_of_ble_eq_true rfl⟩ (fun S4 h hp => ?_)
  have hk_a0 : m_kd S4 a0 = 10 := m_kd_pre hp hk_a0 (by decide)
  have hk_b1 : m_kd S4 b1 = 100 := m_kd_pre hp hk_b1 (by decide)
  exact mj_retv dX11_layLit_15 rfl ⟨Nat.le_of_ble_eq_true rfl, Nat.le_of_ble_eq_true rfl⟩ h
abbrev V_X11_litOfAll_0 (l : Launch) (G : mj_G) (a0 : Nat) (S : mj_S) (Q : mj_S → Int32 → Prop) : Prop := mj_V l G (mj_room 9 0 0) RX11 cX11_litOfAll 3 (some .int) false 0 [some (.ref a0), none, none] [] S 0 0 (mj_std G (some .int) (mj_room 9 0 0) (mj_qi Q))
abbrev V_X11_litOfAll_8 (l : Launch) (G : mj_G) (a0 : Nat) (x1 : Int32) (x2 : Int32) (S : mj_S) (Q : mj_S → Int32 → Prop) : Prop := mj_V l G (mj_room 9 0 0) RX11 cX11_litOfAll 3 (some .int) false 8 [some (.ref a0), some (.int x1), some (.int x2)] [] S 0 0 (mj_std G (some .int) (mj_room 9 0 0) (mj_qi Q))
theorem e_X11_litOfAll {l : Launch} {G : mj_G} {a0 : Nat} {S : mj_S} {Q : mj_S → Int32 → Prop} (h : V_X11_litOfAll_0 l G a0 S Q) : M_X11_litOfAll l G a0 S Q := mj_enter (r := 2) (ini := false) (by decide +kernel) (fun h => by cases h) (fun _ => Nat.le_of_ble_eq_true rfl) rfl h
set_option maxRecDepth 20000 in
set_option maxHeartbeats 1000000 in
theorem b_X11_litOfAll_0 {l : Launch} {G : mj_G} {a0 : Nat} {S : mj_S} {Q : mj_S → Int32 → Prop} (hk_a0 : m_kd S a0 = 10) (h : M_X11_layLit l G a0 S (fun S1 => V_X11_litOfAll_8 l G a0 (0 : Int32) (0 : Int32) S1 Q)) : V_X11_litOfAll_0 l G a0 S Q := by
  refine mj_aload_n dX11_litOfAll_0 rfl rfl ?_
  refine mj_callVv (as := []) (st := []) dX11_litOfAll_1 cal_X11_layLit lk_X11_341 im_X11_layLit se_X11_layLit (ci := 10) rfl (by decide) hk_a0 h rfl (Nat.le_of_ble_eq_true rfl) (by decide) ⟨Nat.le_of_ble_eq_true rfl, Nat.le_of_ble_eq_true rfl⟩ (fun S1 h hp => ?_)
  have hk_a0 : m_kd S1 a0 = 10 := m_kd_pre hp hk_a0 (by decide)
  refine mj_iconst (v := 0) dX11_litOfAll_4 (by decide) ?_
  refine mj_istore_n dX11_litOfAll_5 rfl (by decide) rfl rfl ?_
  refine mj_iconst (v := 0) dX11_litOfAll_6 (by decide) ?_
  refine mj_istore_n dX11_litOfAll_7 rfl (by decide) rfl rfl ?_
  exact h
set_option maxRecDepth 20000 in
set_option maxHeartbeats 1000000 in
theorem b_X11_litOfAll_8 {l : Launch} {G : mj_G} {a0 : Nat} {x1 : Int32} {x2 : Int32} {S : mj_S} {Q : mj_S → Int32 → Prop} (hk_a0 : m_kd S a0 = 10) (h : (((m_gi S a0 25) ≤ x2) → Q S x1) ∧ ((¬ ((m_gi S a0 25) ≤ x2)) → ∃ b1, m_gp S a0 34 = some b1 ∧ (vp_in x2 (m_ln S b1) ∧ (∀ v2 : Int32, v2 = (x1 + (m_gi S b1 (x2).toNatClampNeg)) → ∀ v3 : Int32, v3 = x2 + (1 : Int32) → V_X11_litOfAll_8 l G a0 v2 v3 S Q)))) : V_X11_litOfAll_8 l G a0 x1 x2 S Q := by
  refine mj_iload_n dX11_litOfAll_8 rfl rfl ?_
  refine mj_aload_n dX11_litOfAll_9 rfl rfl ?_
  refine mj_getI dX11_litOfAll_10 fl_X11_267_10 hk_a0 rfl ?_
  refine mj_icmp_ge (tgt := 31) dX11_litOfAll_13 (by decide) ⟨fun hc => ?_, fun hc => ?_⟩
  · replace h := h.1 hc
    refine mj_iload_n dX11_litOfAll_31 rfl rfl ?_
    exact mj_reti dX11_litOfAll_32 rfl ⟨Nat.le_of_ble_eq_true rfl, Nat.le_of_ble_eq_true rfl⟩ h
  · replace h := h.2 hc
    refine mj_iload_n dX11_litOfAll_16 rfl rfl ?_
    refine mj_aload_n dX11_litOfAll_17 rfl rfl ?_
    obtain ⟨b1, eb1, h⟩ := h
    refine mj_getP dX11_litOfAll_18 fl_X11_74_10 hk_a0 rfl ⟨b1, eb1, fun hk_b1 => ?_⟩
    refine mj_iload_n dX11_litOfAll_21 rfl rfl ?_
    refine mj_iald dX11_litOfAll_22 (Or.inl hk_b1) ⟨h.1, ?_⟩
    replace h := h.2
    refine mj_iadd dX11_litOfAll_23 ?_
    refine mj_nmi (fun v2 ev2 => ?_)
    replace h := h v2 ev2
    refine mj_istore_n dX11_litOfAll_24 rfl (by decide) rfl rfl ?_
    obtain ⟨v3, ev3⟩ : ∃ z : Int32, z = x2 + (1 : Int32) := ⟨_, rfl⟩
    refine mj_iinc (v := v3) dX11_litOfAll_25 rfl (by rw [ev3]; rfl) (by decide) rfl rfl ?_
    replace h := h v3 ev3
    refine mj_goto (tgt := 8) dX11_litOfAll_28 (by decide) ?_
    exact h
abbrev V_X11_rule_0 (l : Launch) (G : mj_G) (a0 : Nat) (x1 : Int32) (S : mj_S) (Q : mj_S → Int32 → Prop) : Prop := mj_V l G (mj_room 2 0 0) RX11 cX11_rule 2 (some .int) false 0 [some (.ref a0), some (.int x1)] [] S 0 0 (mj_std G (some .int) (mj_room 2 0 0) (mj_qi Q))
theorem e_X11_rule {l : Launch} {G : mj_G} {a0 : Nat} {x1 : Int32} {S : mj_S} {Q : mj_S → Int32 → Prop} (h : V_X11_rule_0 l G a0 x1 S Q) : M_X11_rule l G a0 x1 S Q := mj_enter (r := 0) (ini := false) (by decide +kernel) (fun h => by cases h) (fun _ => Nat.le_of_ble_eq_true rfl) rfl h
set_option maxRecDepth 20000 in
set_option maxHeartbeats 1000000 in
theorem b_X11_rule_0 {l : Launch} {G : mj_G} {a0 : Nat} {x1 : Int32} {S : mj_S} {Q : mj_S → Int32 → Prop} (hk_a0 : m_kd S a0 = 10) (h : (((m_gi S a0 25) ≤ 0) → Q S (-1 : Int32)) ∧ ((¬ ((m_gi S a0 25) ≤ 0)) → M_X11_in l G x1 (0 : Int32) (3 : Int32) S (fun S1 r2 => ((r2 = 0) → Q S1 (-1 : Int32)) ∧ ((¬ (r2 = 0)) → ∃ b3, m_gp S1 a0 22 = some b3 ∧ (vp_in x1 (m_ln S1 b3) ∧ (Q S1 (m_gi S1 b3 (x1).toNatClampNeg))))))) : V_X11_rule_0 l G a0 x1 S Q := by
  refine mj_aload_n dX11_rule_0 rfl rfl ?_
  refine mj_getI dX11_rule_1 fl_X11_267_10 hk_a0 rfl ?_
  refine mj_if_le (tgt := 25) dX11_rule_4 (by decide) ⟨fun hc => ?_, fun hc => ?_⟩
  · replace h := h.1 hc
    refine mj_iconst (v := (-1)) dX11_rule_25 (by decide) ?_
    exact mj_reti dX11_rule_26 rfl ⟨Nat.le_of_ble_eq_true rfl, Nat.le_of_ble_eq_true rfl⟩ h
  · replace h := h.2 hc
    refine mj_iload_n dX11_rule_7 rfl rfl ?_
    refine mj_iconst (v := 0) dX11_rule_8 (by decide) ?_
    refine mj_iconst (v := 3) dX11_rule_9 (by decide) ?_
    refine mj_callSi (as := [.int x1, .int (0 : Int32), .int (3 : Int32)]) (st := []) dX11_rule_10 cal_X11_in lk_X11_217 sm_X11_in h rfl (Nat.le_of_ble_eq_true rfl) (by decide) ⟨Nat.le_of_ble_eq_true rfl, Nat.le_of_ble_eq_true rfl⟩ (fun S1 r2 h hn_r2 hp => ?_)
    have hk_a0 : m_kd S1 a0 = 10 := m_kd_pre hp hk_a0 (by decide)
    refine mj_if_eq (tgt := 25) dX11_rule_13 (by decide) ⟨fun hc => ?_, fun hc => ?_⟩
    · replace h := h.1 hc
      refine mj_iconst (v := (-1)) dX11_rule_25 (by decide) ?_
      exact mj_reti dX11_rule_26 rfl ⟨Nat.le_of_ble_eq_true rfl, Nat.le_of_ble_eq_true rfl⟩ h
    · replace h := h.2 hc
      refine mj_aload_n dX11_rule_16 rfl rfl ?_
      obtain ⟨b3, eb3, h⟩ := h
      refine mj_getP dX11_rule_17 fl_X11_49_10 hk_a0 rfl ⟨b3, eb3, fun hk_b3 => ?_⟩
      refine mj_iload_n dX11_rule_20 rfl rfl ?_
      refine mj_iald dX11_rule_21 (Or.inl hk_b3) ⟨h.1, ?_⟩
      replace h := h.2
      refine mj_goto (tgt := 26) dX11_rule_22 (by decide) ?_
      exact mj_reti dX11_rule_26 rfl ⟨Nat.le_of_ble_eq_true rfl, Nat.le_of_ble_eq_true rfl⟩ h
abbrev V_X11_curtain_0 (l : Launch) (G : mj_G) (a0 : Nat) (x1 : Int32) (x2 : Int32) (S : mj_S) (Q : mj_S → Int32 → Prop) : Prop := mj_V l G (mj_room 7 0 0) RX11 cX11_curtain 3 (some .int) false 0 [some (.ref a0), some (.int x1), some (.int x2)] [] S 0 0 (mj_std G (some .int) (mj_room 7 0 0) (mj_qi Q))
abbrev V_X11_curtain_121 (l : Launch) (G : mj_G) (a0 : Nat) (x1 : Int32) (x2 : Int32) (S : mj_S) (Q : mj_S → Int32 → Prop) : Prop := mj_V l G (mj_room 7 0 0) RX11 cX11_curtain 3 (some .int) false 121 [some (.ref a0), some (.int x1), some (.int x2)] [] S 0 0 (mj_std G (some .int) (mj_room 7 0 0) (mj_qi Q))
theorem e_X11_curtain {l : Launch} {G : mj_G} {a0 : Nat} {x1 : Int32} {x2 : Int32} {S : mj_S} {Q : mj_S → Int32 → Prop} (h : V_X11_curtain_0 l G a0 x1 x2 S Q) : M_X11_curtain l G a0 x1 x2 S Q := mj_enter (r := 0) (ini := false) (by decide +kernel) (fun h => by cases h) (fun _ => Nat.le_of_ble_eq_true rfl) rfl h
set_option maxRecDepth 20000 in
set_option maxHeartbeats 1000000 in
theorem b_X11_curtain_0 {l : Launch} {G : mj_G} {a0 : Nat} {x1 : Int32} {x2 : Int32} {S : mj_S} {Q : mj_S → Int32 → Prop} (hk_a0 : m_kd S a0 = 10) (h : M_X11_isCurtain l G a0 x1 S (fun S1 r2 => ((r2 = 0) → Q S1 (-1 : Int32)) ∧ ((¬ (r2 = 0)) → M_X11_in l G x2 (0 : Int32) (7 : Int32) S1 (fun S3 r4 => ((¬ r4 = 0) → (x2.toInt < 0 ∨ 7 < x2.toInt → V_X11_curtain_121 l G a0 x1 x2 S3 Q) ∧ (x2.toInt = 0 → M_X11_firstSide l G a0 x1 S3 (fun S5 r6 => Q S5 r6)) ∧ (x2.toInt = 1 → M_X11_secondSide l G a0 x1 S3 (fun S7 r8 => Q S7 r8)) ∧ (x2.toInt = 2 → V_X11_curtain_121 l G a0 x1 x2 S3 Q) ∧ (x2.toInt = 3 → ∃ b9, m_gp S3 a0 28 = some b9 ∧ (vp_in ((0 : Int32) + x1) (m_ln S3 b9) ∧ (Q S3 (m_gi S3 b9 (((0 : Int32) + x1)).toNatClampNeg)))) ∧ (x2.toInt = 4 → V_X11_curtain_121 l G a0 x1 x2 S3 Q) ∧ (x2.toInt = 5 → ∃ b10, m_gp S3 a0 28 = some b10 ∧ (vp_in (10 : Int32) (m_ln S3 b10) ∧ (Q S3 (((m_gi S3 b10 ((10 : Int32)).toNatClampNeg) >>> (x1 &&& 31)) &&& (1 : Int32))))) ∧ (x2.toInt = 6 → M_X11_hangs l G a0 x1 S3 (fun S11 r12 => ((r12 = 0) → Q S11 (0 : Int32)) ∧ ((¬ (r12 = 0)) → Q S11 (1 : Int32)))) ∧ (x2.toInt = 7 → M_X11_takes l G a0 x1 S3 (fun S13 r14 => Q S13 r14))) ∧ ((r4 = 0) → Q S3 (-1 : Int32)))))) : V_X11_curtain_0 l G a0 x1 x2 S Q := by
  refine mj_aload_n dX11_curtain_0 rfl rfl ?_
  refine mj_iload_n dX11_curtain_1 rfl rfl ?_
  refine mj_callVi (as := [.int x1]) (st := []) dX11_curtain_2 cal_X11_isCurtain lk_X11_295 im_X11_isCurtain se_X11_isCurtain (ci := 10) rfl (by decide) hk_a0 h rfl (Nat.le_of_ble_eq_true rfl) (by decide) ⟨Nat.le_of_ble_eq_true rfl, Nat.le_of_ble_eq_true rfl⟩ (fun S1 r2 h hn_r2 hp => ?_)
  have hk_a0 : m_kd S1 a0 = 10 := m_kd_pre hp hk_a0 (by decide)
  refine mj_if_eq (tgt := 18) dX11_curtain_5 (by decide) ⟨fun hc => ?_, fun hc => ?_⟩
  · replace h := h.1 hc
    refine mj_iconst (v := (-1)) dX11_curtain_18 (by decide) ?_
    exact mj_reti dX11_curtain_19 rfl ⟨Nat.le_of_ble_eq_true rfl, Nat.le_of_ble_eq_true rfl⟩ h
  · replace h := h.2 hc
    refine mj_iload_n dX11_curtain_8 rfl rfl ?_
    refine mj_iconst (v := 0) dX11_curtain_9 (by decide) ?_
    refine mj_bipush (v := 7) dX11_curtain_10 (by decide) ?_
    refine mj_callSi (as := [.int x2, .int (0 : Int32), .int (7 : Int32)]) (st := []) dX11_curtain_12 cal_X11_in lk_X11_217 sm_X11_in h rfl (Nat.le_of_ble_eq_true rfl) (by decide) ⟨Nat.le_of_ble_eq_true rfl, Nat.le_of_ble_eq_true rfl⟩ (fun S3 r4 h hn_r4 hp => ?_)
    have hk_a0 : m_kd S3 a0 = 10 := m_kd_pre hp hk_a0 (by decide)
    refine mj_if_ne (tgt := 20) dX11_curtain_15 (by decide) ⟨fun hc => ?_, fun hc => ?_⟩
    · replace h := h.1 hc
      refine mj_iload_n dX11_curtain_20 rfl rfl ?_
      by_cases hlo : x2.toInt < 0 ∨ 7 < x2.toInt
      · replace h := h.1 hlo
        refine mj_tabOut (tgt := 121) dX11_curtain_21 hlo (by decide) ?_
        exact h
      · replace h := h.2
        rcases (show x2.toInt = 0 ∨ x2.toInt = 1 ∨ x2.toInt = 2 ∨ x2.toInt = 3 ∨ x2.toInt = 4 ∨ x2.toInt = 5 ∨ x2.toInt = 6 ∨ x2.toInt = 7 by omega) with e | e | e | e | e | e | e | e
        · replace h := h.1 e
          refine mj_tabIn (tgt := 68) (off := 47) dX11_curtain_21 (by omega) (by omega) (by rw [e]; rfl) (by decide) ?_
          refine mj_aload_n dX11_curtain_68 rfl rfl ?_
          refine mj_iload_n dX11_curtain_69 rfl rfl ?_
          refine mj_callVi (as := [.int x1]) (st := []) dX11_curtain_70 cal_X11_firstSide lk_X11_301 im_X11_firstSide se_X11_firstSide (ci := 10) rfl (by decide) hk_a0 h rfl (Nat.le_of_ble_eq_true rfl) (by decide) ⟨Nat.le_of_ble_eq_true rfl, Nat.le_of_ble_eq_true rfl⟩ (fun S5 r6 h hn_r6 hp => ?_)
          have hk_a0 : m_kd S5 a0 = 10 := m_kd_pre hp hk_a0 (by decide)
          exact mj_reti dX11_curtain_73 rfl ⟨Nat.le_of_ble_eq_true rfl, Nat.le_of_ble_eq_true rfl⟩ h
        · replace h := h.2.1 e
          refine mj_tabIn (tgt := 74) (off := 53) dX11_curtain_21 (by omega) (by omega) (by rw [e]; rfl) (by decide) ?_
          refine mj_aload_n dX11_curtain_74 rfl rfl ?_
          refine mj_iload_n dX11_curtain_75 rfl rfl ?_
          refine mj_callVi (as := [.int x1]) (st := []) dX11_curtain_76 cal_X11_secondSide lk_X11_304 im_X11_secondSide se_X11_secondSide (ci := 10) rfl (by decide) hk_a0 h rfl (Nat.le_of_ble_eq_true rfl) (by decide) ⟨Nat.le_of_ble_eq_true rfl, Nat.le_of_ble_eq_true rfl⟩ (fun S7 r8 h hn_r8 hp => ?_)
          have hk_a0 : m_kd S7 a0 = 10 := m_kd_pre hp hk_a0 (by decide)
          exact mj_reti dX11_curtain_79 rfl ⟨Nat.le_of_ble_eq_true rfl, Nat.le_of_ble_eq_true rfl⟩ h
        · replace h := h.2.2.1 e
          refine mj_tabIn (tgt := 121) (off := 100) dX11_curtain_21 (by omega) (by omega) (by rw [e]; rfl) (by decide) ?_
          exact h
        · replace h := h.2.2.2.1 e
          refine mj_tabIn (tgt := 80) (off := 59) dX11_curtain_21 (by omega) (by omega) (by rw [e]; rfl) (by decide) ?_
          refine mj_aload_n dX11_curtain_80 rfl rfl ?_
          obtain ⟨b9, eb9, h⟩ := h
          refine mj_getP dX11_curtain_81 fl_X11_58_10 hk_a0 rfl ⟨b9, eb9, fun hk_b9 => ?_⟩
          refine mj_iconst (v := 0) dX11_curtain_84 (by decide) ?_
          refine mj_iload_n dX11_curtain_85 rfl rfl ?_
          refine mj_iadd dX11_curtain_86 ?_
          refine mj_iald dX11_curtain_87 (Or.inl hk_b9) ⟨h.1, ?_⟩
          replace h := h.2
          exact mj_reti dX11_curtain_88 rfl ⟨Nat.le_of_ble_eq_true rfl, Nat.le_of_ble_eq_true rfl⟩ h
        · replace h := h.2.2.2.2.1 e
          refine mj_tabIn (tgt := 121) (off := 100) dX11_curtain_21 (by omega) (by omega) (by rw [e]; rfl) (by decide) ?_
          exact h
        · replace h := h.2.2.2.2.2.1 e
          refine mj_tabIn (tgt := 89) (off := 68) dX11_curtain_21 (by omega) (by omega) (by rw [e]; rfl) (by decide) ?_
          refine mj_aload_n dX11_curtain_89 rfl rfl ?_
          obtain ⟨b10, eb10, h⟩ := h
          refine mj_getP dX11_curtain_90 fl_X11_58_10 hk_a0 rfl ⟨b10, eb10, fun hk_b10 => ?_⟩
          refine mj_bipush (v := 10) dX11_curtain_93 (by decide) ?_
          refine mj_iald dX11_curtain_95 (Or.inl hk_b10) ⟨h.1, ?_⟩
          replace h := h.2
          refine mj_iload_n dX11_curtain_96 rfl rfl ?_
          refine mj_ishr dX11_curtain_97 ?_
          refine mj_iconst (v := 1) dX11_curtain_98 (by decide) ?_
          refine mj_iand dX11_curtain_99 ?_
          exact mj_reti dX11_curtain_100 rfl ⟨Nat.le_of_ble_eq_true rfl, Nat.le_of_ble_eq_true rfl⟩ h
        · replace h := h.2.2.2.2.2.2.1 e
          refine mj_tabIn (tgt := 101) (off := 80) dX11_curtain_21 (by omega) (by omega) (by rw [e]; rfl) (by decide) ?_
          refine mj_aload_n dX11_curtain_101 rfl rfl ?_
          refine mj_iload_n dX11_curtain_102 rfl rfl ?_
          refine mj_callVi (as := [.int x1]) (st := []) dX11_curtain_103 cal_X11_hangs lk_X11_307 im_X11_hangs se_X11_hangs (ci := 10) rfl (by decide) hk_a0 h rfl (Nat.le_of_ble_eq_true rfl) (by decide) ⟨Nat.le_of_ble_eq_true rfl, Nat.le_of_ble_eq_true rfl⟩ (fun S11 r12 h hn_r12 hp => ?_)
          have hk_a0 : m_kd S11 a0 = 10 := m_kd_pre hp hk_a0 (by decide)
          refine mj_if_eq (tgt := 113) dX11_curtain_106 (by decide) ⟨fun hc => ?_, fun hc => ?_⟩
          · replace h := h.1 hc
            refine mj_iconst (v := 0) dX11_curtain_113 (by decide) ?_
            exact mj_reti dX11_curtain_114 rfl ⟨Nat.le_of_ble_eq_true rfl, Nat.le_of_ble_eq_true rfl⟩ h
          · replace h := h.2 hc
            refine mj_iconst (v := 1) dX11_curtain_109 (by decide) ?_
            refine mj_goto (tgt := 114) dX11_curtain_110 (by decide) ?_
            exact mj_reti dX11_curtain_114 rfl ⟨Nat.le_of_ble_eq_true rfl, Nat.le_of_ble_eq_true rfl⟩ h
        · replace h := h.2.2.2.2.2.2.2 e
          refine mj_tabIn (tgt := 115) (off := 94) dX11_curtain_21 (by omega) (by omega) (by rw [e]; rfl) (by decide) ?_
          refine mj_aload_n dX11_curtain_115 rfl rfl ?_
          refine mj_iload_n dX11_curtain_116 rfl rfl ?_
          refine mj_callVi (as := [.int x1]) (st := []) dX11_curtain_117 cal_X11_takes lk_X11_334 im_X11_takes se_X11_takes (ci := 10) rfl (by decide) hk_a0 h rfl (Nat.le_of_ble_eq_true rfl) (by decide) ⟨Nat.le_of_ble_eq_true rfl, Nat.le_of_ble_eq_true rfl⟩ (fun S13 r14 h hn_r14 hp => ?_)
          have hk_a0 : m_kd S13 a0 = 10 := m_kd_pre hp hk_a0 (by decide)
          exact mj_reti dX11_curtain_120 rfl ⟨Nat.le_of_ble_eq_true rfl, Nat.le_of_ble_eq_true rfl⟩ h
    · replace h := h.2 hc
      refine mj_iconst (v := (-1)) dX11_curtain_18 (by decide) ?_
      exact mj_reti dX11_curtain_19 rfl ⟨Nat.le_of_ble_eq_true rfl, Nat.le_of_ble_eq_true rfl⟩ h
set_option maxRecDepth 20000 in
set_option maxHeartbeats 1000000 in
theorem b_X11_curtain_121 {l : Launch} {G : mj_G} {a0 : Nat} {x1 : Int32} {x2 : Int32} {S : mj_S} {Q : mj_S → Int32 → Prop} (hk_a0 : m_kd S a0 = 10) (h : M_X11_of l G a0 x1 x2 S (fun S1 r2 => Q S1 r2)) : V_X11_curtain_121 l G a0 x1 x2 S Q := by
  refine mj_aload_n dX11_curtain_121 rfl rfl ?_
  refine mj_iload_n dX11_curtain_122 rfl rfl ?_
  refine mj_iload_n dX11_curtain_123 rfl rfl ?_
  refine mj_callVi (as := [.int x1, .int x2]) (st := []) dX11_curtain_124 cal_X11_of lk_X11_270 im_X11_of se_X11_of (ci := 10) rfl (by decide) hk_a0 h rfl (Nat.le_of_ble_eq_true rfl) (by decide) ⟨Nat.le_of_ble_eq_true rfl, Nat.le_of_ble_eq_true rfl⟩ (fun S1 r2 h hn_r2 hp => ?_)
  have hk_a0 : m_kd S1 a0 = 10 := m_kd_pre hp hk_a0 (by decide)
  exact mj_reti dX11_curtain_127 rfl ⟨Nat.le_of_ble_eq_true rfl, Nat.le_of_ble_eq_true rfl⟩ h
abbrev V_X11_person_0 (l : Launch) (G : mj_G) (a0 : Nat) (x1 : Int32) (x2 : Int32) (S : mj_S) (Q : mj_S → Int32 → Prop) : Prop := mj_V l G (mj_room 6 0 0) RX11 cX11_person 4 (some .int) false 0 [some (.ref a0), some (.int x1), some (.int x2), none] [] S 0 0 (mj_std G (some .int) (mj_room 6 0 0) (mj_qi Q))
abbrev V_X11_person_23 (l : Launch) (G : mj_G) (a0 : Nat) (x1 : Int32) (x2 : Int32) (c0 : Nat) (s1 : Int32) (S : mj_S) (Q : mj_S → Int32 → Prop) : Prop := mj_V l G (mj_room 6 0 0) RX11 cX11_person 4 (some .int) false 23 [some (.ref a0), some (.int x1), some (.int x2), none] [.int s1, .ref c0] S 0 0 (mj_std G (some .int) (mj_room 6 0 0) (mj_qi Q))
theorem e_X11_person {l : Launch} {G : mj_G} {a0 : Nat} {x1 : Int32} {x2 : Int32} {S : mj_S} {Q : mj_S → Int32 → Prop} (h : V_X11_person_0 l G a0 x1 x2 S Q) : M_X11_person l G a0 x1 x2 S Q := mj_enter (r := 1) (ini := false) (by decide +kernel) (fun h => by cases h) (fun _ => Nat.le_of_ble_eq_true rfl) rfl h
set_option maxRecDepth 20000 in
set_option maxHeartbeats 1000000 in
theorem b_X11_person_0 {l : Launch} {G : mj_G} {a0 : Nat} {x1 : Int32} {x2 : Int32} {S : mj_S} {Q : mj_S → Int32 → Prop} (hk_a0 : m_kd S a0 = 10) (h : M_X11_isPerson l G a0 x1 S (fun S1 r2 => ((r2 = 0) → V_X11_person_23 l G a0 x1 x2 a0 (1 : Int32) S1 Q) ∧ ((¬ (r2 = 0)) → M_X11_in l G x2 (0 : Int32) (3 : Int32) S1 (fun S3 r4 => ((r4 = 0) → V_X11_person_23 l G a0 x1 x2 a0 (1 : Int32) S3 Q) ∧ ((¬ (r4 = 0)) → V_X11_person_23 l G a0 x1 x2 a0 (0 : Int32) S3 Q))))) : V_X11_person_0 l G a0 x1 x2 S Q := by
  refine mj_aload_n dX11_person_0 rfl rfl ?_
  refine mj_aload_n dX11_person_1 rfl rfl ?_
  refine mj_iload_n dX11_person_2 rfl rfl ?_
  refine mj_callVi (as := [.int x1]) (st := [.ref a0]) dX11_person_3 cal_X11_isPerson lk_X11_344 im_X11_isPerson se_X11_isPerson (ci := 10) rfl (by decide) hk_a0 h rfl (Nat.le_of_ble_eq_true rfl) (by decide) ⟨Nat.le_of_ble_eq_true rfl, Nat.le_of_ble_eq_true rfl⟩ (fun S1 r2 h hn_r2 hp => ?_)
  have hk_a0 : m_kd S1 a0 = 10 := m_kd_pre hp hk_a0 (by decide)
  refine mj_if_eq (tgt := 22) dX11_person_6 (by decide) ⟨fun hc => ?_, fun hc => ?_⟩
  · replace h := h.1 hc
    refine mj_iconst (v := 1) dX11_person_22 (by decide) ?_
    exact h
  · replace h := h.2 hc
    refine mj_iload_n dX11_person_9 rfl rfl ?_
    refine mj_iconst (v := 0) dX11_person_10 (by decide) ?_
    refine mj_iconst (v := 3) dX11_person_11 (by decide) ?_
    refine mj_callSi (as := [.int x2, .int (0 : Int32), .int (3 : Int32)]) (st := [.ref a0]) dX11_person_12 cal_X11_in lk_X11_217 sm_X11_in h rfl (Nat.le_of_ble_eq_true rfl) (by decide) ⟨Nat.le_of_ble_eq_true rfl, Nat.le_of_ble_eq_true rfl⟩ (fun S3 r4 h hn_r4 hp => ?_)
    have hk_a0 : m_kd S3 a0 = 10 := m_kd_pre hp hk_a0 (by decide)
    refine mj_if_eq (tgt := 22) dX11_person_15 (by decide) ⟨fun hc => ?_, fun hc => ?_⟩
    · replace h := h.1 hc
      refine mj_iconst (v := 1) dX11_person_22 (by decide) ?_
      exact h
    · replace h := h.2 hc
      refine mj_iconst (v := 0) dX11_person_18 (by decide) ?_
      refine mj_goto (tgt := 23) dX11_person_19 (by decide) ?_
      exact h
set_option maxRecDepth 20000 in
set_option maxHeartbeats 1000000 in
theorem b_X11_person_23 {l : Launch} {G : mj_G} {a0 : Nat} {x1 : Int32} {x2 : Int32} {c0 : Nat} {s1 : Int32} {S : mj_S} {Q : mj_S → Int32 → Prop} (hk_a0 : m_kd S a0 = 10) (hk_c0 : m_kd S c0 = 10) (h : ∀ S1 : mj_S, S1 = m_si S c0 0 s1 → ((¬ (m_gi S1 a0 0) = (1 : Int32)) → ∃ b2, m_gp S1 a0 28 = some b2 ∧ (vp_in ((11 : Int32) + x1) (m_ln S1 b2) ∧ (M_X11_stateOf l G a0 (m_gi S1 b2 (((11 : Int32) + x1)).toNatClampNeg) S1 (fun S3 r4 => ((¬ x2 = 0) → ((¬ x2 = (1 : Int32)) → ((¬ x2 = (2 : Int32)) → M_X11_lordOf l G a0 r4 S3 (fun S5 r6 => ((¬ r6 = x1) → Q S5 (0 : Int32)) ∧ ((r6 = x1) → Q S5 (1 : Int32)))) ∧ ((x2 = (2 : Int32)) → M_X11_nameOf l G a0 r4 S3 (fun S7 r8 => Q S7 r8))) ∧ ((x2 = (1 : Int32)) → ∃ b9, m_gp S3 a0 24 = some b9 ∧ (vp_in (((2 : Int32) * x1) + (1 : Int32)) (m_ln S3 b9) ∧ (Q S3 (m_gi S3 b9 ((((2 : Int32) * x1) + (1 : Int32))).toNatClampNeg))))) ∧ ((x2 = 0) → ∃ b10, m_gp S3 a0 28 = some b10 ∧ (vp_in ((11 : Int32) + x1) (m_ln S3 b10) ∧ (Q S3 (m_gi S3 b10 (((11 : Int32) + x1)).toNatClampNeg)))))))) ∧ (((m_gi S1 a0 0) = (1 : Int32)) → Q S1 (0 : Int32))) : V_X11_person_23 l G a0 x1 x2 c0 s1 S Q := by
  refine mj_putI dX11_person_23 fl_X11_102_10 hk_c0 (Or.inl rfl) rfl rfl rfl ?_
  obtain ⟨S1, eS1⟩ : ∃ z, z = m_si S c0 0 s1 := ⟨_, rfl⟩
  rw [← eS1]
  replace h := h S1 eS1
  have hk_a0 : m_kd S1 a0 = 10 := by rw [eS1]; exact hk_a0
  have hk_c0 : m_kd S1 c0 = 10 := by rw [eS1]; exact hk_c0
  refine mj_aload_n dX11_person_26 rfl rfl ?_
  refine mj_getI dX11_person_27 fl_X11_102_10 hk_a0 rfl ?_
  refine mj_iconst (v := 1) dX11_person_30 (by decide) ?_
  refine mj_icmp_ne (tgt := 36) dX11_person_31 (by decide) ⟨fun hc => ?_, fun hc => ?_⟩
  · replace h := h.1 hc
    refine mj_aload_n dX11_person_36 rfl rfl ?_
    refine mj_aload_n dX11_person_37 rfl rfl ?_
    obtain ⟨b2, eb2, h⟩ := h
    refine mj_getP dX11_person_38 fl_X11_58_10 hk_a0 rfl ⟨b2, eb2, fun hk_b2 => ?_⟩
    refine mj_bipush (v := 11) dX11_person_41 (by decide) ?_
    refine mj_iload_n dX11_person_43 rfl rfl ?_
    refine mj_iadd dX11_person_44 ?_
    refine mj_iald dX11_person_45 (Or.inl hk_b2) ⟨h.1, ?_⟩
    replace h := h.2
    refine mj_callVi (as := [.int (m_gi S1 b2 (((11 : Int32) + x1)).toNatClampNeg)]) (st := []) dX11_person_46 cal_X11_stateOf lk_X11_328 im_X11_stateOf se_X11_stateOf (ci := 10) rfl (by decide) hk_a0 h rfl (Nat.le_of_ble_eq_true rfl) (by decide) ⟨Nat.le_of_ble_eq_true rfl, Nat.le_of_ble_eq_true rfl⟩ (fun S3 r4 h hn_r4 hp => ?_)
    have hk_a0 : m_kd S3 a0 = 10 := m_kd_pre hp hk_a0 (by decide)
    have hk_c0 : m_kd S3 c0 = 10 := m_kd_pre hp hk_c0 (by decide)
    have hk_b2 : m_kd S3 b2 = 100 := m_kd_pre hp hk_b2 (by decide)
    refine mj_istore_n dX11_person_49 rfl (by decide) rfl rfl ?_
    refine mj_iload_n dX11_person_50 rfl rfl ?_
    refine mj_if_ne (tgt := 66) dX11_person_51 (by decide) ⟨fun hc => ?_, fun hc => ?_⟩
    · replace h := h.1 hc
      refine mj_iload_n dX11_person_66 rfl rfl ?_
      refine mj_iconst (v := 1) dX11_person_67 (by decide) ?_
      refine mj_icmp_ne (tgt := 84) dX11_person_68 (by decide) ⟨fun hc => ?_, fun hc => ?_⟩
      · replace h := h.1 hc
        refine mj_iload_n dX11_person_84 rfl rfl ?_
        refine mj_iconst (v := 2) dX11_person_85 (by decide) ?_
        refine mj_icmp_ne (tgt := 97) dX11_person_86 (by decide) ⟨fun hc => ?_, fun hc => ?_⟩
        · replace h := h.1 hc
          refine mj_aload_n dX11_person_97 rfl rfl ?_
          refine mj_iload_n dX11_person_98 rfl rfl ?_
          refine mj_callVi (as := [.int r4]) (st := []) dX11_person_99 cal_X11_lordOf lk_X11_347 im_X11_lordOf se_X11_lordOf (ci := 10) rfl (by decide) hk_a0 h rfl (Nat.le_of_ble_eq_true rfl) (by decide) ⟨Nat.le_of_ble_eq_true rfl, Nat.le_of_ble_eq_true rfl⟩ (fun S5 r6 h hn_r6 hp => ?_)
          have hk_a0 : m_kd S5 a0 = 10 := m_kd_pre hp hk_a0 (by decide)
          have hk_c0 : m_kd S5 c0 = 10 := m_kd_pre hp hk_c0 (by decide)
          have hk_b2 : m_kd S5 b2 = 100 := m_kd_pre hp hk_b2 (by decide)
          refine mj_iload_n dX11_person_102 rfl rfl ?_
          refine mj_icmp_ne (tgt := 110) dX11_person_103 (by decide) ⟨fun hc => ?_, fun hc => ?_⟩
          · replace h := h.1 hc
            refine mj_iconst (v := 0) dX11_person_110 (by decide) ?_
            exact mj_reti dX11_person_111 rfl ⟨Nat.le_of_ble_eq_true rfl, Nat.le_of_ble_eq_true rfl⟩ h
          · replace h := h.2 hc
            refine mj_iconst (v := 1) dX11_person_106 (by decide) ?_
            refine mj_goto (tgt := 111) dX11_person_107 (by decide) ?_
            exact mj_reti dX11_person_111 rfl ⟨Nat.le_of_ble_eq_true rfl, Nat.le_of_ble_eq_true rfl⟩ h
        · replace h := h.2 hc
          refine mj_aload_n dX11_person_89 rfl rfl ?_
          refine mj_iload_n dX11_person_90 rfl rfl ?_
          refine mj_callVi (as := [.int r4]) (st := []) dX11_person_91 cal_X11_nameOf lk_X11_325 im_X11_nameOf se_X11_nameOf (ci := 10) rfl (by decide) hk_a0 h rfl (Nat.le_of_ble_eq_true rfl) (by decide) ⟨Nat.le_of_ble_eq_true rfl, Nat.le_of_ble_eq_true rfl⟩ (fun S7 r8 h hn_r8 hp => ?_)
          have hk_a0 : m_kd S7 a0 = 10 := m_kd_pre hp hk_a0 (by decide)
          have hk_c0 : m_kd S7 c0 = 10 := m_kd_pre hp hk_c0 (by decide)
          have hk_b2 : m_kd S7 b2 = 100 := m_kd_pre hp hk_b2 (by decide)
          refine mj_goto (tgt := 111) dX11_person_94 (by decide) ?_
          exact mj_reti dX11_person_111 rfl ⟨Nat.le_of_ble_eq_true rfl, Nat.le_of_ble_eq_true rfl⟩ h
      · replace h := h.2 hc
        refine mj_aload_n dX11_person_71 rfl rfl ?_
        obtain ⟨b9, eb9, h⟩ := h
        refine mj_getP dX11_person_72 fl_X11_55_10 hk_a0 rfl ⟨b9, eb9, fun hk_b9 => ?_⟩
        refine mj_iconst (v := 2) dX11_person_75 (by decide) ?_
        refine mj_iload_n dX11_person_76 rfl rfl ?_
        refine mj_imul dX11_person_77 ?_
        refine mj_iconst (v := 1) dX11_person_78 (by decide) ?_
        refine mj_iadd dX11_person_79 ?_
        refine mj_iald dX11_person_80 (Or.inl hk_b9) ⟨h.1, ?_⟩
        replace h := h.2
        refine mj_goto (tgt := 111) dX11_person_81 (by decide) ?_
        exact mj_reti dX11_person_111 rfl ⟨Nat.le_of_ble_eq_true rfl, Nat.le_of_ble_eq_true rfl⟩ h
    · replace h := h.2 hc
      refine mj_aload_n dX11_person_54 rfl rfl ?_
      obtain ⟨b10, eb10, h⟩ := h
      refine mj_getP dX11_person_55 fl_X11_58_10 hk_a0 rfl ⟨b10, eb10, fun hk_b10 => ?_⟩
      refine mj_bipush (v := 11) dX11_person_58 (by decide) ?_
      refine mj_iload_n dX11_person_60 rfl rfl ?_
      refine mj_iadd dX11_person_61 ?_
      refine mj_iald dX11_person_62 (Or.inl hk_b10) ⟨h.1, ?_⟩
      replace h := h.2
      refine mj_goto (tgt := 111) dX11_person_63 (by decide) ?_
      exact mj_reti dX11_person_111 rfl ⟨Nat.le_of_ble_eq_true rfl, Nat.le_of_ble_eq_true rfl⟩ h
  · replace h := h.2 hc
    refine mj_iconst (v := 0) dX11_person_34 (by decide) ?_
    exact mj_reti dX11_person_35 rfl ⟨Nat.le_of_ble_eq_true rfl, Nat.le_of_ble_eq_true rfl⟩ h
abbrev V_X11_law_0 (l : Launch) (G : mj_G) (a0 : Nat) (x1 : Int32) (S : mj_S) (Q : mj_S → Int32 → Prop) : Prop := mj_V l G (mj_room 2 0 0) RX11 cX11_law 2 (some .boolean) false 0 [some (.ref a0), some (.int x1)] [] S 0 0 (mj_std G (some .boolean) (mj_room 2 0 0) (mj_qi Q))
theorem e_X11_law {l : Launch} {G : mj_G} {a0 : Nat} {x1 : Int32} {S : mj_S} {Q : mj_S → Int32 → Prop} (h : V_X11_law_0 l G a0 x1 S Q) : M_X11_law l G a0 x1 S Q := mj_enter (r := 0) (ini := false) (by decide +kernel) (fun h => by cases h) (fun _ => Nat.le_of_ble_eq_true rfl) rfl h
set_option maxRecDepth 20000 in
set_option maxHeartbeats 1000000 in
theorem b_X11_law_0 {l : Launch} {G : mj_G} {a0 : Nat} {x1 : Int32} {S : mj_S} {Q : mj_S → Int32 → Prop} (hk_a0 : m_kd S a0 = 10) (h : M_X11_in l G x1 (-1 : Int32) ((m_gi S a0 13) - (1 : Int32)) S (fun S1 r2 => ((¬ r2 = 0) → ∀ S3 : mj_S, S3 = m_si S1 a0 30 x1 → Q S3 (1 : Int32)) ∧ ((r2 = 0) → Q S1 (0 : Int32)))) : V_X11_law_0 l G a0 x1 S Q := by
  refine mj_iload_n dX11_law_0 rfl rfl ?_
  refine mj_iconst (v := (-1)) dX11_law_1 (by decide) ?_
  refine mj_aload_n dX11_law_2 rfl rfl ?_
  refine mj_getI dX11_law_3 fl_X11_292_10 hk_a0 rfl ?_
  refine mj_iconst (v := 1) dX11_law_6 (by decide) ?_
  refine mj_isub dX11_law_7 ?_
  refine mj_callSi (as := [.int x1, .int (-1 : Int32), .int ((m_gi S a0 13) - (1 : Int32))]) (st := []) dX11_law_8 cal_X11_in lk_X11_217 sm_X11_in h rfl (Nat.le_of_ble_eq_true rfl) (by decide) ⟨Nat.le_of_ble_eq_true rfl, Nat.le_of_ble_eq_true rfl⟩ (fun S1 r2 h hn_r2 hp => ?_)
  have hk_a0 : m_kd S1 a0 = 10 := m_kd_pre hp hk_a0 (by decide)
  refine mj_if_ne (tgt := 16) dX11_law_11 (by decide) ⟨fun hc => ?_, fun hc => ?_⟩
  · replace h := h.1 hc
    refine mj_aload_n dX11_law_16 rfl rfl ?_
    refine mj_iload_n dX11_law_17 rfl rfl ?_
    refine mj_putI dX11_law_18 fl_X11_64_10 hk_a0 (Or.inl rfl) rfl rfl rfl ?_
    obtain ⟨S3, eS3⟩ : ∃ z, z = m_si S1 a0 30 x1 := ⟨_, rfl⟩
    rw [← eS3]
    replace h := h S3 eS3
    have hk_a0 : m_kd S3 a0 = 10 := by rw [eS3]; exact hk_a0
    refine mj_iconst (v := 1) dX11_law_21 (by decide) ?_
    exact mj_retz dX11_law_22 rfl (rfl) ⟨Nat.le_of_ble_eq_true rfl, Nat.le_of_ble_eq_true rfl⟩ h
  · replace h := h.2 hc
    refine mj_iconst (v := 0) dX11_law_14 (by decide) ?_
    exact mj_retz dX11_law_15 rfl (rfl) ⟨Nat.le_of_ble_eq_true rfl, Nat.le_of_ble_eq_true rfl⟩ h
abbrev V_X11_state_0 (l : Launch) (G : mj_G) (a0 : Nat) (x1 : Int32) (S : mj_S) (Q : mj_S → Int32 → Prop) : Prop := mj_V l G (mj_room 6 0 0) RX11 cX11_state 2 (some .int) false 0 [some (.ref a0), some (.int x1)] [] S 0 0 (mj_std G (some .int) (mj_room 6 0 0) (mj_qi Q))
theorem e_X11_state {l : Launch} {G : mj_G} {a0 : Nat} {x1 : Int32} {S : mj_S} {Q : mj_S → Int32 → Prop} (h : V_X11_state_0 l G a0 x1 S Q) : M_X11_state l G a0 x1 S Q := mj_enter (r := 0) (ini := false) (by decide +kernel) (fun h => by cases h) (fun _ => Nat.le_of_ble_eq_true rfl) rfl h
set_option maxRecDepth 20000 in
set_option maxHeartbeats 1000000 in
theorem b_X11_state_0 {l : Launch} {G : mj_G} {a0 : Nat} {x1 : Int32} {S : mj_S} {Q : mj_S → Int32 → Prop} (hk_a0 : m_kd S a0 = 10) (h : M_X11_isSquare l G a0 x1 S (fun S1 r2 => ((r2 = 0) → Q S1 (-1 : Int32)) ∧ ((¬ (r2 = 0)) → M_X11_stateOf l G a0 x1 S1 (fun S3 r4 => M_X11_nameOf l G a0 r4 S3 (fun S5 r6 => Q S5 r6))))) : V_X11_state_0 l G a0 x1 S Q := by
  refine mj_aload_n dX11_state_0 rfl rfl ?_
  refine mj_iload_n dX11_state_1 rfl rfl ?_
  refine mj_callVi (as := [.int x1]) (st := []) dX11_state_2 cal_X11_isSquare lk_X11_350 im_X11_isSquare se_X11_isSquare (ci := 10) rfl (by decide) hk_a0 h rfl (Nat.le_of_ble_eq_true rfl) (by decide) ⟨Nat.le_of_ble_eq_true rfl, Nat.le_of_ble_eq_true rfl⟩ (fun S1 r2 h hn_r2 hp => ?_)
  have hk_a0 : m_kd S1 a0 = 10 := m_kd_pre hp hk_a0 (by decide)
  refine mj_if_eq (tgt := 20) dX11_state_5 (by decide) ⟨fun hc => ?_, fun hc => ?_⟩
  · replace h := h.1 hc
    refine mj_iconst (v := (-1)) dX11_state_20 (by decide) ?_
    exact mj_reti dX11_state_21 rfl ⟨Nat.le_of_ble_eq_true rfl, Nat.le_of_ble_eq_true rfl⟩ h
  · replace h := h.2 hc
    refine mj_aload_n dX11_state_8 rfl rfl ?_
    refine mj_aload_n dX11_state_9 rfl rfl ?_
    refine mj_iload_n dX11_state_10 rfl rfl ?_
    refine mj_callVi (as := [.int x1]) (st := [.ref a0]) dX11_state_11 cal_X11_stateOf lk_X11_328 im_X11_stateOf se_X11_stateOf (ci := 10) rfl (by decide) hk_a0 h rfl (Nat.le_of_ble_eq_true rfl) (by decide) ⟨Nat.le_of_ble_eq_true rfl, Nat.le_of_ble_eq_true rfl⟩ (fun S3 r4 h hn_r4 hp => ?_)
    have hk_a0 : m_kd S3 a0 = 10 := m_kd_pre hp hk_a0 (by decide)
    refine mj_callVi (as := [.int r4]) (st := []) dX11_state_14 cal_X11_nameOf lk_X11_325 im_X11_nameOf se_X11_nameOf (ci := 10) rfl (by decide) hk_a0 h rfl (Nat.le_of_ble_eq_true rfl) (by decide) ⟨Nat.le_of_ble_eq_true rfl, Nat.le_of_ble_eq_true rfl⟩ (fun S5 r6 h hn_r6 hp => ?_)
    have hk_a0 : m_kd S5 a0 = 10 := m_kd_pre hp hk_a0 (by decide)
    refine mj_goto (tgt := 21) dX11_state_17 (by decide) ?_
    exact mj_reti dX11_state_21 rfl ⟨Nat.le_of_ble_eq_true rfl, Nat.le_of_ble_eq_true rfl⟩ h
abbrev V_X11_lord_0 (l : Launch) (G : mj_G) (a0 : Nat) (x1 : Int32) (S : mj_S) (Q : mj_S → Int32 → Prop) : Prop := mj_V l G (mj_room 6 0 0) RX11 cX11_lord 2 (some .int) false 0 [some (.ref a0), some (.int x1)] [] S 0 0 (mj_std G (some .int) (mj_room 6 0 0) (mj_qi Q))
theorem e_X11_lord {l : Launch} {G : mj_G} {a0 : Nat} {x1 : Int32} {S : mj_S} {Q : mj_S → Int32 → Prop} (h : V_X11_lord_0 l G a0 x1 S Q) : M_X11_lord l G a0 x1 S Q := mj_enter (r := 0) (ini := false) (by decide +kernel) (fun h => by cases h) (fun _ => Nat.le_of_ble_eq_true rfl) rfl h
set_option maxRecDepth 20000 in
set_option maxHeartbeats 1000000 in
theorem b_X11_lord_0 {l : Launch} {G : mj_G} {a0 : Nat} {x1 : Int32} {S : mj_S} {Q : mj_S → Int32 → Prop} (hk_a0 : m_kd S a0 = 10) (h : M_X11_isSquare l G a0 x1 S (fun S1 r2 => ((r2 = 0) → Q S1 (-1 : Int32)) ∧ ((¬ (r2 = 0)) → M_X11_stateOf l G a0 x1 S1 (fun S3 r4 => M_X11_lordOf l G a0 r4 S3 (fun S5 r6 => Q S5 r6))))) : V_X11_lord_0 l G a0 x1 S Q := by
  refine mj_aload_n dX11_lord_0 rfl rfl ?_
  refine mj_iload_n dX11_lord_1 rfl rfl ?_
  refine mj_callVi (as := [.int x1]) (st := []) dX11_lord_2 cal_X11_isSquare lk_X11_350 im_X11_isSquare se_X11_isSquare (ci := 10) rfl (by decide) hk_a0 h rfl (Nat.le_of_ble_eq_true rfl) (by decide) ⟨Nat.le_of_ble_eq_true rfl, Nat.le_of_ble_eq_true rfl⟩ (fun S1 r2 h hn_r2 hp => ?_)
  have hk_a0 : m_kd S1 a0 = 10 := m_kd_pre hp hk_a0 (by decide)
  refine mj_if_eq (tgt := 20) dX11_lord_5 (by decide) ⟨fun hc => ?_, fun hc => ?_⟩
  · replace h := h.1 hc
    refine mj_iconst (v := (-1)) dX11_lord_20 (by decide) ?_
    exact mj_reti dX11_lord_21 rfl ⟨Nat.le_of_ble_eq_true rfl, Nat.le_of_ble_eq_true rfl⟩ h
  · replace h := h.2 hc
    refine mj_aload_n dX11_lord_8 rfl rfl ?_
    refine mj_aload_n dX11_lord_9 rfl rfl ?_
    refine mj_iload_n dX11_lord_10 rfl rfl ?_
    refine mj_callVi (as := [.int x1]) (st := [.ref a0]) dX11_lord_11 cal_X11_stateOf lk_X11_328 im_X11_stateOf se_X11_stateOf (ci := 10) rfl (by decide) hk_a0 h rfl (Nat.le_of_ble_eq_true rfl) (by decide) ⟨Nat.le_of_ble_eq_true rfl, Nat.le_of_ble_eq_true rfl⟩ (fun S3 r4 h hn_r4 hp => ?_)
    have hk_a0 : m_kd S3 a0 = 10 := m_kd_pre hp hk_a0 (by decide)
    refine mj_callVi (as := [.int r4]) (st := []) dX11_lord_14 cal_X11_lordOf lk_X11_347 im_X11_lordOf se_X11_lordOf (ci := 10) rfl (by decide) hk_a0 h rfl (Nat.le_of_ble_eq_true rfl) (by decide) ⟨Nat.le_of_ble_eq_true rfl, Nat.le_of_ble_eq_true rfl⟩ (fun S5 r6 h hn_r6 hp => ?_)
    have hk_a0 : m_kd S5 a0 = 10 := m_kd_pre hp hk_a0 (by decide)
    refine mj_goto (tgt := 21) dX11_lord_17 (by decide) ?_
    exact mj_reti dX11_lord_21 rfl ⟨Nat.le_of_ble_eq_true rfl, Nat.le_of_ble_eq_true rfl⟩ h
abbrev V_X11_lit_0 (l : Launch) (G : mj_G) (a0 : Nat) (x1 : Int32) (S : mj_S) (Q : mj_S → Int32 → Prop) : Prop := mj_V l G (mj_room 9 0 0) RX11 cX11_lit 2 (some .int) false 0 [some (.ref a0), some (.int x1)] [] S 0 0 (mj_std G (some .int) (mj_room 9 0 0) (mj_qi Q))
theorem e_X11_lit {l : Launch} {G : mj_G} {a0 : Nat} {x1 : Int32} {S : mj_S} {Q : mj_S → Int32 → Prop} (h : V_X11_lit_0 l G a0 x1 S Q) : M_X11_lit l G a0 x1 S Q := mj_enter (r := 0) (ini := false) (by decide +kernel) (fun h => by cases h) (fun _ => Nat.le_of_ble_eq_true rfl) rfl h
set_option maxRecDepth 20000 in
set_option maxHeartbeats 1000000 in
theorem b_X11_lit_0 {l : Launch} {G : mj_G} {a0 : Nat} {x1 : Int32} {S : mj_S} {Q : mj_S → Int32 → Prop} (hk_a0 : m_kd S a0 = 10) (h : M_X11_isSquare l G a0 x1 S (fun S1 r2 => ((¬ r2 = 0) → M_X11_layLit l G a0 S1 (fun S3 => ∃ b4, m_gp S3 a0 34 = some b4 ∧ (vp_in x1 (m_ln S3 b4) ∧ (Q S3 (m_gi S3 b4 (x1).toNatClampNeg))))) ∧ ((r2 = 0) → Q S1 (-1 : Int32)))) : V_X11_lit_0 l G a0 x1 S Q := by
  refine mj_aload_n dX11_lit_0 rfl rfl ?_
  refine mj_iload_n dX11_lit_1 rfl rfl ?_
  refine mj_callVi (as := [.int x1]) (st := []) dX11_lit_2 cal_X11_isSquare lk_X11_350 im_X11_isSquare se_X11_isSquare (ci := 10) rfl (by decide) hk_a0 h rfl (Nat.le_of_ble_eq_true rfl) (by decide) ⟨Nat.le_of_ble_eq_true rfl, Nat.le_of_ble_eq_true rfl⟩ (fun S1 r2 h hn_r2 hp => ?_)
  have hk_a0 : m_kd S1 a0 = 10 := m_kd_pre hp hk_a0 (by decide)
  refine mj_if_ne (tgt := 10) dX11_lit_5 (by decide) ⟨fun hc => ?_, fun hc => ?_⟩
  · replace h := h.1 hc
    refine mj_aload_n dX11_lit_10 rfl rfl ?_
    refine mj_callVv (as := []) (st := []) dX11_lit_11 cal_X11_layLit lk_X11_341 im_X11_layLit se_X11_layLit (ci := 10) rfl (by decide) hk_a0 h rfl (Nat.le_of_ble_eq_true rfl) (by decide) ⟨Nat.le_of_ble_eq_true rfl, Nat.le_of_ble_eq_true rfl⟩ (fun S3 h hp => ?_)
    have hk_a0 : m_kd S3 a0 = 10 := m_kd_pre hp hk_a0 (by decide)
    refine mj_aload_n dX11_lit_14 rfl rfl ?_
    obtain ⟨b4, eb4, h⟩ := h
    refine mj_getP dX11_lit_15 fl_X11_74_10 hk_a0 rfl ⟨b4, eb4, fun hk_b4 => ?_⟩
    refine mj_iload_n dX11_lit_18 rfl rfl ?_
    refine mj_iald dX11_lit_19 (Or.inl hk_b4) ⟨h.1, ?_⟩
    replace h := h.2
    exact mj_reti dX11_lit_20 rfl ⟨Nat.le_of_ble_eq_true rfl, Nat.le_of_ble_eq_true rfl⟩ h
  · replace h := h.2 hc
    refine mj_iconst (v := (-1)) dX11_lit_8 (by decide) ?_
    exact mj_reti dX11_lit_9 rfl ⟨Nat.le_of_ble_eq_true rfl, Nat.le_of_ble_eq_true rfl⟩ h
abbrev V_X11_touch_0 (l : Launch) (G : mj_G) (a0 : Nat) (x1 : Int32) (x2 : Int32) (S : mj_S) (Q : mj_S → Int32 → Prop) : Prop := mj_V l G (mj_room 6 0 0) RX11 cX11_touch 6 (some .int) false 0 [some (.ref a0), some (.int x1), some (.int x2), none, none, none] [] S 0 0 (mj_std G (some .int) (mj_room 6 0 0) (mj_qi Q))
abbrev V_X11_touch_34 (l : Launch) (G : mj_G) (a0 : Nat) (x3 : Int32) (x4 : Int32) (x5 : Int32) (S : mj_S) (Q : mj_S → Int32 → Prop) : Prop := mj_V l G (mj_room 6 0 0) RX11 cX11_touch 6 (some .int) false 34 [some (.ref a0), none, none, some (.int x3), some (.int x4), some (.int x5)] [] S 0 0 (mj_std G (some .int) (mj_room 6 0 0) (mj_qi Q))
abbrev V_X11_touch_85 (l : Launch) (G : mj_G) (a0 : Nat) (x3 : Int32) (x4 : Int32) (x5 : Int32) (S : mj_S) (Q : mj_S → Int32 → Prop) : Prop := mj_V l G (mj_room 6 0 0) RX11 cX11_touch 6 (some .int) false 85 [some (.ref a0), none, none, some (.int x3), some (.int x4), some (.int x5)] [] S 0 0 (mj_std G (some .int) (mj_room 6 0 0) (mj_qi Q))
theorem e_X11_touch {l : Launch} {G : mj_G} {a0 : Nat} {x1 : Int32} {x2 : Int32} {S : mj_S} {Q : mj_S → Int32 → Prop} (h : V_X11_touch_0 l G a0 x1 x2 S Q) : M_X11_touch l G a0 x1 x2 S Q := mj_enter (r := 3) (ini := false) (by decide +kernel) (fun h => by cases h) (fun _ => Nat.le_of_ble_eq_true rfl) rfl h
set_option maxRecDepth 20000 in
set_option maxHeartbeats 1000000 in
theorem b_X11_touch_0 {l : Launch} {G : mj_G} {a0 : Nat} {x1 : Int32} {x2 : Int32} {S : mj_S} {Q : mj_S → Int32 → Prop} (hk_a0 : m_kd S a0 = 10) (h : M_X11_isSquare l G a0 x1 S (fun S1 r2 => ((r2 = 0) → Q S1 (-1 : Int32)) ∧ ((¬ (r2 = 0)) → M_X11_isSquare l G a0 x2 S1 (fun S3 r4 => ((¬ r4 = 0) → M_X11_stateOf l G a0 x1 S3 (fun S5 r6 => M_X11_stateOf l G a0 x2 S5 (fun S7 r8 => V_X11_touch_34 l G a0 r6 r8 (0 : Int32) S7 Q))) ∧ ((r4 = 0) → Q S3 (-1 : Int32)))))) : V_X11_touch_0 l G a0 x1 x2 S Q := by
  refine mj_aload_n dX11_touch_0 rfl rfl ?_
  refine mj_iload_n dX11_touch_1 rfl rfl ?_
  refine mj_callVi (as := [.int x1]) (st := []) dX11_touch_2 cal_X11_isSquare lk_X11_350 im_X11_isSquare se_X11_isSquare (ci := 10) rfl (by decide) hk_a0 h rfl (Nat.le_of_ble_eq_true rfl) (by decide) ⟨Nat.le_of_ble_eq_true rfl, Nat.le_of_ble_eq_true rfl⟩ (fun S1 r2 h hn_r2 hp => ?_)
  have hk_a0 : m_kd S1 a0 = 10 := m_kd_pre hp hk_a0 (by decide)
  refine mj_if_eq (tgt := 16) dX11_touch_5 (by decide) ⟨fun hc => ?_, fun hc => ?_⟩
  · replace h := h.1 hc
    refine mj_iconst (v := (-1)) dX11_touch_16 (by decide) ?_
    exact mj_reti dX11_touch_17 rfl ⟨Nat.le_of_ble_eq_true rfl, Nat.le_of_ble_eq_true rfl⟩ h
  · replace h := h.2 hc
    refine mj_aload_n dX11_touch_8 rfl rfl ?_
    refine mj_iload_n dX11_touch_9 rfl rfl ?_
    refine mj_callVi (as := [.int x2]) (st := []) dX11_touch_10 cal_X11_isSquare lk_X11_350 im_X11_isSquare se_X11_isSquare (ci := 10) rfl (by decide) hk_a0 h rfl (Nat.le_of_ble_eq_true rfl) (by decide) ⟨Nat.le_of_ble_eq_true rfl, Nat.le_of_ble_eq_true rfl⟩ (fun S3 r4 h hn_r4 hp => ?_)
    have hk_a0 : m_kd S3 a0 = 10 := m_kd_pre hp hk_a0 (by decide)
    refine mj_if_ne (tgt := 18) dX11_touch_13 (by decide) ⟨fun hc => ?_, fun hc => ?_⟩
    · replace h := h.1 hc
      refine mj_aload_n dX11_touch_18 rfl rfl ?_
      refine mj_iload_n dX11_touch_19 rfl rfl ?_
      refine mj_callVi (as := [.int x1]) (st := []) dX11_touch_20 cal_X11_stateOf lk_X11_328 im_X11_stateOf se_X11_stateOf (ci := 10) rfl (by decide) hk_a0 h rfl (Nat.le_of_ble_eq_true rfl) (by decide) ⟨Nat.le_of_ble_eq_true rfl, Nat.le_of_ble_eq_true rfl⟩ (fun S5 r6 h hn_r6 hp => ?_)
      have hk_a0 : m_kd S5 a0 = 10 := m_kd_pre hp hk_a0 (by decide)
      refine mj_istore_n dX11_touch_23 rfl (by decide) rfl rfl ?_
      refine mj_aload_n dX11_touch_24 rfl rfl ?_
      refine mj_iload_n dX11_touch_25 rfl rfl ?_
      refine mj_callVi (as := [.int x2]) (st := []) dX11_touch_26 cal_X11_stateOf lk_X11_328 im_X11_stateOf se_X11_stateOf (ci := 10) rfl (by decide) hk_a0 h rfl (Nat.le_of_ble_eq_true rfl) (by decide) ⟨Nat.le_of_ble_eq_true rfl, Nat.le_of_ble_eq_true rfl⟩ (fun S7 r8 h hn_r8 hp => ?_)
      have hk_a0 : m_kd S7 a0 = 10 := m_kd_pre hp hk_a0 (by decide)
      refine mj_istore dX11_touch_29 (by decide) rfl rfl ?_
      refine mj_iconst (v := 0) dX11_touch_31 (by decide) ?_
      refine mj_istore dX11_touch_32 (by decide) rfl rfl ?_
      exact mj_lessm [true, false, false, true, true, true] rfl h
    · replace h := h.2 hc
      refine mj_iconst (v := (-1)) dX11_touch_16 (by decide) ?_
      exact mj_reti dX11_touch_17 rfl ⟨Nat.le_of_ble_eq_true rfl, Nat.le_of_ble_eq_true rfl⟩ h
set_option maxRecDepth 20000 in
set_option maxHeartbeats 1000000 in
theorem b_X11_touch_34 {l : Launch} {G : mj_G} {a0 : Nat} {x3 : Int32} {x4 : Int32} {x5 : Int32} {S : mj_S} {Q : mj_S → Int32 → Prop} (hk_a0 : m_kd S a0 = 10) (h : (((m_gi S a0 26) ≤ x5) → Q S (0 : Int32)) ∧ ((¬ ((m_gi S a0 26) ≤ x5)) → ((x3 = x4) → Q S (0 : Int32)) ∧ ((¬ (x3 = x4)) → M_X11_hangs l G a0 x5 S (fun S1 r2 => ((r2 = 0) → ∀ v3 : Int32, v3 = x5 + (1 : Int32) → V_X11_touch_34 l G a0 x3 x4 v3 S1 Q) ∧ ((¬ (r2 = 0)) → M_X11_firstSide l G a0 x5 S1 (fun S4 r5 => M_X11_has l G x3 r5 S4 (fun S6 r7 => ((r7 = 0) → V_X11_touch_85 l G a0 x3 x4 x5 S6 Q) ∧ ((¬ (r7 = 0)) → M_X11_secondSide l G a0 x5 S6 (fun S8 r9 => M_X11_has l G x4 r9 S8 (fun S10 r11 => ((¬ r11 = 0) → Q S10 (1 : Int32)) ∧ ((r11 = 0) → V_X11_touch_85 l G a0 x3 x4 x5 S10 Q))))))))))) : V_X11_touch_34 l G a0 x3 x4 x5 S Q := by
  refine mj_iload dX11_touch_34 rfl ?_
  refine mj_aload_n dX11_touch_36 rfl rfl ?_
  refine mj_getI dX11_touch_37 fl_X11_261_10 hk_a0 rfl ?_
  refine mj_icmp_ge (tgt := 120) dX11_touch_40 (by decide) ⟨fun hc => ?_, fun hc => ?_⟩
  · replace h := h.1 hc
    refine mj_iconst (v := 0) dX11_touch_120 (by decide) ?_
    exact mj_reti dX11_touch_121 rfl ⟨Nat.le_of_ble_eq_true rfl, Nat.le_of_ble_eq_true rfl⟩ h
  · replace h := h.2 hc
    refine mj_iload_n dX11_touch_43 rfl rfl ?_
    refine mj_iload dX11_touch_44 rfl ?_
    refine mj_icmp_eq (tgt := 120) dX11_touch_46 (by decide) ⟨fun hc => ?_, fun hc => ?_⟩
    · replace h := h.1 hc
      refine mj_iconst (v := 0) dX11_touch_120 (by decide) ?_
      exact mj_reti dX11_touch_121 rfl ⟨Nat.le_of_ble_eq_true rfl, Nat.le_of_ble_eq_true rfl⟩ h
    · replace h := h.2 hc
      refine mj_aload_n dX11_touch_49 rfl rfl ?_
      refine mj_iload dX11_touch_50 rfl ?_
      refine mj_callVi (as := [.int x5]) (st := []) dX11_touch_52 cal_X11_hangs lk_X11_307 im_X11_hangs se_X11_hangs (ci := 10) rfl (by decide) hk_a0 h rfl (Nat.le_of_ble_eq_true rfl) (by decide) ⟨Nat.le_of_ble_eq_true rfl, Nat.le_of_ble_eq_true rfl⟩ (fun S1 r2 h hn_r2 hp => ?_)
      have hk_a0 : m_kd S1 a0 = 10 := m_kd_pre hp hk_a0 (by decide)
      refine mj_if_eq (tgt := 114) dX11_touch_55 (by decide) ⟨fun hc => ?_, fun hc => ?_⟩
      · replace h := h.1 hc
        obtain ⟨v3, ev3⟩ : ∃ z : Int32, z = x5 + (1 : Int32) := ⟨_, rfl⟩
        refine mj_iinc (v := v3) dX11_touch_114 rfl (by rw [ev3]; rfl) (by decide) rfl rfl ?_
        replace h := h v3 ev3
        refine mj_goto (tgt := 34) dX11_touch_117 (by decide) ?_
        exact h
      · replace h := h.2 hc
        refine mj_iload_n dX11_touch_58 rfl rfl ?_
        refine mj_aload_n dX11_touch_59 rfl rfl ?_
        refine mj_iload dX11_touch_60 rfl ?_
        refine mj_callVi (as := [.int x5]) (st := [.int x3]) dX11_touch_62 cal_X11_firstSide lk_X11_301 im_X11_firstSide se_X11_firstSide (ci := 10) rfl (by decide) hk_a0 h rfl (Nat.le_of_ble_eq_true rfl) (by decide) ⟨Nat.le_of_ble_eq_true rfl, Nat.le_of_ble_eq_true rfl⟩ (fun S4 r5 h hn_r5 hp => ?_)
        have hk_a0 : m_kd S4 a0 = 10 := m_kd_pre hp hk_a0 (by decide)
        refine mj_callSi (as := [.int x3, .int r5]) (st := []) dX11_touch_65 cal_X11_has lk_X11_228 sm_X11_has h rfl (Nat.le_of_ble_eq_true rfl) (by decide) ⟨Nat.le_of_ble_eq_true rfl, Nat.le_of_ble_eq_true rfl⟩ (fun S6 r7 h hn_r7 hp => ?_)
        have hk_a0 : m_kd S6 a0 = 10 := m_kd_pre hp hk_a0 (by decide)
        refine mj_if_eq (tgt := 85) dX11_touch_68 (by decide) ⟨fun hc => ?_, fun hc => ?_⟩
        · replace h := h.1 hc
          exact h
        · replace h := h.2 hc
          refine mj_iload dX11_touch_71 rfl ?_
          refine mj_aload_n dX11_touch_73 rfl rfl ?_
          refine mj_iload dX11_touch_74 rfl ?_
          refine mj_callVi (as := [.int x5]) (st := [.int x4]) dX11_touch_76 cal_X11_secondSide lk_X11_304 im_X11_secondSide se_X11_secondSide (ci := 10) rfl (by decide) hk_a0 h rfl (Nat.le_of_ble_eq_true rfl) (by decide) ⟨Nat.le_of_ble_eq_true rfl, Nat.le_of_ble_eq_true rfl⟩ (fun S8 r9 h hn_r9 hp => ?_)
          have hk_a0 : m_kd S8 a0 = 10 := m_kd_pre hp hk_a0 (by decide)
          refine mj_callSi (as := [.int x4, .int r9]) (st := []) dX11_touch_79 cal_X11_has lk_X11_228 sm_X11_has h rfl (Nat.le_of_ble_eq_true rfl) (by decide) ⟨Nat.le_of_ble_eq_true rfl, Nat.le_of_ble_eq_true rfl⟩ (fun S10 r11 h hn_r11 hp => ?_)
          have hk_a0 : m_kd S10 a0 = 10 := m_kd_pre hp hk_a0 (by decide)
          refine mj_if_ne (tgt := 112) dX11_touch_82 (by decide) ⟨fun hc => ?_, fun hc => ?_⟩
          · replace h := h.1 hc
            refine mj_iconst (v := 1) dX11_touch_112 (by decide) ?_
            exact mj_reti dX11_touch_113 rfl ⟨Nat.le_of_ble_eq_true rfl, Nat.le_of_ble_eq_true rfl⟩ h
          · replace h := h.2 hc
            exact h
set_option maxRecDepth 20000 in
set_option maxHeartbeats 1000000 in
theorem b_X11_touch_85 {l : Launch} {G : mj_G} {a0 : Nat} {x3 : Int32} {x4 : Int32} {x5 : Int32} {S : mj_S} {Q : mj_S → Int32 → Prop} (hk_a0 : m_kd S a0 = 10) (h : M_X11_firstSide l G a0 x5 S (fun S1 r2 => M_X11_has l G x4 r2 S1 (fun S3 r4 => ((r4 = 0) → ∀ v5 : Int32, v5 = x5 + (1 : Int32) → V_X11_touch_34 l G a0 x3 x4 v5 S3 Q) ∧ ((¬ (r4 = 0)) → M_X11_secondSide l G a0 x5 S3 (fun S6 r7 => M_X11_has l G x3 r7 S6 (fun S8 r9 => ((r9 = 0) → ∀ v10 : Int32, v10 = x5 + (1 : Int32) → V_X11_touch_34 l G a0 x3 x4 v10 S8 Q) ∧ ((¬ (r9 = 0)) → Q S8 (1 : Int32)))))))) : V_X11_touch_85 l G a0 x3 x4 x5 S Q := by
  refine mj_iload dX11_touch_85 rfl ?_
  refine mj_aload_n dX11_touch_87 rfl rfl ?_
  refine mj_iload dX11_touch_88 rfl ?_
  refine mj_callVi (as := [.int x5]) (st := [.int x4]) dX11_touch_90 cal_X11_firstSide lk_X11_301 im_X11_firstSide se_X11_firstSide (ci := 10) rfl (by decide) hk_a0 h rfl (Nat.le_of_ble_eq_true rfl) (by decide) ⟨Nat.le_of_ble_eq_true rfl, Nat.le_of_ble_eq_true rfl⟩ (fun S1 r2 h hn_r2 hp => ?_)
  have hk_a0 : m_kd S1 a0 = 10 := m_kd_pre hp hk_a0 (by decide)
  refine mj_callSi (as := [.int x4, .int r2]) (st := []) dX11_touch_93 cal_X11_has lk_X11_228 sm_X11_has h rfl (Nat.le_of_ble_eq_true rfl) (by decide) ⟨Nat.le_of_ble_eq_true rfl, Nat.le_of_ble_eq_true rfl⟩ (fun S3 r4 h hn_r4 hp => ?_)
  have hk_a0 : m_kd S3 a0 = 10 := m_kd_pre hp hk_a0 (by decide)
  refine mj_if_eq (tgt := 114) dX11_touch_96 (by decide) ⟨fun hc => ?_, fun hc => ?_⟩
  · replace h := h.1 hc
    obtain ⟨v5, ev5⟩ : ∃ z : Int32, z = x5 + (1 : Int32) := ⟨_, rfl⟩
    refine mj_iinc (v := v5) dX11_touch_114 rfl (by rw [ev5]; rfl) (by decide) rfl rfl ?_
    replace h := h v5 ev5
    refine mj_goto (tgt := 34) dX11_touch_117 (by decide) ?_
    exact h
  · replace h := h.2 hc
    refine mj_iload_n dX11_touch_99 rfl rfl ?_
    refine mj_aload_n dX11_touch_100 rfl rfl ?_
    refine mj_iload dX11_touch_101 rfl ?_
    refine mj_callVi (as := [.int x5]) (st := [.int x3]) dX11_touch_103 cal_X11_secondSide lk_X11_304 im_X11_secondSide se_X11_secondSide (ci := 10) rfl (by decide) hk_a0 h rfl (Nat.le_of_ble_eq_true rfl) (by decide) ⟨Nat.le_of_ble_eq_true rfl, Nat.le_of_ble_eq_true rfl⟩ (fun S6 r7 h hn_r7 hp => ?_)
    have hk_a0 : m_kd S6 a0 = 10 := m_kd_pre hp hk_a0 (by decide)
    refine mj_callSi (as := [.int x3, .int r7]) (st := []) dX11_touch_106 cal_X11_has lk_X11_228 sm_X11_has h rfl (Nat.le_of_ble_eq_true rfl) (by decide) ⟨Nat.le_of_ble_eq_true rfl, Nat.le_of_ble_eq_true rfl⟩ (fun S8 r9 h hn_r9 hp => ?_)
    have hk_a0 : m_kd S8 a0 = 10 := m_kd_pre hp hk_a0 (by decide)
    refine mj_if_eq (tgt := 114) dX11_touch_109 (by decide) ⟨fun hc => ?_, fun hc => ?_⟩
    · replace h := h.1 hc
      obtain ⟨v10, ev10⟩ : ∃ z : Int32, z = x5 + (1 : Int32) := ⟨_, rfl⟩
      refine mj_iinc (v := v10) dX11_touch_114 rfl (by rw [ev10]; rfl) (by decide) rfl rfl ?_
      replace h := h v10 ev10
      refine mj_goto (tgt := 34) dX11_touch_117 (by decide) ?_
      exact h
    · replace h := h.2 hc
      refine mj_iconst (v := 1) dX11_touch_112 (by decide) ?_
      exact mj_reti dX11_touch_113 rfl ⟨Nat.le_of_ble_eq_true rfl, Nat.le_of_ble_eq_true rfl⟩ h
abbrev V_X11_keep_0 (l : Launch) (G : mj_G) (a0 : Nat) (S : mj_S) (Q : mj_S → Prop) : Prop := mj_V l G (mj_room 1 0 0) RX11 cX11_keep 2 none false 0 [some (.ref a0), none] [] S 0 0 (mj_std G none (mj_room 1 0 0) (mj_qv Q))
abbrev V_X11_keep_13 (l : Launch) (G : mj_G) (a0 : Nat) (x1 : Int32) (S : mj_S) (Q : mj_S → Prop) : Prop := mj_V l G (mj_room 1 0 0) RX11 cX11_keep 2 none false 13 [some (.ref a0), some (.int x1)] [] S 0 0 (mj_std G none (mj_room 1 0 0) (mj_qv Q))
abbrev V_X11_keep_54 (l : Launch) (G : mj_G) (a0 : Nat) (x1 : Int32) (S : mj_S) (Q : mj_S → Prop) : Prop := mj_V l G (mj_room 1 0 0) RX11 cX11_keep 2 none false 54 [some (.ref a0), some (.int x1)] [] S 0 0 (mj_std G none (mj_room 1 0 0) (mj_qv Q))
theorem e_X11_keep {l : Launch} {G : mj_G} {a0 : Nat} {S : mj_S} {Q : mj_S → Prop} (h : V_X11_keep_0 l G a0 S Q) : M_X11_keep l G a0 S Q := mj_enter (r := 1) (ini := false) (by decide +kernel) (fun h => by cases h) (fun _ => Nat.le_of_ble_eq_true rfl) rfl h
set_option maxRecDepth 20000 in
set_option maxHeartbeats 1000000 in
theorem b_X11_keep_0 {l : Launch} {G : mj_G} {a0 : Nat} {S : mj_S} {Q : mj_S → Prop} (hk_a0 : m_kd S a0 = 10) (h : ((¬ (m_gi S a0 37) = (40 : Int32)) → V_X11_keep_54 l G a0 (0 : Int32) S Q) ∧ (((m_gi S a0 37) = (40 : Int32)) → V_X11_keep_13 l G a0 (199 : Int32) S Q)) : V_X11_keep_0 l G a0 S Q := by
  refine mj_aload_n dX11_keep_0 rfl rfl ?_
  refine mj_getI dX11_keep_1 fl_X11_282_10 hk_a0 rfl ?_
  refine mj_bipush (v := 40) dX11_keep_4 (by decide) ?_
  refine mj_icmp_ne (tgt := 52) dX11_keep_6 (by decide) ⟨fun hc => ?_, fun hc => ?_⟩
  · replace h := h.1 hc
    refine mj_iconst (v := 0) dX11_keep_52 (by decide) ?_
    refine mj_istore_n dX11_keep_53 rfl (by decide) rfl rfl ?_
    exact h
  · replace h := h.2 hc
    refine mj_sipush (v := 199) dX11_keep_9 (by decide) ?_
    refine mj_istore_n dX11_keep_12 rfl (by decide) rfl rfl ?_
    exact h
set_option maxRecDepth 20000 in
set_option maxHeartbeats 1000000 in
theorem b_X11_keep_13 {l : Launch} {G : mj_G} {a0 : Nat} {x1 : Int32} {S : mj_S} {Q : mj_S → Prop} (hk_a0 : m_kd S a0 = 10) (h : (((7960 : Int32) ≤ x1) → ∀ S1 : mj_S, S1 = m_si S a0 37 ((m_gi S a0 37) - (1 : Int32)) → V_X11_keep_54 l G a0 (0 : Int32) S1 Q) ∧ ((¬ ((7960 : Int32) ≤ x1)) → ∃ b2, m_gp S a0 36 = some b2 ∧ (∃ b3, m_gp S a0 36 = some b3 ∧ (vp_in x1 (m_ln S b3) ∧ (vp_in (x1 - (199 : Int32)) (m_ln S b2) ∧ (∀ S4 : mj_S, S4 = m_si S b2 ((x1 - (199 : Int32))).toNatClampNeg (m_gi S b3 (x1).toNatClampNeg) → ∀ v5 : Int32, v5 = x1 + (1 : Int32) → V_X11_keep_13 l G a0 v5 S4 Q)))))) : V_X11_keep_13 l G a0 x1 S Q := by
  refine mj_iload_n dX11_keep_13 rfl rfl ?_
  refine mj_sipush (v := 7960) dX11_keep_14 (by decide) ?_
  refine mj_icmp_ge (tgt := 42) dX11_keep_17 (by decide) ⟨fun hc => ?_, fun hc => ?_⟩
  · replace h := h.1 hc
    refine mj_aload_n dX11_keep_42 rfl rfl ?_
    refine mj_dup dX11_keep_43 rfl ?_
    refine mj_getI dX11_keep_44 fl_X11_282_10 hk_a0 rfl ?_
    refine mj_iconst (v := 1) dX11_keep_47 (by decide) ?_
    refine mj_isub dX11_keep_48 ?_
    refine mj_putI dX11_keep_49 fl_X11_282_10 hk_a0 (Or.inl rfl) rfl rfl rfl ?_
    obtain ⟨S1, eS1⟩ : ∃ z, z = m_si S a0 37 ((m_gi S a0 37) - (1 : Int32)) := ⟨_, rfl⟩
    rw [← eS1]
    replace h := h S1 eS1
    have hk_a0 : m_kd S1 a0 = 10 := by rw [eS1]; exact hk_a0
    refine mj_iconst (v := 0) dX11_keep_52 (by decide) ?_
    refine mj_istore_n dX11_keep_53 rfl (by decide) rfl rfl ?_
    exact h
  · replace h := h.2 hc
    refine mj_aload_n dX11_keep_20 rfl rfl ?_
    obtain ⟨b2, eb2, h⟩ := h
    refine mj_getP dX11_keep_21 fl_X11_80_10 hk_a0 rfl ⟨b2, eb2, fun hk_b2 => ?_⟩
    refine mj_iload_n dX11_keep_24 rfl rfl ?_
    refine mj_sipush (v := 199) dX11_keep_25 (by decide) ?_
    refine mj_isub dX11_keep_28 ?_
    refine mj_aload_n dX11_keep_29 rfl rfl ?_
    obtain ⟨b3, eb3, h⟩ := h
    refine mj_getP dX11_keep_30 fl_X11_80_10 hk_a0 rfl ⟨b3, eb3, fun hk_b3 => ?_⟩
    refine mj_iload_n dX11_keep_33 rfl rfl ?_
    refine mj_iald dX11_keep_34 (Or.inl hk_b3) ⟨h.1, ?_⟩
    replace h := h.2
    refine mj_iast dX11_keep_35 hk_b2 ⟨h.1, ?_⟩
    replace h := h.2
    obtain ⟨S4, eS4⟩ : ∃ z, z = m_si S b2 ((x1 - (199 : Int32))).toNatClampNeg (m_gi S b3 (x1).toNatClampNeg) := ⟨_, rfl⟩
    rw [← eS4]
    replace h := h S4 eS4
    have hk_a0 : m_kd S4 a0 = 10 := by rw [eS4]; exact hk_a0
    have hk_b2 : m_kd S4 b2 = 100 := by rw [eS4]; exact hk_b2
    have hk_b3 : m_kd S4 b3 = 100 := by rw [eS4]; exact hk_b3
    obtain ⟨v5, ev5⟩ : ∃ z : Int32, z = x1 + (1 : Int32) := ⟨_, rfl⟩
    refine mj_iinc (v := v5) dX11_keep_36 rfl (by rw [ev5]; rfl) (by decide) rfl rfl ?_
    replace h := h v5 ev5
    refine mj_goto (tgt := 13) dX11_keep_39 (by decide) ?_
    exact h
set_option maxRecDepth 20000 in
set_option maxHeartbeats 1000000 in
theorem b_X11_keep_54 {l : Launch} {G : mj_G} {a0 : Nat} {x1 : Int32} {S : mj_S} {Q : mj_S → Prop} (hk_a0 : m_kd S a0 = 10) (h : (((199 : Int32) ≤ x1) → ∀ S1 : mj_S, S1 = m_si S a0 37 ((m_gi S a0 37) + (1 : Int32)) → Q S1) ∧ ((¬ ((199 : Int32) ≤ x1)) → ∃ b2, m_gp S a0 36 = some b2 ∧ (∃ b3, m_gp S a0 28 = some b3 ∧ (vp_in x1 (m_ln S b3) ∧ (vp_in (((199 : Int32) * (m_gi S a0 37)) + x1) (m_ln S b2) ∧ (∀ S4 : mj_S, S4 = m_si S b2 ((((199 : Int32) * (m_gi S a0 37)) + x1)).toNatClampNeg (m_gi S b3 (x1).toNatClampNeg) → ∀ v5 : Int32, v5 = x1 + (1 : Int32) → V_X11_keep_54 l G a0 v5 S4 Q)))))) : V_X11_keep_54 l G a0 x1 S Q := by
  refine mj_iload_n dX11_keep_54 rfl rfl ?_
  refine mj_sipush (v := 199) dX11_keep_55 (by decide) ?_
  refine mj_icmp_ge (tgt := 88) dX11_keep_58 (by decide) ⟨fun hc => ?_, fun hc => ?_⟩
  · replace h := h.1 hc
    refine mj_aload_n dX11_keep_88 rfl rfl ?_
    refine mj_dup dX11_keep_89 rfl ?_
    refine mj_getI dX11_keep_90 fl_X11_282_10 hk_a0 rfl ?_
    refine mj_iconst (v := 1) dX11_keep_93 (by decide) ?_
    refine mj_iadd dX11_keep_94 ?_
    refine mj_putI dX11_keep_95 fl_X11_282_10 hk_a0 (Or.inl rfl) rfl rfl rfl ?_
    obtain ⟨S1, eS1⟩ : ∃ z, z = m_si S a0 37 ((m_gi S a0 37) + (1 : Int32)) := ⟨_, rfl⟩
    rw [← eS1]
    replace h := h S1 eS1
    have hk_a0 : m_kd S1 a0 = 10 := by rw [eS1]; exact hk_a0
    exact mj_retv dX11_keep_98 rfl ⟨Nat.le_of_ble_eq_true rfl, Nat.le_of_ble_eq_true rfl⟩ h
  · replace h := h.2 hc
    refine mj_aload_n dX11_keep_61 rfl rfl ?_
    obtain ⟨b2, eb2, h⟩ := h
    refine mj_getP dX11_keep_62 fl_X11_80_10 hk_a0 rfl ⟨b2, eb2, fun hk_b2 => ?_⟩
    refine mj_sipush (v := 199) dX11_keep_65 (by decide) ?_
    refine mj_aload_n dX11_keep_68 rfl rfl ?_
    refine mj_getI dX11_keep_69 fl_X11_282_10 hk_a0 rfl ?_
    refine mj_imul dX11_keep_72 ?_
    refine mj_iload_n dX11_keep_73 rfl rfl ?_
    refine mj_iadd dX11_keep_74 ?_
    refine mj_aload_n dX11_keep_75 rfl rfl ?_
    obtain ⟨b3, eb3, h⟩ := h
    refine mj_getP dX11_keep_76 fl_X11_58_10 hk_a0 rfl ⟨b3, eb3, fun hk_b3 => ?_⟩
    refine mj_iload_n dX11_keep_79 rfl rfl ?_
    refine mj_iald dX11_keep_80 (Or.inl hk_b3) ⟨h.1, ?_⟩
    replace h := h.2
    refine mj_iast dX11_keep_81 hk_b2 ⟨h.1, ?_⟩
    replace h := h.2
    obtain ⟨S4, eS4⟩ : ∃ z, z = m_si S b2 ((((199 : Int32) * (m_gi S a0 37)) + x1)).toNatClampNeg (m_gi S b3 (x1).toNatClampNeg) := ⟨_, rfl⟩
    rw [← eS4]
    replace h := h S4 eS4
    have hk_a0 : m_kd S4 a0 = 10 := by rw [eS4]; exact hk_a0
    have hk_b2 : m_kd S4 b2 = 100 := by rw [eS4]; exact hk_b2
    have hk_b3 : m_kd S4 b3 = 100 := by rw [eS4]; exact hk_b3
    obtain ⟨v5, ev5⟩ : ∃ z : Int32, z = x1 + (1 : Int32) := ⟨_, rfl⟩
    refine mj_iinc (v := v5) dX11_keep_82 rfl (by rw [ev5]; rfl) (by decide) rfl rfl ?_
    replace h := h v5 ev5
    refine mj_goto (tgt := 54) dX11_keep_85 (by decide) ?_
    exact h
abbrev V_X11_isRefused_0 (l : Launch) (G : mj_G) (a0 : Nat) (x1 : Int32) (S : mj_S) (Q : mj_S → Int32 → Prop) : Prop := mj_V l G (mj_room 1 0 0) RX11 cX11_isRefused 2 (some .boolean) false 0 [some (.ref a0), some (.int x1)] [] S 0 0 (mj_std G (some .boolean) (mj_room 1 0 0) (mj_qi Q))
abbrev V_X11_isRefused_15 (l : Launch) (G : mj_G) (x1 : Int32) (S : mj_S) (Q : mj_S → Int32 → Prop) : Prop := mj_V l G (mj_room 1 0 0) RX11 cX11_isRefused 2 (some .boolean) false 15 [none, some (.int x1)] [] S 0 0 (mj_std G (some .boolean) (mj_room 1 0 0) (mj_qi Q))
theorem e_X11_isRefused {l : Launch} {G : mj_G} {a0 : Nat} {x1 : Int32} {S : mj_S} {Q : mj_S → Int32 → Prop} (h : V_X11_isRefused_0 l G a0 x1 S Q) : M_X11_isRefused l G a0 x1 S Q := mj_enter (r := 0) (ini := false) (by decide +kernel) (fun h => by cases h) (fun _ => Nat.le_of_ble_eq_true rfl) rfl h
set_option maxRecDepth 20000 in
set_option maxHeartbeats 1000000 in
theorem b_X11_isRefused_0 {l : Launch} {G : mj_G} {a0 : Nat} {x1 : Int32} {S : mj_S} {Q : mj_S → Int32 → Prop} (hk_a0 : m_kd S a0 = 10) (h : ((x1 = (-1 : Int32)) → V_X11_isRefused_15 l G x1 S Q) ∧ ((¬ (x1 = (-1 : Int32))) → ∃ b1, m_gp S a0 29 = some b1 ∧ (vp_in x1 (m_ln S b1) ∧ (vp_in x1 (m_ln S b1) ∧ (∀ S2 : mj_S, S2 = m_si S b1 (x1).toNatClampNeg ((m_gi S b1 (x1).toNatClampNeg) + (1 : Int32)) → V_X11_isRefused_15 l G x1 S2 Q))))) : V_X11_isRefused_0 l G a0 x1 S Q := by
  refine mj_iload_n dX11_isRefused_0 rfl rfl ?_
  refine mj_iconst (v := (-1)) dX11_isRefused_1 (by decide) ?_
  refine mj_icmp_eq (tgt := 15) dX11_isRefused_2 (by decide) ⟨fun hc => ?_, fun hc => ?_⟩
  · replace h := h.1 hc
    exact mj_lessm [false, true] rfl h
  · replace h := h.2 hc
    refine mj_aload_n dX11_isRefused_5 rfl rfl ?_
    obtain ⟨b1, eb1, h⟩ := h
    refine mj_getP dX11_isRefused_6 fl_X11_61_10 hk_a0 rfl ⟨b1, eb1, fun hk_b1 => ?_⟩
    refine mj_iload_n dX11_isRefused_9 rfl rfl ?_
    refine mj_dup2 dX11_isRefused_10 rfl rfl ?_
    refine mj_iald dX11_isRefused_11 (Or.inl hk_b1) ⟨h.1, ?_⟩
    replace h := h.2
    refine mj_iconst (v := 1) dX11_isRefused_12 (by decide) ?_
    refine mj_iadd dX11_isRefused_13 ?_
    refine mj_iast dX11_isRefused_14 hk_b1 ⟨h.1, ?_⟩
    replace h := h.2
    obtain ⟨S2, eS2⟩ : ∃ z, z = m_si S b1 (x1).toNatClampNeg ((m_gi S b1 (x1).toNatClampNeg) + (1 : Int32)) := ⟨_, rfl⟩
    rw [← eS2]
    replace h := h S2 eS2
    have hk_a0 : m_kd S2 a0 = 10 := by rw [eS2]; exact hk_a0
    have hk_b1 : m_kd S2 b1 = 100 := by rw [eS2]; exact hk_b1
    exact mj_lessm [false, true] rfl h
set_option maxRecDepth 20000 in
set_option maxHeartbeats 1000000 in
theorem b_X11_isRefused_15 {l : Launch} {G : mj_G} {x1 : Int32} {S : mj_S} {Q : mj_S → Int32 → Prop} (h : ((x1 = (-1 : Int32)) → Q S (0 : Int32)) ∧ ((¬ (x1 = (-1 : Int32))) → Q S (1 : Int32))) : V_X11_isRefused_15 l G x1 S Q := by
  refine mj_iload_n dX11_isRefused_15 rfl rfl ?_
  refine mj_iconst (v := (-1)) dX11_isRefused_16 (by decide) ?_
  refine mj_icmp_eq (tgt := 24) dX11_isRefused_17 (by decide) ⟨fun hc => ?_, fun hc => ?_⟩
  · replace h := h.1 hc
    refine mj_iconst (v := 0) dX11_isRefused_24 (by decide) ?_
    exact mj_retz dX11_isRefused_25 rfl (rfl) ⟨Nat.le_of_ble_eq_true rfl, Nat.le_of_ble_eq_true rfl⟩ h
  · replace h := h.2 hc
    refine mj_iconst (v := 1) dX11_isRefused_20 (by decide) ?_
    refine mj_goto (tgt := 25) dX11_isRefused_21 (by decide) ?_
    exact mj_retz dX11_isRefused_25 rfl (rfl) ⟨Nat.le_of_ble_eq_true rfl, Nat.le_of_ble_eq_true rfl⟩ h
abbrev V_X11_hasRight_0 (l : Launch) (G : mj_G) (a0 : Nat) (x1 : Int32) (x2 : Int32) (S : mj_S) (Q : mj_S → Int32 → Prop) : Prop := mj_V l G (mj_room 6 0 0) RX11 cX11_hasRight 4 (some .boolean) false 0 [some (.ref a0), some (.int x1), some (.int x2), none] [] S 0 0 (mj_std G (some .boolean) (mj_room 6 0 0) (mj_qi Q))
theorem e_X11_hasRight {l : Launch} {G : mj_G} {a0 : Nat} {x1 : Int32} {x2 : Int32} {S : mj_S} {Q : mj_S → Int32 → Prop} (h : V_X11_hasRight_0 l G a0 x1 x2 S Q) : M_X11_hasRight l G a0 x1 x2 S Q := mj_enter (r := 1) (ini := false) (by decide +kernel) (fun h => by cases h) (fun _ => Nat.le_of_ble_eq_true rfl) rfl h
set_option maxRecDepth 20000 in
set_option maxHeartbeats 1000000 in
theorem b_X11_hasRight_0 {l : Launch} {G : mj_G} {a0 : Nat} {x1 : Int32} {x2 : Int32} {S : mj_S} {Q : mj_S → Int32 → Prop} (hk_a0 : m_kd S a0 = 10) (h : ∃ b1, m_gp S a0 28 = some b1 ∧ (vp_in ((11 : Int32) + x1) (m_ln S b1) ∧ (M_X11_stateOf l G a0 (m_gi S b1 (((11 : Int32) + x1)).toNatClampNeg) S (fun S2 r3 => M_X11_firstSide l G a0 x2 S2 (fun S4 r5 => M_X11_has l G r3 r5 S4 (fun S6 r7 => ((¬ r7 = 0) → Q S6 (1 : Int32)) ∧ ((r7 = 0) → M_X11_secondSide l G a0 x2 S6 (fun S8 r9 => M_X11_has l G r3 r9 S8 (fun S10 r11 => ((r11 = 0) → Q S10 (0 : Int32)) ∧ ((¬ (r11 = 0)) → Q S10 (1 : Int32))))))))))) : V_X11_hasRight_0 l G a0 x1 x2 S Q := by
  refine mj_aload_n dX11_hasRight_0 rfl rfl ?_
  refine mj_aload_n dX11_hasRight_1 rfl rfl ?_
  obtain ⟨b1, eb1, h⟩ := h
  refine mj_getP dX11_hasRight_2 fl_X11_58_10 hk_a0 rfl ⟨b1, eb1, fun hk_b1 => ?_⟩
  refine mj_bipush (v := 11) dX11_hasRight_5 (by decide) ?_
  refine mj_iload_n dX11_hasRight_7 rfl rfl ?_
  refine mj_iadd dX11_hasRight_8 ?_
  refine mj_iald dX11_hasRight_9 (Or.inl hk_b1) ⟨h.1, ?_⟩
  replace h := h.2
  refine mj_callVi (as := [.int (m_gi S b1 (((11 : Int32) + x1)).toNatClampNeg)]) (st := []) dX11_hasRight_10 cal_X11_stateOf lk_X11_328 im_X11_stateOf se_X11_stateOf (ci := 10) rfl (by decide) hk_a0 h rfl (Nat.le_of_ble_eq_true rfl) (by decide) ⟨Nat.le_of_ble_eq_true rfl, Nat.le_of_ble_eq_true rfl⟩ (fun S2 r3 h hn_r3 hp => ?_)
  have hk_a0 : m_kd S2 a0 = 10 := m_kd_pre hp hk_a0 (by decide)
  have hk_b1 : m_kd S2 b1 = 100 := m_kd_pre hp hk_b1 (by decide)
  refine mj_istore_n dX11_hasRight_13 rfl (by decide) rfl rfl ?_
  refine mj_iload_n dX11_hasRight_14 rfl rfl ?_
  refine mj_aload_n dX11_hasRight_15 rfl rfl ?_
  refine mj_iload_n dX11_hasRight_16 rfl rfl ?_
  refine mj_callVi (as := [.int x2]) (st := [.int r3]) dX11_hasRight_17 cal_X11_firstSide lk_X11_301 im_X11_firstSide se_X11_firstSide (ci := 10) rfl (by decide) hk_a0 h rfl (Nat.le_of_ble_eq_true rfl) (by decide) ⟨Nat.le_of_ble_eq_true rfl, Nat.le_of_ble_eq_true rfl⟩ (fun S4 r5 h hn_r5 hp => ?_)
  have hk_a0 : m_kd S4 a0 = 10 := m_kd_pre hp hk_a0 (by decide)
  have hk_b1 : m_kd S4 b1 = 100 := m_kd_pre hp hk_b1 (by decide)
  refine mj_callSi (as := [.int r3, .int r5]) (st := []) dX11_hasRight_20 cal_X11_has lk_X11_228 sm_X11_has h rfl (Nat.le_of_ble_eq_true rfl) (by decide) ⟨Nat.le_of_ble_eq_true rfl, Nat.le_of_ble_eq_true rfl⟩ (fun S6 r7 h hn_r7 hp => ?_)
  have hk_a0 : m_kd S6 a0 = 10 := m_kd_pre hp hk_a0 (by decide)
  have hk_b1 : m_kd S6 b1 = 100 := m_kd_pre hp hk_b1 (by decide)
  refine mj_if_ne (tgt := 38) dX11_hasRight_23 (by decide) ⟨fun hc => ?_, fun hc => ?_⟩
  · replace h := h.1 hc
    refine mj_iconst (v := 1) dX11_hasRight_38 (by decide) ?_
    refine mj_goto (tgt := 43) dX11_hasRight_39 (by decide) ?_
    exact mj_retz dX11_hasRight_43 rfl (rfl) ⟨Nat.le_of_ble_eq_true rfl, Nat.le_of_ble_eq_true rfl⟩ h
  · replace h := h.2 hc
    refine mj_iload_n dX11_hasRight_26 rfl rfl ?_
    refine mj_aload_n dX11_hasRight_27 rfl rfl ?_
    refine mj_iload_n dX11_hasRight_28 rfl rfl ?_
    refine mj_callVi (as := [.int x2]) (st := [.int r3]) dX11_hasRight_29 cal_X11_secondSide lk_X11_304 im_X11_secondSide se_X11_secondSide (ci := 10) rfl (by decide) hk_a0 h rfl (Nat.le_of_ble_eq_true rfl) (by decide) ⟨Nat.le_of_ble_eq_true rfl, Nat.le_of_ble_eq_true rfl⟩ (fun S8 r9 h hn_r9 hp => ?_)
    have hk_a0 : m_kd S8 a0 = 10 := m_kd_pre hp hk_a0 (by decide)
    have hk_b1 : m_kd S8 b1 = 100 := m_kd_pre hp hk_b1 (by decide)
    refine mj_callSi (as := [.int r3, .int r9]) (st := []) dX11_hasRight_32 cal_X11_has lk_X11_228 sm_X11_has h rfl (Nat.le_of_ble_eq_true rfl) (by decide) ⟨Nat.le_of_ble_eq_true rfl, Nat.le_of_ble_eq_true rfl⟩ (fun S10 r11 h hn_r11 hp => ?_)
    have hk_a0 : m_kd S10 a0 = 10 := m_kd_pre hp hk_a0 (by decide)
    have hk_b1 : m_kd S10 b1 = 100 := m_kd_pre hp hk_b1 (by decide)
    refine mj_if_eq (tgt := 42) dX11_hasRight_35 (by decide) ⟨fun hc => ?_, fun hc => ?_⟩
    · replace h := h.1 hc
      refine mj_iconst (v := 0) dX11_hasRight_42 (by decide) ?_
      exact mj_retz dX11_hasRight_43 rfl (rfl) ⟨Nat.le_of_ble_eq_true rfl, Nat.le_of_ble_eq_true rfl⟩ h
    · replace h := h.2 hc
      refine mj_iconst (v := 1) dX11_hasRight_38 (by decide) ?_
      refine mj_goto (tgt := 43) dX11_hasRight_39 (by decide) ?_
      exact mj_retz dX11_hasRight_43 rfl (rfl) ⟨Nat.le_of_ble_eq_true rfl, Nat.le_of_ble_eq_true rfl⟩ h
abbrev V_X11_pull_0 (l : Launch) (G : mj_G) (a0 : Nat) (x1 : Int32) (x2 : Int32) (x3 : Int32) (S : mj_S) (Q : mj_S → Int32 → Prop) : Prop := mj_V l G (mj_room 7 0 0) RX11 cX11_pull 5 (some .int) false 0 [some (.ref a0), some (.int x1), some (.int x2), some (.int x3), none] [] S 0 0 (mj_std G (some .int) (mj_room 7 0 0) (mj_qi Q))
abbrev V_X11_pull_62 (l : Launch) (G : mj_G) (a0 : Nat) (x2 : Int32) (x4 : Int32) (S : mj_S) (Q : mj_S → Int32 → Prop) : Prop := mj_V l G (mj_room 7 0 0) RX11 cX11_pull 5 (some .int) false 62 [some (.ref a0), none, some (.int x2), none, some (.int x4)] [] S 0 0 (mj_std G (some .int) (mj_room 7 0 0) (mj_qi Q))
theorem e_X11_pull {l : Launch} {G : mj_G} {a0 : Nat} {x1 : Int32} {x2 : Int32} {x3 : Int32} {S : mj_S} {Q : mj_S → Int32 → Prop} (h : V_X11_pull_0 l G a0 x1 x2 x3 S Q) : M_X11_pull l G a0 x1 x2 x3 S Q := mj_enter (r := 1) (ini := false) (by decide +kernel) (fun h => by cases h) (fun _ => Nat.le_of_ble_eq_true rfl) rfl h
set_option maxRecDepth 20000 in
set_option maxHeartbeats 1000000 in
theorem b_X11_pull_0 {l : Launch} {G : mj_G} {a0 : Nat} {x1 : Int32} {x2 : Int32} {x3 : Int32} {S : mj_S} {Q : mj_S → Int32 → Prop} (hk_a0 : m_kd S a0 = 10) (h : M_X11_isPerson l G a0 x1 S (fun S1 r2 => ((r2 = 0) → V_X11_pull_62 l G a0 x2 (0 : Int32) S1 Q) ∧ ((¬ (r2 = 0)) → M_X11_isCurtain l G a0 x2 S1 (fun S3 r4 => ((r4 = 0) → V_X11_pull_62 l G a0 x2 (0 : Int32) S3 Q) ∧ ((¬ (r4 = 0)) → M_X11_hasRight l G a0 x1 x2 S3 (fun S5 r6 => ((r6 = 0) → V_X11_pull_62 l G a0 x2 (2 : Int32) S5 Q) ∧ ((¬ (r6 = 0)) → ∃ b7, m_gp S5 a0 28 = some b7 ∧ (vp_in (10 : Int32) (m_ln S5 b7) ∧ (M_X11_has l G (m_gi S5 b7 ((10 : Int32)).toNatClampNeg) x2 S5 (fun S8 r9 => ((¬ r9 = x3) → M_X11_isFallen l G a0 x2 S8 (fun S10 r11 => ((r11 = 0) → V_X11_pull_62 l G a0 x2 (-1 : Int32) S10 Q) ∧ ((¬ (r11 = 0)) → V_X11_pull_62 l G a0 x2 (3 : Int32) S10 Q))) ∧ ((r9 = x3) → V_X11_pull_62 l G a0 x2 (2 : Int32) S8 Q))))))))))) : V_X11_pull_0 l G a0 x1 x2 x3 S Q := by
  refine mj_iconst (v := 0) dX11_pull_0 (by decide) ?_
  refine mj_istore dX11_pull_1 (by decide) rfl rfl ?_
  refine mj_aload_n dX11_pull_3 rfl rfl ?_
  refine mj_iload_n dX11_pull_4 rfl rfl ?_
  refine mj_callVi (as := [.int x1]) (st := []) dX11_pull_5 cal_X11_isPerson lk_X11_344 im_X11_isPerson se_X11_isPerson (ci := 10) rfl (by decide) hk_a0 h rfl (Nat.le_of_ble_eq_true rfl) (by decide) ⟨Nat.le_of_ble_eq_true rfl, Nat.le_of_ble_eq_true rfl⟩ (fun S1 r2 h hn_r2 hp => ?_)
  have hk_a0 : m_kd S1 a0 = 10 := m_kd_pre hp hk_a0 (by decide)
  refine mj_if_eq (tgt := 62) dX11_pull_8 (by decide) ⟨fun hc => ?_, fun hc => ?_⟩
  · replace h := h.1 hc
    exact mj_lessm [true, false, true, false, true] rfl h
  · replace h := h.2 hc
    refine mj_aload_n dX11_pull_11 rfl rfl ?_
    refine mj_iload_n dX11_pull_12 rfl rfl ?_
    refine mj_callVi (as := [.int x2]) (st := []) dX11_pull_13 cal_X11_isCurtain lk_X11_295 im_X11_isCurtain se_X11_isCurtain (ci := 10) rfl (by decide) hk_a0 h rfl (Nat.le_of_ble_eq_true rfl) (by decide) ⟨Nat.le_of_ble_eq_true rfl, Nat.le_of_ble_eq_true rfl⟩ (fun S3 r4 h hn_r4 hp => ?_)
    have hk_a0 : m_kd S3 a0 = 10 := m_kd_pre hp hk_a0 (by decide)
    refine mj_if_eq (tgt := 62) dX11_pull_16 (by decide) ⟨fun hc => ?_, fun hc => ?_⟩
    · replace h := h.1 hc
      exact mj_lessm [true, false, true, false, true] rfl h
    · replace h := h.2 hc
      refine mj_aload_n dX11_pull_19 rfl rfl ?_
      refine mj_iload_n dX11_pull_20 rfl rfl ?_
      refine mj_iload_n dX11_pull_21 rfl rfl ?_
      refine mj_callVi (as := [.int x1, .int x2]) (st := []) dX11_pull_22 cal_X11_hasRight lk_X11_353 im_X11_hasRight se_X11_hasRight (ci := 10) rfl (by decide) hk_a0 h rfl (Nat.le_of_ble_eq_true rfl) (by decide) ⟨Nat.le_of_ble_eq_true rfl, Nat.le_of_ble_eq_true rfl⟩ (fun S5 r6 h hn_r6 hp => ?_)
      have hk_a0 : m_kd S5 a0 = 10 := m_kd_pre hp hk_a0 (by decide)
      refine mj_if_eq (tgt := 43) dX11_pull_25 (by decide) ⟨fun hc => ?_, fun hc => ?_⟩
      · replace h := h.1 hc
        refine mj_iconst (v := 2) dX11_pull_43 (by decide) ?_
        refine mj_goto (tgt := 60) dX11_pull_44 (by decide) ?_
        refine mj_istore dX11_pull_60 (by decide) rfl rfl ?_
        exact mj_lessm [true, false, true, false, true] rfl h
      · replace h := h.2 hc
        refine mj_aload_n dX11_pull_28 rfl rfl ?_
        obtain ⟨b7, eb7, h⟩ := h
        refine mj_getP dX11_pull_29 fl_X11_58_10 hk_a0 rfl ⟨b7, eb7, fun hk_b7 => ?_⟩
        refine mj_bipush (v := 10) dX11_pull_32 (by decide) ?_
        refine mj_iald dX11_pull_34 (Or.inl hk_b7) ⟨h.1, ?_⟩
        replace h := h.2
        refine mj_iload_n dX11_pull_35 rfl rfl ?_
        refine mj_callSi (as := [.int (m_gi S5 b7 ((10 : Int32)).toNatClampNeg), .int x2]) (st := []) dX11_pull_36 cal_X11_has lk_X11_228 sm_X11_has h rfl (Nat.le_of_ble_eq_true rfl) (by decide) ⟨Nat.le_of_ble_eq_true rfl, Nat.le_of_ble_eq_true rfl⟩ (fun S8 r9 h hn_r9 hp => ?_)
        have hk_a0 : m_kd S8 a0 = 10 := m_kd_pre hp hk_a0 (by decide)
        have hk_b7 : m_kd S8 b7 = 100 := m_kd_pre hp hk_b7 (by decide)
        refine mj_iload_n dX11_pull_39 rfl rfl ?_
        refine mj_icmp_ne (tgt := 47) dX11_pull_40 (by decide) ⟨fun hc => ?_, fun hc => ?_⟩
        · replace h := h.1 hc
          refine mj_aload_n dX11_pull_47 rfl rfl ?_
          refine mj_iload_n dX11_pull_48 rfl rfl ?_
          refine mj_callVi (as := [.int x2]) (st := []) dX11_pull_49 cal_X11_isFallen lk_X11_298 im_X11_isFallen se_X11_isFallen (ci := 10) rfl (by decide) hk_a0 h rfl (Nat.le_of_ble_eq_true rfl) (by decide) ⟨Nat.le_of_ble_eq_true rfl, Nat.le_of_ble_eq_true rfl⟩ (fun S10 r11 h hn_r11 hp => ?_)
          have hk_a0 : m_kd S10 a0 = 10 := m_kd_pre hp hk_a0 (by decide)
          have hk_b7 : m_kd S10 b7 = 100 := m_kd_pre hp hk_b7 (by decide)
          refine mj_if_eq (tgt := 59) dX11_pull_52 (by decide) ⟨fun hc => ?_, fun hc => ?_⟩
          · replace h := h.1 hc
            refine mj_iconst (v := (-1)) dX11_pull_59 (by decide) ?_
            refine mj_istore dX11_pull_60 (by decide) rfl rfl ?_
            exact mj_lessm [true, false, true, false, true] rfl h
          · replace h := h.2 hc
            refine mj_iconst (v := 3) dX11_pull_55 (by decide) ?_
            refine mj_goto (tgt := 60) dX11_pull_56 (by decide) ?_
            refine mj_istore dX11_pull_60 (by decide) rfl rfl ?_
            exact mj_lessm [true, false, true, false, true] rfl h
        · replace h := h.2 hc
          refine mj_iconst (v := 2) dX11_pull_43 (by decide) ?_
          refine mj_goto (tgt := 60) dX11_pull_44 (by decide) ?_
          refine mj_istore dX11_pull_60 (by decide) rfl rfl ?_
          exact mj_lessm [true, false, true, false, true] rfl h
set_option maxRecDepth 20000 in
set_option maxHeartbeats 1000000 in
theorem b_X11_pull_62 {l : Launch} {G : mj_G} {a0 : Nat} {x2 : Int32} {x4 : Int32} {S : mj_S} {Q : mj_S → Int32 → Prop} (hk_a0 : m_kd S a0 = 10) (h : M_X11_isRefused l G a0 x4 S (fun S1 r2 => ((r2 = 0) → M_X11_keep l G a0 S1 (fun S3 => ∃ b4, m_gp S3 a0 28 = some b4 ∧ (vp_in (10 : Int32) (m_ln S3 b4) ∧ (vp_in (10 : Int32) (m_ln S3 b4) ∧ (∀ S5 : mj_S, S5 = m_si S3 b4 ((10 : Int32)).toNatClampNeg ((m_gi S3 b4 ((10 : Int32)).toNatClampNeg) ^^^ ((1 : Int32) <<< (x2 &&& 31))) → M_X11_states l G a0 S5 (fun S6 r7 => Q S6 r7)))))) ∧ ((¬ (r2 = 0)) → Q S1 (-1 : Int32)))) : V_X11_pull_62 l G a0 x2 x4 S Q := by
  refine mj_aload_n dX11_pull_62 rfl rfl ?_
  refine mj_iload dX11_pull_63 rfl ?_
  refine mj_callVi (as := [.int x4]) (st := []) dX11_pull_65 cal_X11_isRefused lk_X11_356 im_X11_isRefused se_X11_isRefused (ci := 10) rfl (by decide) hk_a0 h rfl (Nat.le_of_ble_eq_true rfl) (by decide) ⟨Nat.le_of_ble_eq_true rfl, Nat.le_of_ble_eq_true rfl⟩ (fun S1 r2 h hn_r2 hp => ?_)
  have hk_a0 : m_kd S1 a0 = 10 := m_kd_pre hp hk_a0 (by decide)
  refine mj_if_eq (tgt := 73) dX11_pull_68 (by decide) ⟨fun hc => ?_, fun hc => ?_⟩
  · replace h := h.1 hc
    refine mj_aload_n dX11_pull_73 rfl rfl ?_
    refine mj_callVv (as := []) (st := []) dX11_pull_74 cal_X11_keep lk_X11_359 im_X11_keep se_X11_keep (ci := 10) rfl (by decide) hk_a0 h rfl (Nat.le_of_ble_eq_true rfl) (by decide) ⟨Nat.le_of_ble_eq_true rfl, Nat.le_of_ble_eq_true rfl⟩ (fun S3 h hp => ?_)
    have hk_a0 : m_kd S3 a0 = 10 := m_kd_pre hp hk_a0 (by decide)
    refine mj_aload_n dX11_pull_77 rfl rfl ?_
    obtain ⟨b4, eb4, h⟩ := h
    refine mj_getP dX11_pull_78 fl_X11_58_10 hk_a0 rfl ⟨b4, eb4, fun hk_b4 => ?_⟩
    refine mj_bipush (v := 10) dX11_pull_81 (by decide) ?_
    refine mj_dup2 dX11_pull_83 rfl rfl ?_
    refine mj_iald dX11_pull_84 (Or.inl hk_b4) ⟨h.1, ?_⟩
    replace h := h.2
    refine mj_iconst (v := 1) dX11_pull_85 (by decide) ?_
    refine mj_iload_n dX11_pull_86 rfl rfl ?_
    refine mj_ishl dX11_pull_87 ?_
    refine mj_ixor dX11_pull_88 ?_
    refine mj_iast dX11_pull_89 hk_b4 ⟨h.1, ?_⟩
    replace h := h.2
    obtain ⟨S5, eS5⟩ : ∃ z, z = m_si S3 b4 ((10 : Int32)).toNatClampNeg ((m_gi S3 b4 ((10 : Int32)).toNatClampNeg) ^^^ ((1 : Int32) <<< (x2 &&& 31))) := ⟨_, rfl⟩
    rw [← eS5]
    replace h := h S5 eS5
    have hk_a0 : m_kd S5 a0 = 10 := by rw [eS5]; exact hk_a0
    have hk_b4 : m_kd S5 b4 = 100 := by rw [eS5]; exact hk_b4
    refine mj_aload_n dX11_pull_90 rfl rfl ?_
    refine mj_callVi (as := []) (st := []) dX11_pull_91 cal_X11_states lk_X11_362 im_X11_states se_X11_states (ci := 10) rfl (by decide) hk_a0 h rfl (Nat.le_of_ble_eq_true rfl) (by decide) ⟨Nat.le_of_ble_eq_true rfl, Nat.le_of_ble_eq_true rfl⟩ (fun S6 r7 h hn_r7 hp => ?_)
    have hk_a0 : m_kd S6 a0 = 10 := m_kd_pre hp hk_a0 (by decide)
    have hk_b4 : m_kd S6 b4 = 100 := m_kd_pre hp hk_b4 (by decide)
    exact mj_reti dX11_pull_94 rfl ⟨Nat.le_of_ble_eq_true rfl, Nat.le_of_ble_eq_true rfl⟩ h
  · replace h := h.2 hc
    refine mj_iconst (v := (-1)) dX11_pull_71 (by decide) ?_
    exact mj_reti dX11_pull_72 rfl ⟨Nat.le_of_ble_eq_true rfl, Nat.le_of_ble_eq_true rfl⟩ h
abbrev V_X11_go_0 (l : Launch) (G : mj_G) (a0 : Nat) (x1 : Int32) (x2 : Int32) (S : mj_S) (Q : mj_S → Int32 → Prop) : Prop := mj_V l G (mj_room 7 0 0) RX11 cX11_go 4 (some .int) false 0 [some (.ref a0), some (.int x1), some (.int x2), none] [] S 0 0 (mj_std G (some .int) (mj_room 7 0 0) (mj_qi Q))
abbrev V_X11_go_57 (l : Launch) (G : mj_G) (a0 : Nat) (x1 : Int32) (x2 : Int32) (x3 : Int32) (S : mj_S) (Q : mj_S → Int32 → Prop) : Prop := mj_V l G (mj_room 7 0 0) RX11 cX11_go 4 (some .int) false 57 [some (.ref a0), some (.int x1), some (.int x2), some (.int x3)] [] S 0 0 (mj_std G (some .int) (mj_room 7 0 0) (mj_qi Q))
theorem e_X11_go {l : Launch} {G : mj_G} {a0 : Nat} {x1 : Int32} {x2 : Int32} {S : mj_S} {Q : mj_S → Int32 → Prop} (h : V_X11_go_0 l G a0 x1 x2 S Q) : M_X11_go l G a0 x1 x2 S Q := mj_enter (r := 1) (ini := false) (by decide +kernel) (fun h => by cases h) (fun _ => Nat.le_of_ble_eq_true rfl) rfl h
set_option maxRecDepth 20000 in
set_option maxHeartbeats 1000000 in
theorem b_X11_go_0 {l : Launch} {G : mj_G} {a0 : Nat} {x1 : Int32} {x2 : Int32} {S : mj_S} {Q : mj_S → Int32 → Prop} (hk_a0 : m_kd S a0 = 10) (h : M_X11_isPerson l G a0 x1 S (fun S1 r2 => ((r2 = 0) → V_X11_go_57 l G a0 x1 x2 (0 : Int32) S1 Q) ∧ ((¬ (r2 = 0)) → M_X11_isSquare l G a0 x2 S1 (fun S3 r4 => ((r4 = 0) → V_X11_go_57 l G a0 x1 x2 (0 : Int32) S3 Q) ∧ ((¬ (r4 = 0)) → ∃ b5, m_gp S3 a0 28 = some b5 ∧ (vp_in ((11 : Int32) + x1) (m_ln S3 b5) ∧ ((((m_gi S3 b5 (((11 : Int32) + x1)).toNatClampNeg) = x2) → V_X11_go_57 l G a0 x1 x2 (2 : Int32) S3 Q) ∧ ((¬ ((m_gi S3 b5 (((11 : Int32) + x1)).toNatClampNeg) = x2)) → ∃ b6, m_gp S3 a0 28 = some b6 ∧ (vp_in ((11 : Int32) + x1) (m_ln S3 b6) ∧ (M_X11_stateOf l G a0 (m_gi S3 b6 (((11 : Int32) + x1)).toNatClampNeg) S3 (fun S7 r8 => M_X11_has l G r8 x2 S7 (fun S9 r10 => ((¬ r10 = 0) → V_X11_go_57 l G a0 x1 x2 (-1 : Int32) S9 Q) ∧ ((r10 = 0) → V_X11_go_57 l G a0 x1 x2 (2 : Int32) S9 Q))))))))))))) : V_X11_go_0 l G a0 x1 x2 S Q := by
  refine mj_iconst (v := 0) dX11_go_0 (by decide) ?_
  refine mj_istore_n dX11_go_1 rfl (by decide) rfl rfl ?_
  refine mj_aload_n dX11_go_2 rfl rfl ?_
  refine mj_iload_n dX11_go_3 rfl rfl ?_
  refine mj_callVi (as := [.int x1]) (st := []) dX11_go_4 cal_X11_isPerson lk_X11_344 im_X11_isPerson se_X11_isPerson (ci := 10) rfl (by decide) hk_a0 h rfl (Nat.le_of_ble_eq_true rfl) (by decide) ⟨Nat.le_of_ble_eq_true rfl, Nat.le_of_ble_eq_true rfl⟩ (fun S1 r2 h hn_r2 hp => ?_)
  have hk_a0 : m_kd S1 a0 = 10 := m_kd_pre hp hk_a0 (by decide)
  refine mj_if_eq (tgt := 57) dX11_go_7 (by decide) ⟨fun hc => ?_, fun hc => ?_⟩
  · replace h := h.1 hc
    exact h
  · replace h := h.2 hc
    refine mj_aload_n dX11_go_10 rfl rfl ?_
    refine mj_iload_n dX11_go_11 rfl rfl ?_
    refine mj_callVi (as := [.int x2]) (st := []) dX11_go_12 cal_X11_isSquare lk_X11_350 im_X11_isSquare se_X11_isSquare (ci := 10) rfl (by decide) hk_a0 h rfl (Nat.le_of_ble_eq_true rfl) (by decide) ⟨Nat.le_of_ble_eq_true rfl, Nat.le_of_ble_eq_true rfl⟩ (fun S3 r4 h hn_r4 hp => ?_)
    have hk_a0 : m_kd S3 a0 = 10 := m_kd_pre hp hk_a0 (by decide)
    refine mj_if_eq (tgt := 57) dX11_go_15 (by decide) ⟨fun hc => ?_, fun hc => ?_⟩
    · replace h := h.1 hc
      exact h
    · replace h := h.2 hc
      refine mj_aload_n dX11_go_18 rfl rfl ?_
      obtain ⟨b5, eb5, h⟩ := h
      refine mj_getP dX11_go_19 fl_X11_58_10 hk_a0 rfl ⟨b5, eb5, fun hk_b5 => ?_⟩
      refine mj_bipush (v := 11) dX11_go_22 (by decide) ?_
      refine mj_iload_n dX11_go_24 rfl rfl ?_
      refine mj_iadd dX11_go_25 ?_
      refine mj_iald dX11_go_26 (Or.inl hk_b5) ⟨h.1, ?_⟩
      replace h := h.2
      refine mj_iload_n dX11_go_27 rfl rfl ?_
      refine mj_icmp_eq (tgt := 51) dX11_go_28 (by decide) ⟨fun hc => ?_, fun hc => ?_⟩
      · replace h := h.1 hc
        refine mj_iconst (v := 2) dX11_go_51 (by decide) ?_
        refine mj_goto (tgt := 56) dX11_go_52 (by decide) ?_
        refine mj_istore_n dX11_go_56 rfl (by decide) rfl rfl ?_
        exact h
      · replace h := h.2 hc
        refine mj_aload_n dX11_go_31 rfl rfl ?_
        refine mj_aload_n dX11_go_32 rfl rfl ?_
        obtain ⟨b6, eb6, h⟩ := h
        refine mj_getP dX11_go_33 fl_X11_58_10 hk_a0 rfl ⟨b6, eb6, fun hk_b6 => ?_⟩
        refine mj_bipush (v := 11) dX11_go_36 (by decide) ?_
        refine mj_iload_n dX11_go_38 rfl rfl ?_
        refine mj_iadd dX11_go_39 ?_
        refine mj_iald dX11_go_40 (Or.inl hk_b6) ⟨h.1, ?_⟩
        replace h := h.2
        refine mj_callVi (as := [.int (m_gi S3 b6 (((11 : Int32) + x1)).toNatClampNeg)]) (st := []) dX11_go_41 cal_X11_stateOf lk_X11_328 im_X11_stateOf se_X11_stateOf (ci := 10) rfl (by decide) hk_a0 h rfl (Nat.le_of_ble_eq_true rfl) (by decide) ⟨Nat.le_of_ble_eq_true rfl, Nat.le_of_ble_eq_true rfl⟩ (fun S7 r8 h hn_r8 hp => ?_)
        have hk_a0 : m_kd S7 a0 = 10 := m_kd_pre hp hk_a0 (by decide)
        have hk_b5 : m_kd S7 b5 = 100 := m_kd_pre hp hk_b5 (by decide)
        have hk_b6 : m_kd S7 b6 = 100 := m_kd_pre hp hk_b6 (by decide)
        refine mj_iload_n dX11_go_44 rfl rfl ?_
        refine mj_callSi (as := [.int r8, .int x2]) (st := []) dX11_go_45 cal_X11_has lk_X11_228 sm_X11_has h rfl (Nat.le_of_ble_eq_true rfl) (by decide) ⟨Nat.le_of_ble_eq_true rfl, Nat.le_of_ble_eq_true rfl⟩ (fun S9 r10 h hn_r10 hp => ?_)
        have hk_a0 : m_kd S9 a0 = 10 := m_kd_pre hp hk_a0 (by decide)
        have hk_b5 : m_kd S9 b5 = 100 := m_kd_pre hp hk_b5 (by decide)
        have hk_b6 : m_kd S9 b6 = 100 := m_kd_pre hp hk_b6 (by decide)
        refine mj_if_ne (tgt := 55) dX11_go_48 (by decide) ⟨fun hc => ?_, fun hc => ?_⟩
        · replace h := h.1 hc
          refine mj_iconst (v := (-1)) dX11_go_55 (by decide) ?_
          refine mj_istore_n dX11_go_56 rfl (by decide) rfl rfl ?_
          exact h
        · replace h := h.2 hc
          refine mj_iconst (v := 2) dX11_go_51 (by decide) ?_
          refine mj_goto (tgt := 56) dX11_go_52 (by decide) ?_
          refine mj_istore_n dX11_go_56 rfl (by decide) rfl rfl ?_
          exact h
set_option maxRecDepth 20000 in
set_option maxHeartbeats 1000000 in
theorem b_X11_go_57 {l : Launch} {G : mj_G} {a0 : Nat} {x1 : Int32} {x2 : Int32} {x3 : Int32} {S : mj_S} {Q : mj_S → Int32 → Prop} (hk_a0 : m_kd S a0 = 10) (h : M_X11_isRefused l G a0 x3 S (fun S1 r2 => ((r2 = 0) → M_X11_keep l G a0 S1 (fun S3 => ∃ b4, m_gp S3 a0 28 = some b4 ∧ (vp_in ((11 : Int32) + x1) (m_ln S3 b4) ∧ (∀ S5 : mj_S, S5 = m_si S3 b4 (((11 : Int32) + x1)).toNatClampNeg x2 → M_X11_state l G a0 x2 S5 (fun S6 r7 => Q S6 r7))))) ∧ ((¬ (r2 = 0)) → Q S1 (-1 : Int32)))) : V_X11_go_57 l G a0 x1 x2 x3 S Q := by
  refine mj_aload_n dX11_go_57 rfl rfl ?_
  refine mj_iload_n dX11_go_58 rfl rfl ?_
  refine mj_callVi (as := [.int x3]) (st := []) dX11_go_59 cal_X11_isRefused lk_X11_356 im_X11_isRefused se_X11_isRefused (ci := 10) rfl (by decide) hk_a0 h rfl (Nat.le_of_ble_eq_true rfl) (by decide) ⟨Nat.le_of_ble_eq_true rfl, Nat.le_of_ble_eq_true rfl⟩ (fun S1 r2 h hn_r2 hp => ?_)
  have hk_a0 : m_kd S1 a0 = 10 := m_kd_pre hp hk_a0 (by decide)
  refine mj_if_eq (tgt := 67) dX11_go_62 (by decide) ⟨fun hc => ?_, fun hc => ?_⟩
  · replace h := h.1 hc
    refine mj_aload_n dX11_go_67 rfl rfl ?_
    refine mj_callVv (as := []) (st := []) dX11_go_68 cal_X11_keep lk_X11_359 im_X11_keep se_X11_keep (ci := 10) rfl (by decide) hk_a0 h rfl (Nat.le_of_ble_eq_true rfl) (by decide) ⟨Nat.le_of_ble_eq_true rfl, Nat.le_of_ble_eq_true rfl⟩ (fun S3 h hp => ?_)
    have hk_a0 : m_kd S3 a0 = 10 := m_kd_pre hp hk_a0 (by decide)
    refine mj_aload_n dX11_go_71 rfl rfl ?_
    obtain ⟨b4, eb4, h⟩ := h
    refine mj_getP dX11_go_72 fl_X11_58_10 hk_a0 rfl ⟨b4, eb4, fun hk_b4 => ?_⟩
    refine mj_bipush (v := 11) dX11_go_75 (by decide) ?_
    refine mj_iload_n dX11_go_77 rfl rfl ?_
    refine mj_iadd dX11_go_78 ?_
    refine mj_iload_n dX11_go_79 rfl rfl ?_
    refine mj_iast dX11_go_80 hk_b4 ⟨h.1, ?_⟩
    replace h := h.2
    obtain ⟨S5, eS5⟩ : ∃ z, z = m_si S3 b4 (((11 : Int32) + x1)).toNatClampNeg x2 := ⟨_, rfl⟩
    rw [← eS5]
    replace h := h S5 eS5
    have hk_a0 : m_kd S5 a0 = 10 := by rw [eS5]; exact hk_a0
    have hk_b4 : m_kd S5 b4 = 100 := by rw [eS5]; exact hk_b4
    refine mj_aload_n dX11_go_81 rfl rfl ?_
    refine mj_iload_n dX11_go_82 rfl rfl ?_
    refine mj_callVi (as := [.int x2]) (st := []) dX11_go_83 cal_X11_state lk_X11_365 im_X11_state se_X11_state (ci := 10) rfl (by decide) hk_a0 h rfl (Nat.le_of_ble_eq_true rfl) (by decide) ⟨Nat.le_of_ble_eq_true rfl, Nat.le_of_ble_eq_true rfl⟩ (fun S6 r7 h hn_r7 hp => ?_)
    have hk_a0 : m_kd S6 a0 = 10 := m_kd_pre hp hk_a0 (by decide)
    have hk_b4 : m_kd S6 b4 = 100 := m_kd_pre hp hk_b4 (by decide)
    exact mj_reti dX11_go_86 rfl ⟨Nat.le_of_ble_eq_true rfl, Nat.le_of_ble_eq_true rfl⟩ h
  · replace h := h.2 hc
    refine mj_iconst (v := (-1)) dX11_go_65 (by decide) ?_
    exact mj_reti dX11_go_66 rfl ⟨Nat.le_of_ble_eq_true rfl, Nat.le_of_ble_eq_true rfl⟩ h
abbrev V_X11_creep_0 (l : Launch) (G : mj_G) (a0 : Nat) (x1 : Int32) (x2 : Int32) (S : mj_S) (Q : mj_S → Int32 → Prop) : Prop := mj_V l G (mj_room 4 0 0) RX11 cX11_creep 4 (some .int) false 0 [some (.ref a0), some (.int x1), some (.int x2), none] [] S 0 0 (mj_std G (some .int) (mj_room 4 0 0) (mj_qi Q))
abbrev V_X11_creep_68 (l : Launch) (G : mj_G) (a0 : Nat) (x1 : Int32) (x2 : Int32) (x3 : Int32) (S : mj_S) (Q : mj_S → Int32 → Prop) : Prop := mj_V l G (mj_room 4 0 0) RX11 cX11_creep 4 (some .int) false 68 [some (.ref a0), some (.int x1), some (.int x2), some (.int x3)] [] S 0 0 (mj_std G (some .int) (mj_room 4 0 0) (mj_qi Q))
theorem e_X11_creep {l : Launch} {G : mj_G} {a0 : Nat} {x1 : Int32} {x2 : Int32} {S : mj_S} {Q : mj_S → Int32 → Prop} (h : V_X11_creep_0 l G a0 x1 x2 S Q) : M_X11_creep l G a0 x1 x2 S Q := mj_enter (r := 1) (ini := false) (by decide +kernel) (fun h => by cases h) (fun _ => Nat.le_of_ble_eq_true rfl) rfl h
set_option maxRecDepth 20000 in
set_option maxHeartbeats 1000000 in
theorem b_X11_creep_0 {l : Launch} {G : mj_G} {a0 : Nat} {x1 : Int32} {x2 : Int32} {S : mj_S} {Q : mj_S → Int32 → Prop} (hk_a0 : m_kd S a0 = 10) (h : M_X11_isPerson l G a0 x1 S (fun S1 r2 => ((r2 = 0) → V_X11_creep_68 l G a0 x1 x2 (0 : Int32) S1 Q) ∧ ((¬ (r2 = 0)) → M_X11_isCurtain l G a0 x2 S1 (fun S3 r4 => ((r4 = 0) → V_X11_creep_68 l G a0 x1 x2 (0 : Int32) S3 Q) ∧ ((¬ (r4 = 0)) → M_X11_hangs l G a0 x2 S3 (fun S5 r6 => ((r6 = 0) → V_X11_creep_68 l G a0 x1 x2 (2 : Int32) S5 Q) ∧ ((¬ (r6 = 0)) → ∃ b7, m_gp S5 a0 28 = some b7 ∧ (vp_in ((11 : Int32) + x1) (m_ln S5 b7) ∧ (M_X11_isAt l G a0 x2 (m_gi S5 b7 (((11 : Int32) + x1)).toNatClampNeg) S5 (fun S8 r9 => ((r9 = 0) → V_X11_creep_68 l G a0 x1 x2 (2 : Int32) S8 Q) ∧ ((¬ (r9 = 0)) → M_X11_of l G a0 x2 (4 : Int32) S8 (fun S10 r11 => ∃ b12, m_gp S10 a0 24 = some b12 ∧ (vp_in (((2 : Int32) * x1) + (1 : Int32)) (m_ln S10 b12) ∧ ((((m_gi S10 b12 ((((2 : Int32) * x1) + (1 : Int32))).toNatClampNeg) ≤ r11) → V_X11_creep_68 l G a0 x1 x2 (-1 : Int32) S10 Q) ∧ ((¬ ((m_gi S10 b12 ((((2 : Int32) * x1) + (1 : Int32))).toNatClampNeg) ≤ r11)) → V_X11_creep_68 l G a0 x1 x2 (2 : Int32) S10 Q))))))))))))))) : V_X11_creep_0 l G a0 x1 x2 S Q := by
  refine mj_iconst (v := 0) dX11_creep_0 (by decide) ?_
  refine mj_istore_n dX11_creep_1 rfl (by decide) rfl rfl ?_
  refine mj_aload_n dX11_creep_2 rfl rfl ?_
  refine mj_iload_n dX11_creep_3 rfl rfl ?_
  refine mj_callVi (as := [.int x1]) (st := []) dX11_creep_4 cal_X11_isPerson lk_X11_344 im_X11_isPerson se_X11_isPerson (ci := 10) rfl (by decide) hk_a0 h rfl (Nat.le_of_ble_eq_true rfl) (by decide) ⟨Nat.le_of_ble_eq_true rfl, Nat.le_of_ble_eq_true rfl⟩ (fun S1 r2 h hn_r2 hp => ?_)
  have hk_a0 : m_kd S1 a0 = 10 := m_kd_pre hp hk_a0 (by decide)
  refine mj_if_eq (tgt := 68) dX11_creep_7 (by decide) ⟨fun hc => ?_, fun hc => ?_⟩
  · replace h := h.1 hc
    exact h
  · replace h := h.2 hc
    refine mj_aload_n dX11_creep_10 rfl rfl ?_
    refine mj_iload_n dX11_creep_11 rfl rfl ?_
    refine mj_callVi (as := [.int x2]) (st := []) dX11_creep_12 cal_X11_isCurtain lk_X11_295 im_X11_isCurtain se_X11_isCurtain (ci := 10) rfl (by decide) hk_a0 h rfl (Nat.le_of_ble_eq_true rfl) (by decide) ⟨Nat.le_of_ble_eq_true rfl, Nat.le_of_ble_eq_true rfl⟩ (fun S3 r4 h hn_r4 hp => ?_)
    have hk_a0 : m_kd S3 a0 = 10 := m_kd_pre hp hk_a0 (by decide)
    refine mj_if_eq (tgt := 68) dX11_creep_15 (by decide) ⟨fun hc => ?_, fun hc => ?_⟩
    · replace h := h.1 hc
      exact h
    · replace h := h.2 hc
      refine mj_aload_n dX11_creep_18 rfl rfl ?_
      refine mj_iload_n dX11_creep_19 rfl rfl ?_
      refine mj_callVi (as := [.int x2]) (st := []) dX11_creep_20 cal_X11_hangs lk_X11_307 im_X11_hangs se_X11_hangs (ci := 10) rfl (by decide) hk_a0 h rfl (Nat.le_of_ble_eq_true rfl) (by decide) ⟨Nat.le_of_ble_eq_true rfl, Nat.le_of_ble_eq_true rfl⟩ (fun S5 r6 h hn_r6 hp => ?_)
      have hk_a0 : m_kd S5 a0 = 10 := m_kd_pre hp hk_a0 (by decide)
      refine mj_if_eq (tgt := 62) dX11_creep_23 (by decide) ⟨fun hc => ?_, fun hc => ?_⟩
      · replace h := h.1 hc
        refine mj_iconst (v := 2) dX11_creep_62 (by decide) ?_
        refine mj_goto (tgt := 67) dX11_creep_63 (by decide) ?_
        refine mj_istore_n dX11_creep_67 rfl (by decide) rfl rfl ?_
        exact h
      · replace h := h.2 hc
        refine mj_aload_n dX11_creep_26 rfl rfl ?_
        refine mj_iload_n dX11_creep_27 rfl rfl ?_
        refine mj_aload_n dX11_creep_28 rfl rfl ?_
        obtain ⟨b7, eb7, h⟩ := h
        refine mj_getP dX11_creep_29 fl_X11_58_10 hk_a0 rfl ⟨b7, eb7, fun hk_b7 => ?_⟩
        refine mj_bipush (v := 11) dX11_creep_32 (by decide) ?_
        refine mj_iload_n dX11_creep_34 rfl rfl ?_
        refine mj_iadd dX11_creep_35 ?_
        refine mj_iald dX11_creep_36 (Or.inl hk_b7) ⟨h.1, ?_⟩
        replace h := h.2
        refine mj_callVi (as := [.int x2, .int (m_gi S5 b7 (((11 : Int32) + x1)).toNatClampNeg)]) (st := []) dX11_creep_37 cal_X11_isAt lk_X11_368 im_X11_isAt se_X11_isAt (ci := 10) rfl (by decide) hk_a0 h rfl (Nat.le_of_ble_eq_true rfl) (by decide) ⟨Nat.le_of_ble_eq_true rfl, Nat.le_of_ble_eq_true rfl⟩ (fun S8 r9 h hn_r9 hp => ?_)
        have hk_a0 : m_kd S8 a0 = 10 := m_kd_pre hp hk_a0 (by decide)
        have hk_b7 : m_kd S8 b7 = 100 := m_kd_pre hp hk_b7 (by decide)
        refine mj_if_eq (tgt := 62) dX11_creep_40 (by decide) ⟨fun hc => ?_, fun hc => ?_⟩
        · replace h := h.1 hc
          refine mj_iconst (v := 2) dX11_creep_62 (by decide) ?_
          refine mj_goto (tgt := 67) dX11_creep_63 (by decide) ?_
          refine mj_istore_n dX11_creep_67 rfl (by decide) rfl rfl ?_
          exact h
        · replace h := h.2 hc
          refine mj_aload_n dX11_creep_43 rfl rfl ?_
          refine mj_iload_n dX11_creep_44 rfl rfl ?_
          refine mj_iconst (v := 4) dX11_creep_45 (by decide) ?_
          refine mj_callVi (as := [.int x2, .int (4 : Int32)]) (st := []) dX11_creep_46 cal_X11_of lk_X11_270 im_X11_of se_X11_of (ci := 10) rfl (by decide) hk_a0 h rfl (Nat.le_of_ble_eq_true rfl) (by decide) ⟨Nat.le_of_ble_eq_true rfl, Nat.le_of_ble_eq_true rfl⟩ (fun S10 r11 h hn_r11 hp => ?_)
          have hk_a0 : m_kd S10 a0 = 10 := m_kd_pre hp hk_a0 (by decide)
          have hk_b7 : m_kd S10 b7 = 100 := m_kd_pre hp hk_b7 (by decide)
          refine mj_aload_n dX11_creep_49 rfl rfl ?_
          obtain ⟨b12, eb12, h⟩ := h
          refine mj_getP dX11_creep_50 fl_X11_55_10 hk_a0 rfl ⟨b12, eb12, fun hk_b12 => ?_⟩
          refine mj_iconst (v := 2) dX11_creep_53 (by decide) ?_
          refine mj_iload_n dX11_creep_54 rfl rfl ?_
          refine mj_imul dX11_creep_55 ?_
          refine mj_iconst (v := 1) dX11_creep_56 (by decide) ?_
          refine mj_iadd dX11_creep_57 ?_
          refine mj_iald dX11_creep_58 (Or.inl hk_b12) ⟨h.1, ?_⟩
          replace h := h.2
          refine mj_icmp_ge (tgt := 66) dX11_creep_59 (by decide) ⟨fun hc => ?_, fun hc => ?_⟩
          · replace h := h.1 hc
            refine mj_iconst (v := (-1)) dX11_creep_66 (by decide) ?_
            refine mj_istore_n dX11_creep_67 rfl (by decide) rfl rfl ?_
            exact h
          · replace h := h.2 hc
            refine mj_iconst (v := 2) dX11_creep_62 (by decide) ?_
            refine mj_goto (tgt := 67) dX11_creep_63 (by decide) ?_
            refine mj_istore_n dX11_creep_67 rfl (by decide) rfl rfl ?_
            exact h
set_option maxRecDepth 20000 in
set_option maxHeartbeats 1000000 in
theorem b_X11_creep_68 {l : Launch} {G : mj_G} {a0 : Nat} {x1 : Int32} {x2 : Int32} {x3 : Int32} {S : mj_S} {Q : mj_S → Int32 → Prop} (hk_a0 : m_kd S a0 = 10) (h : M_X11_isRefused l G a0 x3 S (fun S1 r2 => ((r2 = 0) → M_X11_keep l G a0 S1 (fun S3 => ∃ b4, m_gp S3 a0 28 = some b4 ∧ (M_X11_firstSide l G a0 x2 S3 (fun S5 r6 => M_X11_secondSide l G a0 x2 S5 (fun S7 r8 => ∃ b9, m_gp S7 a0 28 = some b9 ∧ (vp_in ((11 : Int32) + x1) (m_ln S7 b9) ∧ (vp_in ((11 : Int32) + x1) (m_ln S7 b4) ∧ (∀ S10 : mj_S, S10 = m_si S7 b4 (((11 : Int32) + x1)).toNatClampNeg ((r6 + r8) - (m_gi S7 b9 (((11 : Int32) + x1)).toNatClampNeg)) → ∃ b11, m_gp S10 a0 28 = some b11 ∧ (vp_in ((11 : Int32) + x1) (m_ln S10 b11) ∧ (Q S10 (m_gi S10 b11 (((11 : Int32) + x1)).toNatClampNeg))))))))))) ∧ ((¬ (r2 = 0)) → Q S1 (-1 : Int32)))) : V_X11_creep_68 l G a0 x1 x2 x3 S Q := by
  refine mj_aload_n dX11_creep_68 rfl rfl ?_
  refine mj_iload_n dX11_creep_69 rfl rfl ?_
  refine mj_callVi (as := [.int x3]) (st := []) dX11_creep_70 cal_X11_isRefused lk_X11_356 im_X11_isRefused se_X11_isRefused (ci := 10) rfl (by decide) hk_a0 h rfl (Nat.le_of_ble_eq_true rfl) (by decide) ⟨Nat.le_of_ble_eq_true rfl, Nat.le_of_ble_eq_true rfl⟩ (fun S1 r2 h hn_r2 hp => ?_)
  have hk_a0 : m_kd S1 a0 = 10 := m_kd_pre hp hk_a0 (by decide)
  refine mj_if_eq (tgt := 78) dX11_creep_73 (by decide) ⟨fun hc => ?_, fun hc => ?_⟩
  · replace h := h.1 hc
    refine mj_aload_n dX11_creep_78 rfl rfl ?_
    refine mj_callVv (as := []) (st := []) dX11_creep_79 cal_X11_keep lk_X11_359 im_X11_keep se_X11_keep (ci := 10) rfl (by decide) hk_a0 h rfl (Nat.le_of_ble_eq_true rfl) (by decide) ⟨Nat.le_of_ble_eq_true rfl, Nat.le_of_ble_eq_true rfl⟩ (fun S3 h hp => ?_)
    have hk_a0 : m_kd S3 a0 = 10 := m_kd_pre hp hk_a0 (by decide)
    refine mj_aload_n dX11_creep_82 rfl rfl ?_
    obtain ⟨b4, eb4, h⟩ := h
    refine mj_getP dX11_creep_83 fl_X11_58_10 hk_a0 rfl ⟨b4, eb4, fun hk_b4 => ?_⟩
    refine mj_bipush (v := 11) dX11_creep_86 (by decide) ?_
    refine mj_iload_n dX11_creep_88 rfl rfl ?_
    refine mj_iadd dX11_creep_89 ?_
    refine mj_aload_n dX11_creep_90 rfl rfl ?_
    refine mj_iload_n dX11_creep_91 rfl rfl ?_
    refine mj_callVi (as := [.int x2]) (st := [.int ((11 : Int32) + x1), .ref b4]) dX11_creep_92 cal_X11_firstSide lk_X11_301 im_X11_firstSide se_X11_firstSide (ci := 10) rfl (by decide) hk_a0 h rfl (Nat.le_of_ble_eq_true rfl) (by decide) ⟨Nat.le_of_ble_eq_true rfl, Nat.le_of_ble_eq_true rfl⟩ (fun S5 r6 h hn_r6 hp => ?_)
    have hk_a0 : m_kd S5 a0 = 10 := m_kd_pre hp hk_a0 (by decide)
    have hk_b4 : m_kd S5 b4 = 100 := m_kd_pre hp hk_b4 (by decide)
    refine mj_aload_n dX11_creep_95 rfl rfl ?_
    refine mj_iload_n dX11_creep_96 rfl rfl ?_
    refine mj_callVi (as := [.int x2]) (st := [.int r6, .int ((11 : Int32) + x1), .ref b4]) dX11_creep_97 cal_X11_secondSide lk_X11_304 im_X11_secondSide se_X11_secondSide (ci := 10) rfl (by decide) hk_a0 h rfl (Nat.le_of_ble_eq_true rfl) (by decide) ⟨Nat.le_of_ble_eq_true rfl, Nat.le_of_ble_eq_true rfl⟩ (fun S7 r8 h hn_r8 hp => ?_)
    have hk_a0 : m_kd S7 a0 = 10 := m_kd_pre hp hk_a0 (by decide)
    have hk_b4 : m_kd S7 b4 = 100 := m_kd_pre hp hk_b4 (by decide)
    refine mj_iadd dX11_creep_100 ?_
    refine mj_aload_n dX11_creep_101 rfl rfl ?_
    obtain ⟨b9, eb9, h⟩ := h
    refine mj_getP dX11_creep_102 fl_X11_58_10 hk_a0 rfl ⟨b9, eb9, fun hk_b9 => ?_⟩
    refine mj_bipush (v := 11) dX11_creep_105 (by decide) ?_
    refine mj_iload_n dX11_creep_107 rfl rfl ?_
    refine mj_iadd dX11_creep_108 ?_
    refine mj_iald dX11_creep_109 (Or.inl hk_b9) ⟨h.1, ?_⟩
    replace h := h.2
    refine mj_isub dX11_creep_110 ?_
    refine mj_iast dX11_creep_111 hk_b4 ⟨h.1, ?_⟩
    replace h := h.2
    obtain ⟨S10, eS10⟩ : ∃ z, z = m_si S7 b4 (((11 : Int32) + x1)).toNatClampNeg ((r6 + r8) - (m_gi S7 b9 (((11 : Int32) + x1)).toNatClampNeg)) := ⟨_, rfl⟩
    rw [← eS10]
    replace h := h S10 eS10
    have hk_a0 : m_kd S10 a0 = 10 := by rw [eS10]; exact hk_a0
    have hk_b4 : m_kd S10 b4 = 100 := by rw [eS10]; exact hk_b4
    have hk_b9 : m_kd S10 b9 = 100 := by rw [eS10]; exact hk_b9
    refine mj_aload_n dX11_creep_112 rfl rfl ?_
    obtain ⟨b11, eb11, h⟩ := h
    refine mj_getP dX11_creep_113 fl_X11_58_10 hk_a0 rfl ⟨b11, eb11, fun hk_b11 => ?_⟩
    refine mj_bipush (v := 11) dX11_creep_116 (by decide) ?_
    refine mj_iload_n dX11_creep_118 rfl rfl ?_
    refine mj_iadd dX11_creep_119 ?_
    refine mj_iald dX11_creep_120 (Or.inl hk_b11) ⟨h.1, ?_⟩
    replace h := h.2
    exact mj_reti dX11_creep_121 rfl ⟨Nat.le_of_ble_eq_true rfl, Nat.le_of_ble_eq_true rfl⟩ h
  · replace h := h.2 hc
    refine mj_iconst (v := (-1)) dX11_creep_76 (by decide) ?_
    exact mj_reti dX11_creep_77 rfl ⟨Nat.le_of_ble_eq_true rfl, Nat.le_of_ble_eq_true rfl⟩ h
abbrev V_X11_mend_0 (l : Launch) (G : mj_G) (a0 : Nat) (x1 : Int32) (x2 : Int32) (S : mj_S) (Q : mj_S → Int32 → Prop) : Prop := mj_V l G (mj_room 3 0 0) RX11 cX11_mend 4 (some .int) false 0 [some (.ref a0), some (.int x1), some (.int x2), none] [] S 0 0 (mj_std G (some .int) (mj_room 3 0 0) (mj_qi Q))
abbrev V_X11_mend_54 (l : Launch) (G : mj_G) (a0 : Nat) (x1 : Int32) (x2 : Int32) (s0 : Int32) (S : mj_S) (Q : mj_S → Int32 → Prop) : Prop := mj_V l G (mj_room 3 0 0) RX11 cX11_mend 4 (some .int) false 54 [some (.ref a0), some (.int x1), some (.int x2), none] [.int s0] S 0 0 (mj_std G (some .int) (mj_room 3 0 0) (mj_qi Q))
theorem e_X11_mend {l : Launch} {G : mj_G} {a0 : Nat} {x1 : Int32} {x2 : Int32} {S : mj_S} {Q : mj_S → Int32 → Prop} (h : V_X11_mend_0 l G a0 x1 x2 S Q) : M_X11_mend l G a0 x1 x2 S Q := mj_enter (r := 1) (ini := false) (by decide +kernel) (fun h => by cases h) (fun _ => Nat.le_of_ble_eq_true rfl) rfl h
set_option maxRecDepth 20000 in
set_option maxHeartbeats 1000000 in
theorem b_X11_mend_0 {l : Launch} {G : mj_G} {a0 : Nat} {x1 : Int32} {x2 : Int32} {S : mj_S} {Q : mj_S → Int32 → Prop} (hk_a0 : m_kd S a0 = 10) (h : M_X11_isCurtain l G a0 x1 S (fun S1 r2 => ((¬ r2 = 0) → M_X11_in l G x2 (1 : Int32) (9 : Int32) S1 (fun S3 r4 => ((r4 = 0) → V_X11_mend_54 l G a0 x1 x2 (1 : Int32) S3 Q) ∧ ((¬ (r4 = 0)) → ∃ b5, m_gp S3 a0 28 = some b5 ∧ (vp_in ((0 : Int32) + x1) (m_ln S3 b5) ∧ (((((m_gi S3 b5 (((0 : Int32) + x1)).toNatClampNeg) + x2) ≤ (99 : Int32)) → M_X11_isFallen l G a0 x1 S3 (fun S6 r7 => ((r7 = 0) → V_X11_mend_54 l G a0 x1 x2 (-1 : Int32) S6 Q) ∧ ((¬ (r7 = 0)) → V_X11_mend_54 l G a0 x1 x2 (3 : Int32) S6 Q))) ∧ ((¬ (((m_gi S3 b5 (((0 : Int32) + x1)).toNatClampNeg) + x2) ≤ (99 : Int32))) → V_X11_mend_54 l G a0 x1 x2 (1 : Int32) S3 Q)))))) ∧ ((r2 = 0) → V_X11_mend_54 l G a0 x1 x2 (0 : Int32) S1 Q))) : V_X11_mend_0 l G a0 x1 x2 S Q := by
  refine mj_aload_n dX11_mend_0 rfl rfl ?_
  refine mj_iload_n dX11_mend_1 rfl rfl ?_
  refine mj_callVi (as := [.int x1]) (st := []) dX11_mend_2 cal_X11_isCurtain lk_X11_295 im_X11_isCurtain se_X11_isCurtain (ci := 10) rfl (by decide) hk_a0 h rfl (Nat.le_of_ble_eq_true rfl) (by decide) ⟨Nat.le_of_ble_eq_true rfl, Nat.le_of_ble_eq_true rfl⟩ (fun S1 r2 h hn_r2 hp => ?_)
  have hk_a0 : m_kd S1 a0 = 10 := m_kd_pre hp hk_a0 (by decide)
  refine mj_if_ne (tgt := 12) dX11_mend_5 (by decide) ⟨fun hc => ?_, fun hc => ?_⟩
  · replace h := h.1 hc
    refine mj_iload_n dX11_mend_12 rfl rfl ?_
    refine mj_iconst (v := 1) dX11_mend_13 (by decide) ?_
    refine mj_bipush (v := 9) dX11_mend_14 (by decide) ?_
    refine mj_callSi (as := [.int x2, .int (1 : Int32), .int (9 : Int32)]) (st := []) dX11_mend_16 cal_X11_in lk_X11_217 sm_X11_in h rfl (Nat.le_of_ble_eq_true rfl) (by decide) ⟨Nat.le_of_ble_eq_true rfl, Nat.le_of_ble_eq_true rfl⟩ (fun S3 r4 h hn_r4 hp => ?_)
    have hk_a0 : m_kd S3 a0 = 10 := m_kd_pre hp hk_a0 (by decide)
    refine mj_if_eq (tgt := 37) dX11_mend_19 (by decide) ⟨fun hc => ?_, fun hc => ?_⟩
    · replace h := h.1 hc
      refine mj_iconst (v := 1) dX11_mend_37 (by decide) ?_
      refine mj_goto (tgt := 54) dX11_mend_38 (by decide) ?_
      exact h
    · replace h := h.2 hc
      refine mj_aload_n dX11_mend_22 rfl rfl ?_
      obtain ⟨b5, eb5, h⟩ := h
      refine mj_getP dX11_mend_23 fl_X11_58_10 hk_a0 rfl ⟨b5, eb5, fun hk_b5 => ?_⟩
      refine mj_iconst (v := 0) dX11_mend_26 (by decide) ?_
      refine mj_iload_n dX11_mend_27 rfl rfl ?_
      refine mj_iadd dX11_mend_28 ?_
      refine mj_iald dX11_mend_29 (Or.inl hk_b5) ⟨h.1, ?_⟩
      replace h := h.2
      refine mj_iload_n dX11_mend_30 rfl rfl ?_
      refine mj_iadd dX11_mend_31 ?_
      refine mj_bipush (v := 99) dX11_mend_32 (by decide) ?_
      refine mj_icmp_le (tgt := 41) dX11_mend_34 (by decide) ⟨fun hc => ?_, fun hc => ?_⟩
      · replace h := h.1 hc
        refine mj_aload_n dX11_mend_41 rfl rfl ?_
        refine mj_iload_n dX11_mend_42 rfl rfl ?_
        refine mj_callVi (as := [.int x1]) (st := []) dX11_mend_43 cal_X11_isFallen lk_X11_298 im_X11_isFallen se_X11_isFallen (ci := 10) rfl (by decide) hk_a0 h rfl (Nat.le_of_ble_eq_true rfl) (by decide) ⟨Nat.le_of_ble_eq_true rfl, Nat.le_of_ble_eq_true rfl⟩ (fun S6 r7 h hn_r7 hp => ?_)
        have hk_a0 : m_kd S6 a0 = 10 := m_kd_pre hp hk_a0 (by decide)
        have hk_b5 : m_kd S6 b5 = 100 := m_kd_pre hp hk_b5 (by decide)
        refine mj_if_eq (tgt := 53) dX11_mend_46 (by decide) ⟨fun hc => ?_, fun hc => ?_⟩
        · replace h := h.1 hc
          refine mj_iconst (v := (-1)) dX11_mend_53 (by decide) ?_
          exact h
        · replace h := h.2 hc
          refine mj_iconst (v := 3) dX11_mend_49 (by decide) ?_
          refine mj_goto (tgt := 54) dX11_mend_50 (by decide) ?_
          exact h
      · replace h := h.2 hc
        refine mj_iconst (v := 1) dX11_mend_37 (by decide) ?_
        refine mj_goto (tgt := 54) dX11_mend_38 (by decide) ?_
        exact h
  · replace h := h.2 hc
    refine mj_iconst (v := 0) dX11_mend_8 (by decide) ?_
    refine mj_goto (tgt := 54) dX11_mend_9 (by decide) ?_
    exact h
set_option maxRecDepth 20000 in
set_option maxHeartbeats 1000000 in
theorem b_X11_mend_54 {l : Launch} {G : mj_G} {a0 : Nat} {x1 : Int32} {x2 : Int32} {s0 : Int32} {S : mj_S} {Q : mj_S → Int32 → Prop} (hk_a0 : m_kd S a0 = 10) (h : M_X11_isRefused l G a0 s0 S (fun S1 r2 => ((r2 = 0) → M_X11_keep l G a0 S1 (fun S3 => ∃ b4, m_gp S3 a0 28 = some b4 ∧ (vp_in ((0 : Int32) + x1) (m_ln S3 b4) ∧ (vp_in ((0 : Int32) + x1) (m_ln S3 b4) ∧ (∀ S5 : mj_S, S5 = m_si S3 b4 (((0 : Int32) + x1)).toNatClampNeg ((m_gi S3 b4 (((0 : Int32) + x1)).toNatClampNeg) + x2) → ∃ b6, m_gp S5 a0 28 = some b6 ∧ (vp_in ((0 : Int32) + x1) (m_ln S5 b6) ∧ (Q S5 (m_gi S5 b6 (((0 : Int32) + x1)).toNatClampNeg)))))))) ∧ ((¬ (r2 = 0)) → Q S1 (-1 : Int32)))) : V_X11_mend_54 l G a0 x1 x2 s0 S Q := by
  refine mj_istore_n dX11_mend_54 rfl (by decide) rfl rfl ?_
  refine mj_aload_n dX11_mend_55 rfl rfl ?_
  refine mj_iload_n dX11_mend_56 rfl rfl ?_
  refine mj_callVi (as := [.int s0]) (st := []) dX11_mend_57 cal_X11_isRefused lk_X11_356 im_X11_isRefused se_X11_isRefused (ci := 10) rfl (by decide) hk_a0 h rfl (Nat.le_of_ble_eq_true rfl) (by decide) ⟨Nat.le_of_ble_eq_true rfl, Nat.le_of_ble_eq_true rfl⟩ (fun S1 r2 h hn_r2 hp => ?_)
  have hk_a0 : m_kd S1 a0 = 10 := m_kd_pre hp hk_a0 (by decide)
  refine mj_if_eq (tgt := 65) dX11_mend_60 (by decide) ⟨fun hc => ?_, fun hc => ?_⟩
  · replace h := h.1 hc
    refine mj_aload_n dX11_mend_65 rfl rfl ?_
    refine mj_callVv (as := []) (st := []) dX11_mend_66 cal_X11_keep lk_X11_359 im_X11_keep se_X11_keep (ci := 10) rfl (by decide) hk_a0 h rfl (Nat.le_of_ble_eq_true rfl) (by decide) ⟨Nat.le_of_ble_eq_true rfl, Nat.le_of_ble_eq_true rfl⟩ (fun S3 h hp => ?_)
    have hk_a0 : m_kd S3 a0 = 10 := m_kd_pre hp hk_a0 (by decide)
    refine mj_aload_n dX11_mend_69 rfl rfl ?_
    obtain ⟨b4, eb4, h⟩ := h
    refine mj_getP dX11_mend_70 fl_X11_58_10 hk_a0 rfl ⟨b4, eb4, fun hk_b4 => ?_⟩
    refine mj_iconst (v := 0) dX11_mend_73 (by decide) ?_
    refine mj_iload_n dX11_mend_74 rfl rfl ?_
    refine mj_iadd dX11_mend_75 ?_
    refine mj_dup2 dX11_mend_76 rfl rfl ?_
    refine mj_iald dX11_mend_77 (Or.inl hk_b4) ⟨h.1, ?_⟩
    replace h := h.2
    refine mj_iload_n dX11_mend_78 rfl rfl ?_
    refine mj_iadd dX11_mend_79 ?_
    refine mj_iast dX11_mend_80 hk_b4 ⟨h.1, ?_⟩
    replace h := h.2
    obtain ⟨S5, eS5⟩ : ∃ z, z = m_si S3 b4 (((0 : Int32) + x1)).toNatClampNeg ((m_gi S3 b4 (((0 : Int32) + x1)).toNatClampNeg) + x2) := ⟨_, rfl⟩
    rw [← eS5]
    replace h := h S5 eS5
    have hk_a0 : m_kd S5 a0 = 10 := by rw [eS5]; exact hk_a0
    have hk_b4 : m_kd S5 b4 = 100 := by rw [eS5]; exact hk_b4
    refine mj_aload_n dX11_mend_81 rfl rfl ?_
    obtain ⟨b6, eb6, h⟩ := h
    refine mj_getP dX11_mend_82 fl_X11_58_10 hk_a0 rfl ⟨b6, eb6, fun hk_b6 => ?_⟩
    refine mj_iconst (v := 0) dX11_mend_85 (by decide) ?_
    refine mj_iload_n dX11_mend_86 rfl rfl ?_
    refine mj_iadd dX11_mend_87 ?_
    refine mj_iald dX11_mend_88 (Or.inl hk_b6) ⟨h.1, ?_⟩
    replace h := h.2
    exact mj_reti dX11_mend_89 rfl ⟨Nat.le_of_ble_eq_true rfl, Nat.le_of_ble_eq_true rfl⟩ h
  · replace h := h.2 hc
    refine mj_iconst (v := (-1)) dX11_mend_63 (by decide) ?_
    exact mj_reti dX11_mend_64 rfl ⟨Nat.le_of_ble_eq_true rfl, Nat.le_of_ble_eq_true rfl⟩ h
