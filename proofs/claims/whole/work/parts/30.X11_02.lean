abbrev V_X11_workOut_0 (l : Launch) (G : mj_G) (a0 : Nat) (x1 : Int32) (x2 : Int32) (x3 : Int32) (S : mj_S) (Q : mj_S → Int32 → Prop) : Prop := mj_V l G (mj_room 4 0 0) RX11 cX11_workOut 6 (some .int) false 0 [some (.ref a0), some (.int x1), some (.int x2), some (.int x3), none, none] [] S 0 0 (mj_std G (some .int) (mj_room 4 0 0) (mj_qi Q))
abbrev V_X11_workOut_12 (l : Launch) (G : mj_G) (a0 : Nat) (x1 : Int32) (x3 : Int32) (x4 : Int32) (x5 : Int32) (S : mj_S) (Q : mj_S → Int32 → Prop) : Prop := mj_V l G (mj_room 4 0 0) RX11 cX11_workOut 6 (some .int) false 12 [some (.ref a0), some (.int x1), none, some (.int x3), some (.int x4), some (.int x5)] [] S 0 0 (mj_std G (some .int) (mj_room 4 0 0) (mj_qi Q))
abbrev V_X11_workOut_45 (l : Launch) (G : mj_G) (a0 : Nat) (x1 : Int32) (x3 : Int32) (x4 : Int32) (x5 : Int32) (S : mj_S) (Q : mj_S → Int32 → Prop) : Prop := mj_V l G (mj_room 4 0 0) RX11 cX11_workOut 6 (some .int) false 45 [some (.ref a0), some (.int x1), none, some (.int x3), some (.int x4), some (.int x5)] [] S 0 0 (mj_std G (some .int) (mj_room 4 0 0) (mj_qi Q))
theorem e_X11_workOut {l : Launch} {G : mj_G} {a0 : Nat} {x1 : Int32} {x2 : Int32} {x3 : Int32} {S : mj_S} {Q : mj_S → Int32 → Prop} (h : V_X11_workOut_0 l G a0 x1 x2 x3 S Q) : M_X11_workOut l G a0 x1 x2 x3 S Q := mj_enter (r := 2) (ini := false) (by decide +kernel) (fun h => by cases h) (fun _ => Nat.le_of_ble_eq_true rfl) rfl h
set_option maxRecDepth 20000 in
set_option maxHeartbeats 1000000 in
theorem b_X11_workOut_0 {l : Launch} {G : mj_G} {a0 : Nat} {x1 : Int32} {x2 : Int32} {x3 : Int32} {S : mj_S} {Q : mj_S → Int32 → Prop} (hk_a0 : m_kd S a0 = 10) (h : ∀ v1 : Int32, v1 = (((520 : Int32) * x1) + x2) → V_X11_workOut_12 l G a0 x1 x3 (0 : Int32) v1 S Q) : V_X11_workOut_0 l G a0 x1 x2 x3 S Q := by
  refine mj_iconst (v := 0) dX11_workOut_0 (by decide) ?_
  refine mj_istore dX11_workOut_1 (by decide) rfl rfl ?_
  refine mj_sipush (v := 520) dX11_workOut_3 (by decide) ?_
  refine mj_iload_n dX11_workOut_6 rfl rfl ?_
  refine mj_imul dX11_workOut_7 ?_
  refine mj_iload_n dX11_workOut_8 rfl rfl ?_
  refine mj_iadd dX11_workOut_9 ?_
  refine mj_nmi (fun v1 ev1 => ?_)
  replace h := h v1 ev1
  refine mj_istore dX11_workOut_10 (by decide) rfl rfl ?_
  exact mj_lessm [true, true, false, true, true, true] rfl h
set_option maxRecDepth 20000 in
set_option maxHeartbeats 1000000 in
theorem b_X11_workOut_12 {l : Launch} {G : mj_G} {a0 : Nat} {x1 : Int32} {x3 : Int32} {x4 : Int32} {x5 : Int32} {S : mj_S} {Q : mj_S → Int32 → Prop} (hk_a0 : m_kd S a0 = 10) (h : (((((520 : Int32) * x1) + x3) ≤ x5) → ∃ b1, m_gp S a0 16 = some b1 ∧ (vp_in (0 : Int32) (m_ln S b1) ∧ (Q S (m_gi S b1 ((0 : Int32)).toNatClampNeg)))) ∧ ((¬ ((((520 : Int32) * x1) + x3) ≤ x5)) → ∃ b2, m_gp S a0 6 = some b2 ∧ (vp_in x5 (m_ln S b2) ∧ ((((m_gi S b2 (x5).toNatClampNeg) = 0) → V_X11_workOut_45 l G a0 x1 x3 x4 x5 S Q) ∧ ((¬ ((m_gi S b2 (x5).toNatClampNeg) = 0)) → ∃ b3, m_gp S a0 6 = some b3 ∧ (vp_in x5 (m_ln S b3) ∧ (((¬ (m_gi S b3 (x5).toNatClampNeg) = (1 : Int32)) → ∃ b4, m_gp S a0 6 = some b4 ∧ (vp_in x5 (m_ln S b4) ∧ (((¬ (m_gi S b4 (x5).toNatClampNeg) = (9 : Int32)) → ∀ v5 : Int32, v5 = x4 + (-1 : Int32) → ∃ b6, m_gp S a0 16 = some b6 ∧ (∃ b7, m_gp S a0 6 = some b7 ∧ (vp_in x5 (m_ln S b7) ∧ (∃ b8, m_gp S a0 16 = some b8 ∧ (vp_in (v5 - (1 : Int32)) (m_ln S b8) ∧ (∃ b9, m_gp S a0 16 = some b9 ∧ (vp_in v5 (m_ln S b9) ∧ (M_X11_worked l G (m_gi S b7 (x5).toNatClampNeg) (((m_gi S b8 ((v5 - (1 : Int32))).toNatClampNeg)).toInt64) (((m_gi S b9 (v5).toNatClampNeg)).toInt64) S (fun S10 r11 => vp_in (v5 - (1 : Int32)) (m_ln S10 b6) ∧ (∀ S12 : mj_S, S12 = m_si S10 b6 ((v5 - (1 : Int32))).toNatClampNeg r11 → ∀ v13 : Int32, v13 = x5 + (1 : Int32) → V_X11_workOut_12 l G a0 x1 x3 v5 v13 S12 Q)))))))))) ∧ (((m_gi S b4 (x5).toNatClampNeg) = (9 : Int32)) → ∃ b14, m_gp S a0 16 = some b14 ∧ (∃ b15, m_gp S a0 16 = some b15 ∧ (vp_in (x4 - (1 : Int32)) (m_ln S b15) ∧ (vp_in (x4 - (1 : Int32)) (m_ln S b14) ∧ (∀ S16 : mj_S, S16 = m_si S b14 ((x4 - (1 : Int32))).toNatClampNeg ((1 : Int32) - (m_gi S b15 ((x4 - (1 : Int32))).toNatClampNeg)) → ∀ v17 : Int32, v17 = x5 + (1 : Int32) → V_X11_workOut_12 l G a0 x1 x3 x4 v17 S16 Q)))))))) ∧ (((m_gi S b3 (x5).toNatClampNeg) = (1 : Int32)) → V_X11_workOut_45 l G a0 x1 x3 x4 x5 S Q)))))))) : V_X11_workOut_12 l G a0 x1 x3 x4 x5 S Q := by
  refine mj_iload dX11_workOut_12 rfl ?_
  refine mj_sipush (v := 520) dX11_workOut_14 (by decide) ?_
  refine mj_iload_n dX11_workOut_17 rfl rfl ?_
  refine mj_imul dX11_workOut_18 ?_
  refine mj_iload_n dX11_workOut_19 rfl rfl ?_
  refine mj_iadd dX11_workOut_20 ?_
  refine mj_icmp_ge (tgt := 171) dX11_workOut_21 (by decide) ⟨fun hc => ?_, fun hc => ?_⟩
  · replace h := h.1 hc
    refine mj_aload_n dX11_workOut_171 rfl rfl ?_
    obtain ⟨b1, eb1, h⟩ := h
    refine mj_getP dX11_workOut_172 fl_X11_37_10 hk_a0 rfl ⟨b1, eb1, fun hk_b1 => ?_⟩
    refine mj_iconst (v := 0) dX11_workOut_175 (by decide) ?_
    refine mj_iald dX11_workOut_176 (Or.inl hk_b1) ⟨h.1, ?_⟩
    replace h := h.2
    exact mj_reti dX11_workOut_177 rfl ⟨Nat.le_of_ble_eq_true rfl, Nat.le_of_ble_eq_true rfl⟩ h
  · replace h := h.2 hc
    refine mj_aload_n dX11_workOut_24 rfl rfl ?_
    obtain ⟨b2, eb2, h⟩ := h
    refine mj_getP dX11_workOut_25 fl_X11_13_10 hk_a0 rfl ⟨b2, eb2, fun hk_b2 => ?_⟩
    refine mj_iload dX11_workOut_28 rfl ?_
    refine mj_iald dX11_workOut_30 (Or.inl hk_b2) ⟨h.1, ?_⟩
    replace h := h.2
    refine mj_if_eq (tgt := 45) dX11_workOut_31 (by decide) ⟨fun hc => ?_, fun hc => ?_⟩
    · replace h := h.1 hc
      exact h
    · replace h := h.2 hc
      refine mj_aload_n dX11_workOut_34 rfl rfl ?_
      obtain ⟨b3, eb3, h⟩ := h
      refine mj_getP dX11_workOut_35 fl_X11_13_10 hk_a0 rfl ⟨b3, eb3, fun hk_b3 => ?_⟩
      refine mj_iload dX11_workOut_38 rfl ?_
      refine mj_iald dX11_workOut_40 (Or.inl hk_b3) ⟨h.1, ?_⟩
      replace h := h.2
      refine mj_iconst (v := 1) dX11_workOut_41 (by decide) ?_
      refine mj_icmp_ne (tgt := 90) dX11_workOut_42 (by decide) ⟨fun hc => ?_, fun hc => ?_⟩
      · replace h := h.1 hc
        refine mj_aload_n dX11_workOut_90 rfl rfl ?_
        obtain ⟨b4, eb4, h⟩ := h
        refine mj_getP dX11_workOut_91 fl_X11_13_10 hk_a0 rfl ⟨b4, eb4, fun hk_b4 => ?_⟩
        refine mj_iload dX11_workOut_94 rfl ?_
        refine mj_iald dX11_workOut_96 (Or.inl hk_b4) ⟨h.1, ?_⟩
        replace h := h.2
        refine mj_bipush (v := 9) dX11_workOut_97 (by decide) ?_
        refine mj_icmp_ne (tgt := 125) dX11_workOut_99 (by decide) ⟨fun hc => ?_, fun hc => ?_⟩
        · replace h := h.1 hc
          obtain ⟨v5, ev5⟩ : ∃ z : Int32, z = x4 + (-1 : Int32) := ⟨_, rfl⟩
          refine mj_iinc (v := v5) dX11_workOut_125 rfl (by rw [ev5]; rfl) (by decide) rfl rfl ?_
          replace h := h v5 ev5
          refine mj_aload_n dX11_workOut_128 rfl rfl ?_
          obtain ⟨b6, eb6, h⟩ := h
          refine mj_getP dX11_workOut_129 fl_X11_37_10 hk_a0 rfl ⟨b6, eb6, fun hk_b6 => ?_⟩
          refine mj_iload dX11_workOut_132 rfl ?_
          refine mj_iconst (v := 1) dX11_workOut_134 (by decide) ?_
          refine mj_isub dX11_workOut_135 ?_
          refine mj_aload_n dX11_workOut_136 rfl rfl ?_
          obtain ⟨b7, eb7, h⟩ := h
          refine mj_getP dX11_workOut_137 fl_X11_13_10 hk_a0 rfl ⟨b7, eb7, fun hk_b7 => ?_⟩
          refine mj_iload dX11_workOut_140 rfl ?_
          refine mj_iald dX11_workOut_142 (Or.inl hk_b7) ⟨h.1, ?_⟩
          replace h := h.2
          refine mj_aload_n dX11_workOut_143 rfl rfl ?_
          obtain ⟨b8, eb8, h⟩ := h
          refine mj_getP dX11_workOut_144 fl_X11_37_10 hk_a0 rfl ⟨b8, eb8, fun hk_b8 => ?_⟩
          refine mj_iload dX11_workOut_147 rfl ?_
          refine mj_iconst (v := 1) dX11_workOut_149 (by decide) ?_
          refine mj_isub dX11_workOut_150 ?_
          refine mj_iald dX11_workOut_151 (Or.inl hk_b8) ⟨h.1, ?_⟩
          replace h := h.2
          refine mj_i2l dX11_workOut_152 ?_
          refine mj_aload_n dX11_workOut_153 rfl rfl ?_
          obtain ⟨b9, eb9, h⟩ := h
          refine mj_getP dX11_workOut_154 fl_X11_37_10 hk_a0 rfl ⟨b9, eb9, fun hk_b9 => ?_⟩
          refine mj_iload dX11_workOut_157 rfl ?_
          refine mj_iald dX11_workOut_159 (Or.inl hk_b9) ⟨h.1, ?_⟩
          replace h := h.2
          refine mj_i2l dX11_workOut_160 ?_
          refine mj_callSi (as := [.int (m_gi S b7 (x5).toNatClampNeg), .long (((m_gi S b8 ((v5 - (1 : Int32))).toNatClampNeg)).toInt64), .long (((m_gi S b9 (v5).toNatClampNeg)).toInt64)]) (st := [.int (v5 - (1 : Int32)), .ref b6]) dX11_workOut_161 cal_X11_worked lk_X11_209 sm_X11_worked h rfl (Nat.le_of_ble_eq_true rfl) (by decide) ⟨Nat.le_of_ble_eq_true rfl, Nat.le_of_ble_eq_true rfl⟩ (fun S10 r11 h hn_r11 hp => ?_)
          have hk_a0 : m_kd S10 a0 = 10 := m_kd_pre hp hk_a0 (by decide)
          have hk_b2 : m_kd S10 b2 = 100 := m_kd_pre hp hk_b2 (by decide)
          have hk_b3 : m_kd S10 b3 = 100 := m_kd_pre hp hk_b3 (by decide)
          have hk_b4 : m_kd S10 b4 = 100 := m_kd_pre hp hk_b4 (by decide)
          have hk_b6 : m_kd S10 b6 = 100 := m_kd_pre hp hk_b6 (by decide)
          have hk_b7 : m_kd S10 b7 = 100 := m_kd_pre hp hk_b7 (by decide)
          have hk_b8 : m_kd S10 b8 = 100 := m_kd_pre hp hk_b8 (by decide)
          have hk_b9 : m_kd S10 b9 = 100 := m_kd_pre hp hk_b9 (by decide)
          refine mj_iast dX11_workOut_164 hk_b6 ⟨h.1, ?_⟩
          replace h := h.2
          obtain ⟨S12, eS12⟩ : ∃ z, z = m_si S10 b6 ((v5 - (1 : Int32))).toNatClampNeg r11 := ⟨_, rfl⟩
          rw [← eS12]
          replace h := h S12 eS12
          have hk_a0 : m_kd S12 a0 = 10 := by rw [eS12]; exact hk_a0
          have hk_b2 : m_kd S12 b2 = 100 := by rw [eS12]; exact hk_b2
          have hk_b3 : m_kd S12 b3 = 100 := by rw [eS12]; exact hk_b3
          have hk_b4 : m_kd S12 b4 = 100 := by rw [eS12]; exact hk_b4
          have hk_b6 : m_kd S12 b6 = 100 := by rw [eS12]; exact hk_b6
          have hk_b7 : m_kd S12 b7 = 100 := by rw [eS12]; exact hk_b7
          have hk_b8 : m_kd S12 b8 = 100 := by rw [eS12]; exact hk_b8
          have hk_b9 : m_kd S12 b9 = 100 := by rw [eS12]; exact hk_b9
          obtain ⟨v13, ev13⟩ : ∃ z : Int32, z = x5 + (1 : Int32) := ⟨_, rfl⟩
          refine mj_iinc (v := v13) dX11_workOut_165 rfl (by rw [ev13]; rfl) (by decide) rfl rfl ?_
          replace h := h v13 ev13
          refine mj_goto (tgt := 12) dX11_workOut_168 (by decide) ?_
          exact h
        · replace h := h.2 hc
          refine mj_aload_n dX11_workOut_102 rfl rfl ?_
          obtain ⟨b14, eb14, h⟩ := h
          refine mj_getP dX11_workOut_103 fl_X11_37_10 hk_a0 rfl ⟨b14, eb14, fun hk_b14 => ?_⟩
          refine mj_iload dX11_workOut_106 rfl ?_
          refine mj_iconst (v := 1) dX11_workOut_108 (by decide) ?_
          refine mj_isub dX11_workOut_109 ?_
          refine mj_iconst (v := 1) dX11_workOut_110 (by decide) ?_
          refine mj_aload_n dX11_workOut_111 rfl rfl ?_
          obtain ⟨b15, eb15, h⟩ := h
          refine mj_getP dX11_workOut_112 fl_X11_37_10 hk_a0 rfl ⟨b15, eb15, fun hk_b15 => ?_⟩
          refine mj_iload dX11_workOut_115 rfl ?_
          refine mj_iconst (v := 1) dX11_workOut_117 (by decide) ?_
          refine mj_isub dX11_workOut_118 ?_
          refine mj_iald dX11_workOut_119 (Or.inl hk_b15) ⟨h.1, ?_⟩
          replace h := h.2
          refine mj_isub dX11_workOut_120 ?_
          refine mj_iast dX11_workOut_121 hk_b14 ⟨h.1, ?_⟩
          replace h := h.2
          obtain ⟨S16, eS16⟩ : ∃ z, z = m_si S b14 ((x4 - (1 : Int32))).toNatClampNeg ((1 : Int32) - (m_gi S b15 ((x4 - (1 : Int32))).toNatClampNeg)) := ⟨_, rfl⟩
          rw [← eS16]
          replace h := h S16 eS16
          have hk_a0 : m_kd S16 a0 = 10 := by rw [eS16]; exact hk_a0
          have hk_b2 : m_kd S16 b2 = 100 := by rw [eS16]; exact hk_b2
          have hk_b3 : m_kd S16 b3 = 100 := by rw [eS16]; exact hk_b3
          have hk_b4 : m_kd S16 b4 = 100 := by rw [eS16]; exact hk_b4
          have hk_b14 : m_kd S16 b14 = 100 := by rw [eS16]; exact hk_b14
          have hk_b15 : m_kd S16 b15 = 100 := by rw [eS16]; exact hk_b15
          refine mj_goto (tgt := 165) dX11_workOut_122 (by decide) ?_
          obtain ⟨v17, ev17⟩ : ∃ z : Int32, z = x5 + (1 : Int32) := ⟨_, rfl⟩
          refine mj_iinc (v := v17) dX11_workOut_165 rfl (by rw [ev17]; rfl) (by decide) rfl rfl ?_
          replace h := h v17 ev17
          refine mj_goto (tgt := 12) dX11_workOut_168 (by decide) ?_
          exact h
      · replace h := h.2 hc
        exact h
set_option maxRecDepth 20000 in
set_option maxHeartbeats 1000000 in
theorem b_X11_workOut_45 {l : Launch} {G : mj_G} {a0 : Nat} {x1 : Int32} {x3 : Int32} {x4 : Int32} {x5 : Int32} {S : mj_S} {Q : mj_S → Int32 → Prop} (hk_a0 : m_kd S a0 = 10) (h : ∃ b1, m_gp S a0 16 = some b1 ∧ (∃ b2, m_gp S a0 6 = some b2 ∧ (vp_in x5 (m_ln S b2) ∧ (((¬ (m_gi S b2 (x5).toNatClampNeg) = 0) → ∃ b3, m_gp S a0 15 = some b3 ∧ (∃ b4, m_gp S a0 7 = some b4 ∧ (vp_in x5 (m_ln S b4) ∧ (vp_in (m_gi S b4 (x5).toNatClampNeg) (m_ln S b3) ∧ (vp_in x4 (m_ln S b1) ∧ (∀ S5 : mj_S, S5 = m_si S b1 (x4).toNatClampNeg (m_gi S b3 ((m_gi S b4 (x5).toNatClampNeg)).toNatClampNeg) → ∀ v6 : Int32, v6 = x4 + (1 : Int32) → ∀ v7 : Int32, v7 = x5 + (1 : Int32) → V_X11_workOut_12 l G a0 x1 x3 v6 v7 S5 Q)))))) ∧ (((m_gi S b2 (x5).toNatClampNeg) = 0) → ∃ b8, m_gp S a0 7 = some b8 ∧ (vp_in x5 (m_ln S b8) ∧ (vp_in x4 (m_ln S b1) ∧ (∀ S9 : mj_S, S9 = m_si S b1 (x4).toNatClampNeg (m_gi S b8 (x5).toNatClampNeg) → ∀ v10 : Int32, v10 = x4 + (1 : Int32) → ∀ v11 : Int32, v11 = x5 + (1 : Int32) → V_X11_workOut_12 l G a0 x1 x3 v10 v11 S9 Q)))))))) : V_X11_workOut_45 l G a0 x1 x3 x4 x5 S Q := by
  refine mj_aload_n dX11_workOut_45 rfl rfl ?_
  obtain ⟨b1, eb1, h⟩ := h
  refine mj_getP dX11_workOut_46 fl_X11_37_10 hk_a0 rfl ⟨b1, eb1, fun hk_b1 => ?_⟩
  refine mj_iload dX11_workOut_49 rfl ?_
  refine mj_aload_n dX11_workOut_51 rfl rfl ?_
  obtain ⟨b2, eb2, h⟩ := h
  refine mj_getP dX11_workOut_52 fl_X11_13_10 hk_a0 rfl ⟨b2, eb2, fun hk_b2 => ?_⟩
  refine mj_iload dX11_workOut_55 rfl ?_
  refine mj_iald dX11_workOut_57 (Or.inl hk_b2) ⟨h.1, ?_⟩
  replace h := h.2
  refine mj_if_ne (tgt := 71) dX11_workOut_58 (by decide) ⟨fun hc => ?_, fun hc => ?_⟩
  · replace h := h.1 hc
    refine mj_aload_n dX11_workOut_71 rfl rfl ?_
    obtain ⟨b3, eb3, h⟩ := h
    refine mj_getP dX11_workOut_72 fl_X11_34_10 hk_a0 rfl ⟨b3, eb3, fun hk_b3 => ?_⟩
    refine mj_aload_n dX11_workOut_75 rfl rfl ?_
    obtain ⟨b4, eb4, h⟩ := h
    refine mj_getP dX11_workOut_76 fl_X11_16_10 hk_a0 rfl ⟨b4, eb4, fun hk_b4 => ?_⟩
    refine mj_iload dX11_workOut_79 rfl ?_
    refine mj_iald dX11_workOut_81 (Or.inl hk_b4) ⟨h.1, ?_⟩
    replace h := h.2
    refine mj_iald dX11_workOut_82 (Or.inl hk_b3) ⟨h.1, ?_⟩
    replace h := h.2
    refine mj_iast dX11_workOut_83 hk_b1 ⟨h.1, ?_⟩
    replace h := h.2
    obtain ⟨S5, eS5⟩ : ∃ z, z = m_si S b1 (x4).toNatClampNeg (m_gi S b3 ((m_gi S b4 (x5).toNatClampNeg)).toNatClampNeg) := ⟨_, rfl⟩
    rw [← eS5]
    replace h := h S5 eS5
    have hk_a0 : m_kd S5 a0 = 10 := by rw [eS5]; exact hk_a0
    have hk_b1 : m_kd S5 b1 = 100 := by rw [eS5]; exact hk_b1
    have hk_b2 : m_kd S5 b2 = 100 := by rw [eS5]; exact hk_b2
    have hk_b3 : m_kd S5 b3 = 100 := by rw [eS5]; exact hk_b3
    have hk_b4 : m_kd S5 b4 = 100 := by rw [eS5]; exact hk_b4
    obtain ⟨v6, ev6⟩ : ∃ z : Int32, z = x4 + (1 : Int32) := ⟨_, rfl⟩
    refine mj_iinc (v := v6) dX11_workOut_84 rfl (by rw [ev6]; rfl) (by decide) rfl rfl ?_
    replace h := h v6 ev6
    refine mj_goto (tgt := 165) dX11_workOut_87 (by decide) ?_
    obtain ⟨v7, ev7⟩ : ∃ z : Int32, z = x5 + (1 : Int32) := ⟨_, rfl⟩
    refine mj_iinc (v := v7) dX11_workOut_165 rfl (by rw [ev7]; rfl) (by decide) rfl rfl ?_
    replace h := h v7 ev7
    refine mj_goto (tgt := 12) dX11_workOut_168 (by decide) ?_
    exact h
  · replace h := h.2 hc
    refine mj_aload_n dX11_workOut_61 rfl rfl ?_
    obtain ⟨b8, eb8, h⟩ := h
    refine mj_getP dX11_workOut_62 fl_X11_16_10 hk_a0 rfl ⟨b8, eb8, fun hk_b8 => ?_⟩
    refine mj_iload dX11_workOut_65 rfl ?_
    refine mj_iald dX11_workOut_67 (Or.inl hk_b8) ⟨h.1, ?_⟩
    replace h := h.2
    refine mj_goto (tgt := 83) dX11_workOut_68 (by decide) ?_
    refine mj_iast dX11_workOut_83 hk_b1 ⟨h.1, ?_⟩
    replace h := h.2
    obtain ⟨S9, eS9⟩ : ∃ z, z = m_si S b1 (x4).toNatClampNeg (m_gi S b8 (x5).toNatClampNeg) := ⟨_, rfl⟩
    rw [← eS9]
    replace h := h S9 eS9
    have hk_a0 : m_kd S9 a0 = 10 := by rw [eS9]; exact hk_a0
    have hk_b1 : m_kd S9 b1 = 100 := by rw [eS9]; exact hk_b1
    have hk_b2 : m_kd S9 b2 = 100 := by rw [eS9]; exact hk_b2
    have hk_b8 : m_kd S9 b8 = 100 := by rw [eS9]; exact hk_b8
    obtain ⟨v10, ev10⟩ : ∃ z : Int32, z = x4 + (1 : Int32) := ⟨_, rfl⟩
    refine mj_iinc (v := v10) dX11_workOut_84 rfl (by rw [ev10]; rfl) (by decide) rfl rfl ?_
    replace h := h v10 ev10
    refine mj_goto (tgt := 165) dX11_workOut_87 (by decide) ?_
    obtain ⟨v11, ev11⟩ : ∃ z : Int32, z = x5 + (1 : Int32) := ⟨_, rfl⟩
    refine mj_iinc (v := v11) dX11_workOut_165 rfl (by rw [ev11]; rfl) (by decide) rfl rfl ?_
    replace h := h v11 ev11
    refine mj_goto (tgt := 12) dX11_workOut_168 (by decide) ?_
    exact h
abbrev V_X11_worthOf_0 (l : Launch) (G : mj_G) (a0 : Nat) (x1 : Int32) (S : mj_S) (Q : mj_S → Int32 → Prop) : Prop := mj_V l G (mj_room 5 0 0) RX11 cX11_worthOf 3 (some .int) false 0 [some (.ref a0), some (.int x1), none] [] S 0 0 (mj_std G (some .int) (mj_room 5 0 0) (mj_qi Q))
abbrev V_X11_worthOf_6 (l : Launch) (G : mj_G) (a0 : Nat) (x1 : Int32) (x2 : Int32) (S : mj_S) (Q : mj_S → Int32 → Prop) : Prop := mj_V l G (mj_room 5 0 0) RX11 cX11_worthOf 3 (some .int) false 6 [some (.ref a0), some (.int x1), some (.int x2)] [] S 0 0 (mj_std G (some .int) (mj_room 5 0 0) (mj_qi Q))
abbrev V_X11_worthOf_57 (l : Launch) (G : mj_G) (a0 : Nat) (x1 : Int32) (x2 : Int32) (S : mj_S) (Q : mj_S → Int32 → Prop) : Prop := mj_V l G (mj_room 5 0 0) RX11 cX11_worthOf 3 (some .int) false 57 [some (.ref a0), some (.int x1), some (.int x2)] [] S 0 0 (mj_std G (some .int) (mj_room 5 0 0) (mj_qi Q))
theorem e_X11_worthOf {l : Launch} {G : mj_G} {a0 : Nat} {x1 : Int32} {S : mj_S} {Q : mj_S → Int32 → Prop} (h : V_X11_worthOf_0 l G a0 x1 S Q) : M_X11_worthOf l G a0 x1 S Q := mj_enter (r := 1) (ini := false) (by decide +kernel) (fun h => by cases h) (fun _ => Nat.le_of_ble_eq_true rfl) rfl h
set_option maxRecDepth 20000 in
set_option maxHeartbeats 1000000 in
theorem b_X11_worthOf_0 {l : Launch} {G : mj_G} {a0 : Nat} {x1 : Int32} {S : mj_S} {Q : mj_S → Int32 → Prop} (hk_a0 : m_kd S a0 = 10) (h : ∀ v1 : Int32, v1 = ((140 : Int32) * x1) → V_X11_worthOf_6 l G a0 x1 v1 S Q) : V_X11_worthOf_0 l G a0 x1 S Q := by
  refine mj_sipush (v := 140) dX11_worthOf_0 (by decide) ?_
  refine mj_iload_n dX11_worthOf_3 rfl rfl ?_
  refine mj_imul dX11_worthOf_4 ?_
  refine mj_nmi (fun v1 ev1 => ?_)
  replace h := h v1 ev1
  refine mj_istore_n dX11_worthOf_5 rfl (by decide) rfl rfl ?_
  exact h
set_option maxRecDepth 20000 in
set_option maxHeartbeats 1000000 in
theorem b_X11_worthOf_6 {l : Launch} {G : mj_G} {a0 : Nat} {x1 : Int32} {x2 : Int32} {S : mj_S} {Q : mj_S → Int32 → Prop} (hk_a0 : m_kd S a0 = 10) (h : ∃ b1, m_gp S a0 9 = some b1 ∧ (vp_in x1 (m_ln S b1) ∧ ((((((140 : Int32) * x1) + (m_gi S b1 (x1).toNatClampNeg)) ≤ x2) → Q S (0 : Int32)) ∧ ((¬ ((((140 : Int32) * x1) + (m_gi S b1 (x1).toNatClampNeg)) ≤ x2)) → ∃ b2, m_gp S a0 10 = some b2 ∧ (vp_in x2 (m_ln S b2) ∧ (∃ b3, m_gp S a0 11 = some b3 ∧ (vp_in x2 (m_ln S b3) ∧ ((((m_gi S b2 (x2).toNatClampNeg) = (m_gi S b3 (x2).toNatClampNeg)) → V_X11_worthOf_57 l G a0 x1 x2 S Q) ∧ ((¬ ((m_gi S b2 (x2).toNatClampNeg) = (m_gi S b3 (x2).toNatClampNeg))) → ∃ b4, m_gp S a0 10 = some b4 ∧ (vp_in x2 (m_ln S b4) ∧ (∃ b5, m_gp S a0 11 = some b5 ∧ (vp_in x2 (m_ln S b5) ∧ (M_X11_workOut l G a0 x1 (m_gi S b4 (x2).toNatClampNeg) (m_gi S b5 (x2).toNatClampNeg) S (fun S6 r7 => ((r7 = 0) → ∀ v8 : Int32, v8 = x2 + (1 : Int32) → V_X11_worthOf_6 l G a0 x1 v8 S6 Q) ∧ ((¬ (r7 = 0)) → V_X11_worthOf_57 l G a0 x1 x2 S6 Q))))))))))))))) : V_X11_worthOf_6 l G a0 x1 x2 S Q := by
  refine mj_iload_n dX11_worthOf_6 rfl rfl ?_
  refine mj_sipush (v := 140) dX11_worthOf_7 (by decide) ?_
  refine mj_iload_n dX11_worthOf_10 rfl rfl ?_
  refine mj_imul dX11_worthOf_11 ?_
  refine mj_aload_n dX11_worthOf_12 rfl rfl ?_
  obtain ⟨b1, eb1, h⟩ := h
  refine mj_getP dX11_worthOf_13 fl_X11_22_10 hk_a0 rfl ⟨b1, eb1, fun hk_b1 => ?_⟩
  refine mj_iload_n dX11_worthOf_16 rfl rfl ?_
  refine mj_iald dX11_worthOf_17 (Or.inl hk_b1) ⟨h.1, ?_⟩
  replace h := h.2
  refine mj_iadd dX11_worthOf_18 ?_
  refine mj_icmp_ge (tgt := 81) dX11_worthOf_19 (by decide) ⟨fun hc => ?_, fun hc => ?_⟩
  · replace h := h.1 hc
    refine mj_iconst (v := 0) dX11_worthOf_81 (by decide) ?_
    exact mj_reti dX11_worthOf_82 rfl ⟨Nat.le_of_ble_eq_true rfl, Nat.le_of_ble_eq_true rfl⟩ h
  · replace h := h.2 hc
    refine mj_aload_n dX11_worthOf_22 rfl rfl ?_
    obtain ⟨b2, eb2, h⟩ := h
    refine mj_getP dX11_worthOf_23 fl_X11_25_10 hk_a0 rfl ⟨b2, eb2, fun hk_b2 => ?_⟩
    refine mj_iload_n dX11_worthOf_26 rfl rfl ?_
    refine mj_iald dX11_worthOf_27 (Or.inl hk_b2) ⟨h.1, ?_⟩
    replace h := h.2
    refine mj_aload_n dX11_worthOf_28 rfl rfl ?_
    obtain ⟨b3, eb3, h⟩ := h
    refine mj_getP dX11_worthOf_29 fl_X11_28_10 hk_a0 rfl ⟨b3, eb3, fun hk_b3 => ?_⟩
    refine mj_iload_n dX11_worthOf_32 rfl rfl ?_
    refine mj_iald dX11_worthOf_33 (Or.inl hk_b3) ⟨h.1, ?_⟩
    replace h := h.2
    refine mj_icmp_eq (tgt := 57) dX11_worthOf_34 (by decide) ⟨fun hc => ?_, fun hc => ?_⟩
    · replace h := h.1 hc
      exact h
    · replace h := h.2 hc
      refine mj_aload_n dX11_worthOf_37 rfl rfl ?_
      refine mj_iload_n dX11_worthOf_38 rfl rfl ?_
      refine mj_aload_n dX11_worthOf_39 rfl rfl ?_
      obtain ⟨b4, eb4, h⟩ := h
      refine mj_getP dX11_worthOf_40 fl_X11_25_10 hk_a0 rfl ⟨b4, eb4, fun hk_b4 => ?_⟩
      refine mj_iload_n dX11_worthOf_43 rfl rfl ?_
      refine mj_iald dX11_worthOf_44 (Or.inl hk_b4) ⟨h.1, ?_⟩
      replace h := h.2
      refine mj_aload_n dX11_worthOf_45 rfl rfl ?_
      obtain ⟨b5, eb5, h⟩ := h
      refine mj_getP dX11_worthOf_46 fl_X11_28_10 hk_a0 rfl ⟨b5, eb5, fun hk_b5 => ?_⟩
      refine mj_iload_n dX11_worthOf_49 rfl rfl ?_
      refine mj_iald dX11_worthOf_50 (Or.inl hk_b5) ⟨h.1, ?_⟩
      replace h := h.2
      refine mj_callVi (as := [.int x1, .int (m_gi S b4 (x2).toNatClampNeg), .int (m_gi S b5 (x2).toNatClampNeg)]) (st := []) dX11_worthOf_51 cal_X11_workOut lk_X11_213 im_X11_workOut se_X11_workOut (ci := 10) rfl (by decide) hk_a0 h rfl (Nat.le_of_ble_eq_true rfl) (by decide) ⟨Nat.le_of_ble_eq_true rfl, Nat.le_of_ble_eq_true rfl⟩ (fun S6 r7 h hn_r7 hp => ?_)
      have hk_a0 : m_kd S6 a0 = 10 := m_kd_pre hp hk_a0 (by decide)
      have hk_b1 : m_kd S6 b1 = 100 := m_kd_pre hp hk_b1 (by decide)
      have hk_b2 : m_kd S6 b2 = 100 := m_kd_pre hp hk_b2 (by decide)
      have hk_b3 : m_kd S6 b3 = 100 := m_kd_pre hp hk_b3 (by decide)
      have hk_b4 : m_kd S6 b4 = 100 := m_kd_pre hp hk_b4 (by decide)
      have hk_b5 : m_kd S6 b5 = 100 := m_kd_pre hp hk_b5 (by decide)
      refine mj_if_eq (tgt := 75) dX11_worthOf_54 (by decide) ⟨fun hc => ?_, fun hc => ?_⟩
      · replace h := h.1 hc
        obtain ⟨v8, ev8⟩ : ∃ z : Int32, z = x2 + (1 : Int32) := ⟨_, rfl⟩
        refine mj_iinc (v := v8) dX11_worthOf_75 rfl (by rw [ev8]; rfl) (by decide) rfl rfl ?_
        replace h := h v8 ev8
        refine mj_goto (tgt := 6) dX11_worthOf_78 (by decide) ?_
        exact h
      · replace h := h.2 hc
        exact h
set_option maxRecDepth 20000 in
set_option maxHeartbeats 1000000 in
theorem b_X11_worthOf_57 {l : Launch} {G : mj_G} {a0 : Nat} {x1 : Int32} {x2 : Int32} {S : mj_S} {Q : mj_S → Int32 → Prop} (hk_a0 : m_kd S a0 = 10) (h : ∃ b1, m_gp S a0 11 = some b1 ∧ (vp_in x2 (m_ln S b1) ∧ (∃ b2, m_gp S a0 12 = some b2 ∧ (vp_in x2 (m_ln S b2) ∧ (M_X11_workOut l G a0 x1 (m_gi S b1 (x2).toNatClampNeg) (m_gi S b2 (x2).toNatClampNeg) S (fun S3 r4 => Q S3 r4)))))) : V_X11_worthOf_57 l G a0 x1 x2 S Q := by
  refine mj_aload_n dX11_worthOf_57 rfl rfl ?_
  refine mj_iload_n dX11_worthOf_58 rfl rfl ?_
  refine mj_aload_n dX11_worthOf_59 rfl rfl ?_
  obtain ⟨b1, eb1, h⟩ := h
  refine mj_getP dX11_worthOf_60 fl_X11_28_10 hk_a0 rfl ⟨b1, eb1, fun hk_b1 => ?_⟩
  refine mj_iload_n dX11_worthOf_63 rfl rfl ?_
  refine mj_iald dX11_worthOf_64 (Or.inl hk_b1) ⟨h.1, ?_⟩
  replace h := h.2
  refine mj_aload_n dX11_worthOf_65 rfl rfl ?_
  obtain ⟨b2, eb2, h⟩ := h
  refine mj_getP dX11_worthOf_66 fl_X11_31_10 hk_a0 rfl ⟨b2, eb2, fun hk_b2 => ?_⟩
  refine mj_iload_n dX11_worthOf_69 rfl rfl ?_
  refine mj_iald dX11_worthOf_70 (Or.inl hk_b2) ⟨h.1, ?_⟩
  replace h := h.2
  refine mj_callVi (as := [.int x1, .int (m_gi S b1 (x2).toNatClampNeg), .int (m_gi S b2 (x2).toNatClampNeg)]) (st := []) dX11_worthOf_71 cal_X11_workOut lk_X11_213 im_X11_workOut se_X11_workOut (ci := 10) rfl (by decide) hk_a0 h rfl (Nat.le_of_ble_eq_true rfl) (by decide) ⟨Nat.le_of_ble_eq_true rfl, Nat.le_of_ble_eq_true rfl⟩ (fun S3 r4 h hn_r4 hp => ?_)
  have hk_a0 : m_kd S3 a0 = 10 := m_kd_pre hp hk_a0 (by decide)
  have hk_b1 : m_kd S3 b1 = 100 := m_kd_pre hp hk_b1 (by decide)
  have hk_b2 : m_kd S3 b2 = 100 := m_kd_pre hp hk_b2 (by decide)
  exact mj_reti dX11_worthOf_74 rfl ⟨Nat.le_of_ble_eq_true rfl, Nat.le_of_ble_eq_true rfl⟩ h
abbrev V_X11_number_0 (l : Launch) (G : mj_G) (a0 : Nat) (x1 : Int32) (x2 : Int32) (S : mj_S) (Q : mj_S → Int32 → Prop) : Prop := mj_V l G (mj_room 3 0 0) RX11 cX11_number 4 (some .int) false 0 [some (.ref a0), some (.int x1), some (.int x2), none] [] S 0 0 (mj_std G (some .int) (mj_room 3 0 0) (mj_qi Q))
abbrev V_X11_number_67 (l : Launch) (G : mj_G) (a0 : Nat) (x1 : Int32) (x2 : Int32) (x3 : Int32) (S : mj_S) (Q : mj_S → Int32 → Prop) : Prop := mj_V l G (mj_room 3 0 0) RX11 cX11_number 4 (some .int) false 67 [some (.ref a0), some (.int x1), some (.int x2), some (.int x3)] [] S 0 0 (mj_std G (some .int) (mj_room 3 0 0) (mj_qi Q))
theorem e_X11_number {l : Launch} {G : mj_G} {a0 : Nat} {x1 : Int32} {x2 : Int32} {S : mj_S} {Q : mj_S → Int32 → Prop} (h : V_X11_number_0 l G a0 x1 x2 S Q) : M_X11_number l G a0 x1 x2 S Q := mj_enter (r := 1) (ini := false) (by decide +kernel) (fun h => by cases h) (fun _ => Nat.le_of_ble_eq_true rfl) rfl h
set_option maxRecDepth 20000 in
set_option maxHeartbeats 1000000 in
theorem b_X11_number_0 {l : Launch} {G : mj_G} {a0 : Nat} {x1 : Int32} {x2 : Int32} {S : mj_S} {Q : mj_S → Int32 → Prop} (hk_a0 : m_kd S a0 = 10) (h : M_X11_look l G a0 S (fun S1 r2 => M_X11_isDigit l G r2 S1 (fun S3 r4 => ((¬ r4 = 0) → M_X11_here l G a0 S3 (fun S5 r6 => ∀ v7 : Int32, v7 = (r6 - (48 : Int32)) → ∀ S8 : mj_S, S8 = m_si S5 a0 3 ((m_gi S5 a0 3) + (1 : Int32)) → M_X11_here l G a0 S8 (fun S9 r10 => M_X11_isDigit l G r10 S9 (fun S11 r12 => ((r12 = 0) → V_X11_number_67 l G a0 x1 x2 v7 S11 Q) ∧ ((¬ (r12 = 0)) → M_X11_here l G a0 S11 (fun S13 r14 => ∀ v15 : Int32, v15 = ((((10 : Int32) * v7) + r14) - (48 : Int32)) → ∀ S16 : mj_S, S16 = m_si S13 a0 3 ((m_gi S13 a0 3) + (1 : Int32)) → V_X11_number_67 l G a0 x1 x2 v15 S16 Q)))))) ∧ ((r4 = 0) → M_X11_bad l G a0 S3 (fun S17 => Q S17 x1))))) : V_X11_number_0 l G a0 x1 x2 S Q := by
  refine mj_aload_n dX11_number_0 rfl rfl ?_
  refine mj_callVi (as := []) (st := []) dX11_number_1 cal_X11_look lk_X11_131 im_X11_look se_X11_look (ci := 10) rfl (by decide) hk_a0 h rfl (Nat.le_of_ble_eq_true rfl) (by decide) ⟨Nat.le_of_ble_eq_true rfl, Nat.le_of_ble_eq_true rfl⟩ (fun S1 r2 h hn_r2 hp => ?_)
  have hk_a0 : m_kd S1 a0 = 10 := m_kd_pre hp hk_a0 (by decide)
  refine mj_callSi (as := [.int r2]) (st := []) dX11_number_4 cal_X11_isDigit lk_X11_134 sm_X11_isDigit h rfl (Nat.le_of_ble_eq_true rfl) (by decide) ⟨Nat.le_of_ble_eq_true rfl, Nat.le_of_ble_eq_true rfl⟩ (fun S3 r4 h hn_r4 hp => ?_)
  have hk_a0 : m_kd S3 a0 = 10 := m_kd_pre hp hk_a0 (by decide)
  refine mj_if_ne (tgt := 16) dX11_number_7 (by decide) ⟨fun hc => ?_, fun hc => ?_⟩
  · replace h := h.1 hc
    refine mj_aload_n dX11_number_16 rfl rfl ?_
    refine mj_callVi (as := []) (st := []) dX11_number_17 cal_X11_here lk_X11_115 im_X11_here se_X11_here (ci := 10) rfl (by decide) hk_a0 h rfl (Nat.le_of_ble_eq_true rfl) (by decide) ⟨Nat.le_of_ble_eq_true rfl, Nat.le_of_ble_eq_true rfl⟩ (fun S5 r6 h hn_r6 hp => ?_)
    have hk_a0 : m_kd S5 a0 = 10 := m_kd_pre hp hk_a0 (by decide)
    refine mj_bipush (v := 48) dX11_number_20 (by decide) ?_
    refine mj_isub dX11_number_22 ?_
    refine mj_nmi (fun v7 ev7 => ?_)
    replace h := h v7 ev7
    refine mj_istore_n dX11_number_23 rfl (by decide) rfl rfl ?_
    refine mj_aload_n dX11_number_24 rfl rfl ?_
    refine mj_dup dX11_number_25 rfl ?_
    refine mj_getI dX11_number_26 fl_X11_112_10 hk_a0 rfl ?_
    refine mj_iconst (v := 1) dX11_number_29 (by decide) ?_
    refine mj_iadd dX11_number_30 ?_
    refine mj_putI dX11_number_31 fl_X11_112_10 hk_a0 (Or.inl rfl) rfl rfl rfl ?_
    obtain ⟨S8, eS8⟩ : ∃ z, z = m_si S5 a0 3 ((m_gi S5 a0 3) + (1 : Int32)) := ⟨_, rfl⟩
    rw [← eS8]
    replace h := h S8 eS8
    have hk_a0 : m_kd S8 a0 = 10 := by rw [eS8]; exact hk_a0
    refine mj_aload_n dX11_number_34 rfl rfl ?_
    refine mj_callVi (as := []) (st := []) dX11_number_35 cal_X11_here lk_X11_115 im_X11_here se_X11_here (ci := 10) rfl (by decide) hk_a0 h rfl (Nat.le_of_ble_eq_true rfl) (by decide) ⟨Nat.le_of_ble_eq_true rfl, Nat.le_of_ble_eq_true rfl⟩ (fun S9 r10 h hn_r10 hp => ?_)
    have hk_a0 : m_kd S9 a0 = 10 := m_kd_pre hp hk_a0 (by decide)
    refine mj_callSi (as := [.int r10]) (st := []) dX11_number_38 cal_X11_isDigit lk_X11_134 sm_X11_isDigit h rfl (Nat.le_of_ble_eq_true rfl) (by decide) ⟨Nat.le_of_ble_eq_true rfl, Nat.le_of_ble_eq_true rfl⟩ (fun S11 r12 h hn_r12 hp => ?_)
    have hk_a0 : m_kd S11 a0 = 10 := m_kd_pre hp hk_a0 (by decide)
    refine mj_if_eq (tgt := 67) dX11_number_41 (by decide) ⟨fun hc => ?_, fun hc => ?_⟩
    · replace h := h.1 hc
      exact h
    · replace h := h.2 hc
      refine mj_bipush (v := 10) dX11_number_44 (by decide) ?_
      refine mj_iload_n dX11_number_46 rfl rfl ?_
      refine mj_imul dX11_number_47 ?_
      refine mj_aload_n dX11_number_48 rfl rfl ?_
      refine mj_callVi (as := []) (st := [.int ((10 : Int32) * v7)]) dX11_number_49 cal_X11_here lk_X11_115 im_X11_here se_X11_here (ci := 10) rfl (by decide) hk_a0 h rfl (Nat.le_of_ble_eq_true rfl) (by decide) ⟨Nat.le_of_ble_eq_true rfl, Nat.le_of_ble_eq_true rfl⟩ (fun S13 r14 h hn_r14 hp => ?_)
      have hk_a0 : m_kd S13 a0 = 10 := m_kd_pre hp hk_a0 (by decide)
      refine mj_iadd dX11_number_52 ?_
      refine mj_bipush (v := 48) dX11_number_53 (by decide) ?_
      refine mj_isub dX11_number_55 ?_
      refine mj_nmi (fun v15 ev15 => ?_)
      replace h := h v15 ev15
      refine mj_istore_n dX11_number_56 rfl (by decide) rfl rfl ?_
      refine mj_aload_n dX11_number_57 rfl rfl ?_
      refine mj_dup dX11_number_58 rfl ?_
      refine mj_getI dX11_number_59 fl_X11_112_10 hk_a0 rfl ?_
      refine mj_iconst (v := 1) dX11_number_62 (by decide) ?_
      refine mj_iadd dX11_number_63 ?_
      refine mj_putI dX11_number_64 fl_X11_112_10 hk_a0 (Or.inl rfl) rfl rfl rfl ?_
      obtain ⟨S16, eS16⟩ : ∃ z, z = m_si S13 a0 3 ((m_gi S13 a0 3) + (1 : Int32)) := ⟨_, rfl⟩
      rw [← eS16]
      replace h := h S16 eS16
      have hk_a0 : m_kd S16 a0 = 10 := by rw [eS16]; exact hk_a0
      exact h
  · replace h := h.2 hc
    refine mj_aload_n dX11_number_10 rfl rfl ?_
    refine mj_callVv (as := []) (st := []) dX11_number_11 cal_X11_bad lk_X11_128 im_X11_bad se_X11_bad (ci := 10) rfl (by decide) hk_a0 h rfl (Nat.le_of_ble_eq_true rfl) (by decide) ⟨Nat.le_of_ble_eq_true rfl, Nat.le_of_ble_eq_true rfl⟩ (fun S17 h hp => ?_)
    have hk_a0 : m_kd S17 a0 = 10 := m_kd_pre hp hk_a0 (by decide)
    refine mj_iload_n dX11_number_14 rfl rfl ?_
    exact mj_reti dX11_number_15 rfl ⟨Nat.le_of_ble_eq_true rfl, Nat.le_of_ble_eq_true rfl⟩ h
set_option maxRecDepth 20000 in
set_option maxHeartbeats 1000000 in
theorem b_X11_number_67 {l : Launch} {G : mj_G} {a0 : Nat} {x1 : Int32} {x2 : Int32} {x3 : Int32} {S : mj_S} {Q : mj_S → Int32 → Prop} (hk_a0 : m_kd S a0 = 10) (h : M_X11_here l G a0 S (fun S1 r2 => M_X11_isDigit l G r2 S1 (fun S3 r4 => ((r4 = 0) → M_X11_in l G x3 x1 x2 S3 (fun S5 r6 => ((¬ r6 = 0) → Q S5 x3) ∧ ((r6 = 0) → ∀ S7 : mj_S, S7 = m_si S5 a0 3 ((m_gi S5 a0 3) - (1 : Int32)) → M_X11_bad l G a0 S7 (fun S8 => Q S8 x3)))) ∧ ((¬ (r4 = 0)) → M_X11_bad l G a0 S3 (fun S9 => Q S9 x3))))) : V_X11_number_67 l G a0 x1 x2 x3 S Q := by
  refine mj_aload_n dX11_number_67 rfl rfl ?_
  refine mj_callVi (as := []) (st := []) dX11_number_68 cal_X11_here lk_X11_115 im_X11_here se_X11_here (ci := 10) rfl (by decide) hk_a0 h rfl (Nat.le_of_ble_eq_true rfl) (by decide) ⟨Nat.le_of_ble_eq_true rfl, Nat.le_of_ble_eq_true rfl⟩ (fun S1 r2 h hn_r2 hp => ?_)
  have hk_a0 : m_kd S1 a0 = 10 := m_kd_pre hp hk_a0 (by decide)
  refine mj_callSi (as := [.int r2]) (st := []) dX11_number_71 cal_X11_isDigit lk_X11_134 sm_X11_isDigit h rfl (Nat.le_of_ble_eq_true rfl) (by decide) ⟨Nat.le_of_ble_eq_true rfl, Nat.le_of_ble_eq_true rfl⟩ (fun S3 r4 h hn_r4 hp => ?_)
  have hk_a0 : m_kd S3 a0 = 10 := m_kd_pre hp hk_a0 (by decide)
  refine mj_if_eq (tgt := 84) dX11_number_74 (by decide) ⟨fun hc => ?_, fun hc => ?_⟩
  · replace h := h.1 hc
    refine mj_iload_n dX11_number_84 rfl rfl ?_
    refine mj_iload_n dX11_number_85 rfl rfl ?_
    refine mj_iload_n dX11_number_86 rfl rfl ?_
    refine mj_callSi (as := [.int x3, .int x1, .int x2]) (st := []) dX11_number_87 cal_X11_in lk_X11_217 sm_X11_in h rfl (Nat.le_of_ble_eq_true rfl) (by decide) ⟨Nat.le_of_ble_eq_true rfl, Nat.le_of_ble_eq_true rfl⟩ (fun S5 r6 h hn_r6 hp => ?_)
    have hk_a0 : m_kd S5 a0 = 10 := m_kd_pre hp hk_a0 (by decide)
    refine mj_if_ne (tgt := 107) dX11_number_90 (by decide) ⟨fun hc => ?_, fun hc => ?_⟩
    · replace h := h.1 hc
      refine mj_iload_n dX11_number_107 rfl rfl ?_
      exact mj_reti dX11_number_108 rfl ⟨Nat.le_of_ble_eq_true rfl, Nat.le_of_ble_eq_true rfl⟩ h
    · replace h := h.2 hc
      refine mj_aload_n dX11_number_93 rfl rfl ?_
      refine mj_dup dX11_number_94 rfl ?_
      refine mj_getI dX11_number_95 fl_X11_112_10 hk_a0 rfl ?_
      refine mj_iconst (v := 1) dX11_number_98 (by decide) ?_
      refine mj_isub dX11_number_99 ?_
      refine mj_putI dX11_number_100 fl_X11_112_10 hk_a0 (Or.inl rfl) rfl rfl rfl ?_
      obtain ⟨S7, eS7⟩ : ∃ z, z = m_si S5 a0 3 ((m_gi S5 a0 3) - (1 : Int32)) := ⟨_, rfl⟩
      rw [← eS7]
      replace h := h S7 eS7
      have hk_a0 : m_kd S7 a0 = 10 := by rw [eS7]; exact hk_a0
      refine mj_aload_n dX11_number_103 rfl rfl ?_
      refine mj_callVv (as := []) (st := []) dX11_number_104 cal_X11_bad lk_X11_128 im_X11_bad se_X11_bad (ci := 10) rfl (by decide) hk_a0 h rfl (Nat.le_of_ble_eq_true rfl) (by decide) ⟨Nat.le_of_ble_eq_true rfl, Nat.le_of_ble_eq_true rfl⟩ (fun S8 h hp => ?_)
      have hk_a0 : m_kd S8 a0 = 10 := m_kd_pre hp hk_a0 (by decide)
      refine mj_iload_n dX11_number_107 rfl rfl ?_
      exact mj_reti dX11_number_108 rfl ⟨Nat.le_of_ble_eq_true rfl, Nat.le_of_ble_eq_true rfl⟩ h
  · replace h := h.2 hc
    refine mj_aload_n dX11_number_77 rfl rfl ?_
    refine mj_callVv (as := []) (st := []) dX11_number_78 cal_X11_bad lk_X11_128 im_X11_bad se_X11_bad (ci := 10) rfl (by decide) hk_a0 h rfl (Nat.le_of_ble_eq_true rfl) (by decide) ⟨Nat.le_of_ble_eq_true rfl, Nat.le_of_ble_eq_true rfl⟩ (fun S9 h hp => ?_)
    have hk_a0 : m_kd S9 a0 = 10 := m_kd_pre hp hk_a0 (by decide)
    refine mj_goto (tgt := 107) dX11_number_81 (by decide) ?_
    refine mj_iload_n dX11_number_107 rfl rfl ?_
    exact mj_reti dX11_number_108 rfl ⟨Nat.le_of_ble_eq_true rfl, Nat.le_of_ble_eq_true rfl⟩ h
abbrev V_X11_itemOf_0 (l : Launch) (G : mj_G) (x0 : Int32) (x1 : Int32) (S : mj_S) (Q : mj_S → Int32 → Prop) : Prop := mj_V l G (mj_room 1 0 0) RX11 cX11_itemOf 2 (some .int) false 0 [some (.int x0), some (.int x1)] [] S 0 0 (mj_std G (some .int) (mj_room 1 0 0) (mj_qi Q))
theorem e_X11_itemOf {l : Launch} {G : mj_G} {x0 : Int32} {x1 : Int32} {S : mj_S} {Q : mj_S → Int32 → Prop} (h : V_X11_itemOf_0 l G x0 x1 S Q) : M_X11_itemOf l G x0 x1 S Q := mj_enter (r := 0) (ini := false) (by decide +kernel) (fun h => by cases h) (fun _ => Nat.le_of_ble_eq_true rfl) rfl h
set_option maxRecDepth 20000 in
set_option maxHeartbeats 1000000 in
theorem b_X11_itemOf_0 {l : Launch} {G : mj_G} {x0 : Int32} {x1 : Int32} {S : mj_S} {Q : mj_S → Int32 → Prop} (h : (x0.toInt = 99 → ((¬ x1 = (97 : Int32)) → ((¬ x1 = (100 : Int32)) → ((¬ x1 = (118 : Int32)) → ((¬ x1 = (107 : Int32)) → ((¬ x1 = (103 : Int32)) → ((¬ x1 = (111 : Int32)) → Q S (-1 : Int32)) ∧ ((x1 = (111 : Int32)) → Q S (5 : Int32))) ∧ ((x1 = (103 : Int32)) → Q S (4 : Int32))) ∧ ((x1 = (107 : Int32)) → Q S (3 : Int32))) ∧ ((x1 = (118 : Int32)) → Q S (2 : Int32))) ∧ ((x1 = (100 : Int32)) → Q S (1 : Int32))) ∧ ((x1 = (97 : Int32)) → Q S (0 : Int32))) ∧ (x0.toInt = 115 → ((¬ x1 = (119 : Int32)) → ((¬ x1 = (104 : Int32)) → ((¬ x1 = (108 : Int32)) → ((¬ x1 = (109 : Int32)) → Q S (-1 : Int32)) ∧ ((x1 = (109 : Int32)) → Q S (3 : Int32))) ∧ ((x1 = (108 : Int32)) → Q S (2 : Int32))) ∧ ((x1 = (104 : Int32)) → Q S (1 : Int32))) ∧ ((x1 = (119 : Int32)) → Q S (0 : Int32))) ∧ (¬ x0.toInt = 99 ∧ ¬ x0.toInt = 115 → ((¬ x1 = (99 : Int32)) → ((¬ x1 = (109 : Int32)) → Q S (-1 : Int32)) ∧ ((x1 = (109 : Int32)) → Q S (1 : Int32))) ∧ ((x1 = (99 : Int32)) → Q S (0 : Int32)))) : V_X11_itemOf_0 l G x0 x1 S Q := by
  refine mj_iload_n dX11_itemOf_0 rfl rfl ?_
  by_cases e0 : x0.toInt = 99
  · replace h := h.1 e0
    refine mj_look (tgt := 70) (off := 69) dX11_itemOf_1 (by decide) (by rw [e0]; rfl) (by decide) ?_
    refine mj_iload_n dX11_itemOf_70 rfl rfl ?_
    refine mj_bipush (v := 97) dX11_itemOf_71 (by decide) ?_
    refine mj_icmp_ne (tgt := 80) dX11_itemOf_73 (by decide) ⟨fun hc => ?_, fun hc => ?_⟩
    · replace h := h.1 hc
      refine mj_iload_n dX11_itemOf_80 rfl rfl ?_
      refine mj_bipush (v := 100) dX11_itemOf_81 (by decide) ?_
      refine mj_icmp_ne (tgt := 90) dX11_itemOf_83 (by decide) ⟨fun hc => ?_, fun hc => ?_⟩
      · replace h := h.1 hc
        refine mj_iload_n dX11_itemOf_90 rfl rfl ?_
        refine mj_bipush (v := 118) dX11_itemOf_91 (by decide) ?_
        refine mj_icmp_ne (tgt := 100) dX11_itemOf_93 (by decide) ⟨fun hc => ?_, fun hc => ?_⟩
        · replace h := h.1 hc
          refine mj_iload_n dX11_itemOf_100 rfl rfl ?_
          refine mj_bipush (v := 107) dX11_itemOf_101 (by decide) ?_
          refine mj_icmp_ne (tgt := 110) dX11_itemOf_103 (by decide) ⟨fun hc => ?_, fun hc => ?_⟩
          · replace h := h.1 hc
            refine mj_iload_n dX11_itemOf_110 rfl rfl ?_
            refine mj_bipush (v := 103) dX11_itemOf_111 (by decide) ?_
            refine mj_icmp_ne (tgt := 120) dX11_itemOf_113 (by decide) ⟨fun hc => ?_, fun hc => ?_⟩
            · replace h := h.1 hc
              refine mj_iload_n dX11_itemOf_120 rfl rfl ?_
              refine mj_bipush (v := 111) dX11_itemOf_121 (by decide) ?_
              refine mj_icmp_ne (tgt := 130) dX11_itemOf_123 (by decide) ⟨fun hc => ?_, fun hc => ?_⟩
              · replace h := h.1 hc
                refine mj_iconst (v := (-1)) dX11_itemOf_130 (by decide) ?_
                exact mj_reti dX11_itemOf_131 rfl ⟨Nat.le_of_ble_eq_true rfl, Nat.le_of_ble_eq_true rfl⟩ h
              · replace h := h.2 hc
                refine mj_iconst (v := 5) dX11_itemOf_126 (by decide) ?_
                refine mj_goto (tgt := 131) dX11_itemOf_127 (by decide) ?_
                exact mj_reti dX11_itemOf_131 rfl ⟨Nat.le_of_ble_eq_true rfl, Nat.le_of_ble_eq_true rfl⟩ h
            · replace h := h.2 hc
              refine mj_iconst (v := 4) dX11_itemOf_116 (by decide) ?_
              refine mj_goto (tgt := 131) dX11_itemOf_117 (by decide) ?_
              exact mj_reti dX11_itemOf_131 rfl ⟨Nat.le_of_ble_eq_true rfl, Nat.le_of_ble_eq_true rfl⟩ h
          · replace h := h.2 hc
            refine mj_iconst (v := 3) dX11_itemOf_106 (by decide) ?_
            refine mj_goto (tgt := 131) dX11_itemOf_107 (by decide) ?_
            exact mj_reti dX11_itemOf_131 rfl ⟨Nat.le_of_ble_eq_true rfl, Nat.le_of_ble_eq_true rfl⟩ h
        · replace h := h.2 hc
          refine mj_iconst (v := 2) dX11_itemOf_96 (by decide) ?_
          refine mj_goto (tgt := 131) dX11_itemOf_97 (by decide) ?_
          exact mj_reti dX11_itemOf_131 rfl ⟨Nat.le_of_ble_eq_true rfl, Nat.le_of_ble_eq_true rfl⟩ h
      · replace h := h.2 hc
        refine mj_iconst (v := 1) dX11_itemOf_86 (by decide) ?_
        refine mj_goto (tgt := 131) dX11_itemOf_87 (by decide) ?_
        exact mj_reti dX11_itemOf_131 rfl ⟨Nat.le_of_ble_eq_true rfl, Nat.le_of_ble_eq_true rfl⟩ h
    · replace h := h.2 hc
      refine mj_iconst (v := 0) dX11_itemOf_76 (by decide) ?_
      refine mj_goto (tgt := 131) dX11_itemOf_77 (by decide) ?_
      exact mj_reti dX11_itemOf_131 rfl ⟨Nat.le_of_ble_eq_true rfl, Nat.le_of_ble_eq_true rfl⟩ h
  · skip
    by_cases e1 : x0.toInt = 115
    · replace h := h.2.1 e1
      refine mj_look (tgt := 28) (off := 27) dX11_itemOf_1 (by decide) (by rw [e1]; rfl) (by decide) ?_
      refine mj_iload_n dX11_itemOf_28 rfl rfl ?_
      refine mj_bipush (v := 119) dX11_itemOf_29 (by decide) ?_
      refine mj_icmp_ne (tgt := 38) dX11_itemOf_31 (by decide) ⟨fun hc => ?_, fun hc => ?_⟩
      · replace h := h.1 hc
        refine mj_iload_n dX11_itemOf_38 rfl rfl ?_
        refine mj_bipush (v := 104) dX11_itemOf_39 (by decide) ?_
        refine mj_icmp_ne (tgt := 48) dX11_itemOf_41 (by decide) ⟨fun hc => ?_, fun hc => ?_⟩
        · replace h := h.1 hc
          refine mj_iload_n dX11_itemOf_48 rfl rfl ?_
          refine mj_bipush (v := 108) dX11_itemOf_49 (by decide) ?_
          refine mj_icmp_ne (tgt := 58) dX11_itemOf_51 (by decide) ⟨fun hc => ?_, fun hc => ?_⟩
          · replace h := h.1 hc
            refine mj_iload_n dX11_itemOf_58 rfl rfl ?_
            refine mj_bipush (v := 109) dX11_itemOf_59 (by decide) ?_
            refine mj_icmp_ne (tgt := 68) dX11_itemOf_61 (by decide) ⟨fun hc => ?_, fun hc => ?_⟩
            · replace h := h.1 hc
              refine mj_iconst (v := (-1)) dX11_itemOf_68 (by decide) ?_
              exact mj_reti dX11_itemOf_69 rfl ⟨Nat.le_of_ble_eq_true rfl, Nat.le_of_ble_eq_true rfl⟩ h
            · replace h := h.2 hc
              refine mj_iconst (v := 3) dX11_itemOf_64 (by decide) ?_
              refine mj_goto (tgt := 69) dX11_itemOf_65 (by decide) ?_
              exact mj_reti dX11_itemOf_69 rfl ⟨Nat.le_of_ble_eq_true rfl, Nat.le_of_ble_eq_true rfl⟩ h
          · replace h := h.2 hc
            refine mj_iconst (v := 2) dX11_itemOf_54 (by decide) ?_
            refine mj_goto (tgt := 69) dX11_itemOf_55 (by decide) ?_
            exact mj_reti dX11_itemOf_69 rfl ⟨Nat.le_of_ble_eq_true rfl, Nat.le_of_ble_eq_true rfl⟩ h
        · replace h := h.2 hc
          refine mj_iconst (v := 1) dX11_itemOf_44 (by decide) ?_
          refine mj_goto (tgt := 69) dX11_itemOf_45 (by decide) ?_
          exact mj_reti dX11_itemOf_69 rfl ⟨Nat.le_of_ble_eq_true rfl, Nat.le_of_ble_eq_true rfl⟩ h
      · replace h := h.2 hc
        refine mj_iconst (v := 0) dX11_itemOf_34 (by decide) ?_
        refine mj_goto (tgt := 69) dX11_itemOf_35 (by decide) ?_
        exact mj_reti dX11_itemOf_69 rfl ⟨Nat.le_of_ble_eq_true rfl, Nat.le_of_ble_eq_true rfl⟩ h
    · skip
      replace h := h.2.2 ⟨e0, e1⟩
      refine mj_look (tgt := 132) (off := 131) dX11_itemOf_1 (by decide) (by simp [Op.lookupswitch.offset_cons, Op.lookupswitch.offset, Ne.symm e0, e0, Ne.symm e1, e1]) (by decide) ?_
      refine mj_iload_n dX11_itemOf_132 rfl rfl ?_
      refine mj_bipush (v := 99) dX11_itemOf_133 (by decide) ?_
      refine mj_icmp_ne (tgt := 142) dX11_itemOf_135 (by decide) ⟨fun hc => ?_, fun hc => ?_⟩
      · replace h := h.1 hc
        refine mj_iload_n dX11_itemOf_142 rfl rfl ?_
        refine mj_bipush (v := 109) dX11_itemOf_143 (by decide) ?_
        refine mj_icmp_ne (tgt := 152) dX11_itemOf_145 (by decide) ⟨fun hc => ?_, fun hc => ?_⟩
        · replace h := h.1 hc
          refine mj_iconst (v := (-1)) dX11_itemOf_152 (by decide) ?_
          exact mj_reti dX11_itemOf_153 rfl ⟨Nat.le_of_ble_eq_true rfl, Nat.le_of_ble_eq_true rfl⟩ h
        · replace h := h.2 hc
          refine mj_iconst (v := 1) dX11_itemOf_148 (by decide) ?_
          refine mj_goto (tgt := 153) dX11_itemOf_149 (by decide) ?_
          exact mj_reti dX11_itemOf_153 rfl ⟨Nat.le_of_ble_eq_true rfl, Nat.le_of_ble_eq_true rfl⟩ h
      · replace h := h.2 hc
        refine mj_iconst (v := 0) dX11_itemOf_138 (by decide) ?_
        refine mj_goto (tgt := 153) dX11_itemOf_139 (by decide) ?_
        exact mj_reti dX11_itemOf_153 rfl ⟨Nat.le_of_ble_eq_true rfl, Nat.le_of_ble_eq_true rfl⟩ h
abbrev V_X11_lowest_0 (l : Launch) (G : mj_G) (x0 : Int32) (x1 : Int32) (S : mj_S) (Q : mj_S → Int32 → Prop) : Prop := mj_V l G (mj_room 1 0 0) RX11 cX11_lowest 2 (some .int) false 0 [some (.int x0), some (.int x1)] [] S 0 0 (mj_std G (some .int) (mj_room 1 0 0) (mj_qi Q))
abbrev V_X11_lowest_11 (l : Launch) (G : mj_G) (x0 : Int32) (x1 : Int32) (S : mj_S) (Q : mj_S → Int32 → Prop) : Prop := mj_V l G (mj_room 1 0 0) RX11 cX11_lowest 2 (some .int) false 11 [some (.int x0), some (.int x1)] [] S 0 0 (mj_std G (some .int) (mj_room 1 0 0) (mj_qi Q))
abbrev V_X11_lowest_22 (l : Launch) (G : mj_G) (x0 : Int32) (x1 : Int32) (S : mj_S) (Q : mj_S → Int32 → Prop) : Prop := mj_V l G (mj_room 1 0 0) RX11 cX11_lowest 2 (some .int) false 22 [some (.int x0), some (.int x1)] [] S 0 0 (mj_std G (some .int) (mj_room 1 0 0) (mj_qi Q))
theorem e_X11_lowest {l : Launch} {G : mj_G} {x0 : Int32} {x1 : Int32} {S : mj_S} {Q : mj_S → Int32 → Prop} (h : V_X11_lowest_0 l G x0 x1 S Q) : M_X11_lowest l G x0 x1 S Q := mj_enter (r := 0) (ini := false) (by decide +kernel) (fun h => by cases h) (fun _ => Nat.le_of_ble_eq_true rfl) rfl h
set_option maxRecDepth 20000 in
set_option maxHeartbeats 1000000 in
theorem b_X11_lowest_0 {l : Launch} {G : mj_G} {x0 : Int32} {x1 : Int32} {S : mj_S} {Q : mj_S → Int32 → Prop} (h : ((¬ x0 = (115 : Int32)) → V_X11_lowest_11 l G x0 x1 S Q) ∧ ((x0 = (115 : Int32)) → ((x1 ≤ (1 : Int32)) → Q S (1 : Int32)) ∧ ((¬ (x1 ≤ (1 : Int32))) → V_X11_lowest_11 l G x0 x1 S Q))) : V_X11_lowest_0 l G x0 x1 S Q := by
  refine mj_iload_n dX11_lowest_0 rfl rfl ?_
  refine mj_bipush (v := 115) dX11_lowest_1 (by decide) ?_
  refine mj_icmp_ne (tgt := 11) dX11_lowest_3 (by decide) ⟨fun hc => ?_, fun hc => ?_⟩
  · replace h := h.1 hc
    exact h
  · replace h := h.2 hc
    refine mj_iload_n dX11_lowest_6 rfl rfl ?_
    refine mj_iconst (v := 1) dX11_lowest_7 (by decide) ?_
    refine mj_icmp_le (tgt := 33) dX11_lowest_8 (by decide) ⟨fun hc => ?_, fun hc => ?_⟩
    · replace h := h.1 hc
      refine mj_iconst (v := 1) dX11_lowest_33 (by decide) ?_
      refine mj_goto (tgt := 38) dX11_lowest_34 (by decide) ?_
      exact mj_reti dX11_lowest_38 rfl ⟨Nat.le_of_ble_eq_true rfl, Nat.le_of_ble_eq_true rfl⟩ h
    · replace h := h.2 hc
      exact h
set_option maxRecDepth 20000 in
set_option maxHeartbeats 1000000 in
theorem b_X11_lowest_11 {l : Launch} {G : mj_G} {x0 : Int32} {x1 : Int32} {S : mj_S} {Q : mj_S → Int32 → Prop} (h : ((¬ x0 = (99 : Int32)) → V_X11_lowest_22 l G x0 x1 S Q) ∧ ((x0 = (99 : Int32)) → ((x1 = (3 : Int32)) → Q S (1 : Int32)) ∧ ((¬ (x1 = (3 : Int32))) → V_X11_lowest_22 l G x0 x1 S Q))) : V_X11_lowest_11 l G x0 x1 S Q := by
  refine mj_iload_n dX11_lowest_11 rfl rfl ?_
  refine mj_bipush (v := 99) dX11_lowest_12 (by decide) ?_
  refine mj_icmp_ne (tgt := 22) dX11_lowest_14 (by decide) ⟨fun hc => ?_, fun hc => ?_⟩
  · replace h := h.1 hc
    exact h
  · replace h := h.2 hc
    refine mj_iload_n dX11_lowest_17 rfl rfl ?_
    refine mj_iconst (v := 3) dX11_lowest_18 (by decide) ?_
    refine mj_icmp_eq (tgt := 33) dX11_lowest_19 (by decide) ⟨fun hc => ?_, fun hc => ?_⟩
    · replace h := h.1 hc
      refine mj_iconst (v := 1) dX11_lowest_33 (by decide) ?_
      refine mj_goto (tgt := 38) dX11_lowest_34 (by decide) ?_
      exact mj_reti dX11_lowest_38 rfl ⟨Nat.le_of_ble_eq_true rfl, Nat.le_of_ble_eq_true rfl⟩ h
    · replace h := h.2 hc
      exact h
set_option maxRecDepth 20000 in
set_option maxHeartbeats 1000000 in
theorem b_X11_lowest_22 {l : Launch} {G : mj_G} {x0 : Int32} {x1 : Int32} {S : mj_S} {Q : mj_S → Int32 → Prop} (h : ((¬ x0 = (112 : Int32)) → Q S (0 : Int32)) ∧ ((x0 = (112 : Int32)) → ((¬ x1 = (1 : Int32)) → Q S (0 : Int32)) ∧ ((x1 = (1 : Int32)) → Q S (1 : Int32)))) : V_X11_lowest_22 l G x0 x1 S Q := by
  refine mj_iload_n dX11_lowest_22 rfl rfl ?_
  refine mj_bipush (v := 112) dX11_lowest_23 (by decide) ?_
  refine mj_icmp_ne (tgt := 37) dX11_lowest_25 (by decide) ⟨fun hc => ?_, fun hc => ?_⟩
  · replace h := h.1 hc
    refine mj_iconst (v := 0) dX11_lowest_37 (by decide) ?_
    exact mj_reti dX11_lowest_38 rfl ⟨Nat.le_of_ble_eq_true rfl, Nat.le_of_ble_eq_true rfl⟩ h
  · replace h := h.2 hc
    refine mj_iload_n dX11_lowest_28 rfl rfl ?_
    refine mj_iconst (v := 1) dX11_lowest_29 (by decide) ?_
    refine mj_icmp_ne (tgt := 37) dX11_lowest_30 (by decide) ⟨fun hc => ?_, fun hc => ?_⟩
    · replace h := h.1 hc
      refine mj_iconst (v := 0) dX11_lowest_37 (by decide) ?_
      exact mj_reti dX11_lowest_38 rfl ⟨Nat.le_of_ble_eq_true rfl, Nat.le_of_ble_eq_true rfl⟩ h
    · replace h := h.2 hc
      refine mj_iconst (v := 1) dX11_lowest_33 (by decide) ?_
      refine mj_goto (tgt := 38) dX11_lowest_34 (by decide) ?_
      exact mj_reti dX11_lowest_38 rfl ⟨Nat.le_of_ble_eq_true rfl, Nat.le_of_ble_eq_true rfl⟩ h
abbrev V_X11_highest_0 (l : Launch) (G : mj_G) (x0 : Int32) (x1 : Int32) (S : mj_S) (Q : mj_S → Int32 → Prop) : Prop := mj_V l G (mj_room 1 0 0) RX11 cX11_highest 2 (some .int) false 0 [some (.int x0), some (.int x1)] [] S 0 0 (mj_std G (some .int) (mj_room 1 0 0) (mj_qi Q))
theorem e_X11_highest {l : Launch} {G : mj_G} {x0 : Int32} {x1 : Int32} {S : mj_S} {Q : mj_S → Int32 → Prop} (h : V_X11_highest_0 l G x0 x1 S Q) : M_X11_highest l G x0 x1 S Q := mj_enter (r := 0) (ini := false) (by decide +kernel) (fun h => by cases h) (fun _ => Nat.le_of_ble_eq_true rfl) rfl h
set_option maxRecDepth 20000 in
set_option maxHeartbeats 1000000 in
theorem b_X11_highest_0 {l : Launch} {G : mj_G} {x0 : Int32} {x1 : Int32} {S : mj_S} {Q : mj_S → Int32 → Prop} (h : (x0.toInt = 99 → ((¬ x1 = 0) → ((x1 = (1 : Int32)) → Q S (1 : Int32)) ∧ ((¬ (x1 = (1 : Int32))) → ((¬ x1 = (5 : Int32)) → ((¬ x1 = (3 : Int32)) → Q S (9 : Int32)) ∧ ((x1 = (3 : Int32)) → Q S (99 : Int32))) ∧ ((x1 = (5 : Int32)) → Q S (1 : Int32)))) ∧ ((x1 = 0) → Q S (19 : Int32))) ∧ (x0.toInt = 115 → ((¬ x1 = 0) → ((¬ x1 = (1 : Int32)) → ((¬ x1 = (2 : Int32)) → Q S (9 : Int32)) ∧ ((x1 = (2 : Int32)) → Q S (99 : Int32))) ∧ ((x1 = (1 : Int32)) → Q S (4 : Int32))) ∧ ((x1 = 0) → Q S (5 : Int32))) ∧ (¬ x0.toInt = 99 ∧ ¬ x0.toInt = 115 → ((¬ x1 = 0) → Q S (9 : Int32)) ∧ ((x1 = 0) → Q S (19 : Int32)))) : V_X11_highest_0 l G x0 x1 S Q := by
  refine mj_iload_n dX11_highest_0 rfl rfl ?_
  by_cases e0 : x0.toInt = 99
  · replace h := h.1 e0
    refine mj_look (tgt := 58) (off := 57) dX11_highest_1 (by decide) (by rw [e0]; rfl) (by decide) ?_
    refine mj_iload_n dX11_highest_58 rfl rfl ?_
    refine mj_if_ne (tgt := 67) dX11_highest_59 (by decide) ⟨fun hc => ?_, fun hc => ?_⟩
    · replace h := h.1 hc
      refine mj_iload_n dX11_highest_67 rfl rfl ?_
      refine mj_iconst (v := 1) dX11_highest_68 (by decide) ?_
      refine mj_icmp_eq (tgt := 77) dX11_highest_69 (by decide) ⟨fun hc => ?_, fun hc => ?_⟩
      · replace h := h.1 hc
        refine mj_iconst (v := 1) dX11_highest_77 (by decide) ?_
        refine mj_goto (tgt := 93) dX11_highest_78 (by decide) ?_
        exact mj_reti dX11_highest_93 rfl ⟨Nat.le_of_ble_eq_true rfl, Nat.le_of_ble_eq_true rfl⟩ h
      · replace h := h.2 hc
        refine mj_iload_n dX11_highest_72 rfl rfl ?_
        refine mj_iconst (v := 5) dX11_highest_73 (by decide) ?_
        refine mj_icmp_ne (tgt := 81) dX11_highest_74 (by decide) ⟨fun hc => ?_, fun hc => ?_⟩
        · replace h := h.1 hc
          refine mj_iload_n dX11_highest_81 rfl rfl ?_
          refine mj_iconst (v := 3) dX11_highest_82 (by decide) ?_
          refine mj_icmp_ne (tgt := 91) dX11_highest_83 (by decide) ⟨fun hc => ?_, fun hc => ?_⟩
          · replace h := h.1 hc
            refine mj_bipush (v := 9) dX11_highest_91 (by decide) ?_
            exact mj_reti dX11_highest_93 rfl ⟨Nat.le_of_ble_eq_true rfl, Nat.le_of_ble_eq_true rfl⟩ h
          · replace h := h.2 hc
            refine mj_bipush (v := 99) dX11_highest_86 (by decide) ?_
            refine mj_goto (tgt := 93) dX11_highest_88 (by decide) ?_
            exact mj_reti dX11_highest_93 rfl ⟨Nat.le_of_ble_eq_true rfl, Nat.le_of_ble_eq_true rfl⟩ h
        · replace h := h.2 hc
          refine mj_iconst (v := 1) dX11_highest_77 (by decide) ?_
          refine mj_goto (tgt := 93) dX11_highest_78 (by decide) ?_
          exact mj_reti dX11_highest_93 rfl ⟨Nat.le_of_ble_eq_true rfl, Nat.le_of_ble_eq_true rfl⟩ h
    · replace h := h.2 hc
      refine mj_bipush (v := 19) dX11_highest_62 (by decide) ?_
      refine mj_goto (tgt := 93) dX11_highest_64 (by decide) ?_
      exact mj_reti dX11_highest_93 rfl ⟨Nat.le_of_ble_eq_true rfl, Nat.le_of_ble_eq_true rfl⟩ h
  · skip
    by_cases e1 : x0.toInt = 115
    · replace h := h.2.1 e1
      refine mj_look (tgt := 28) (off := 27) dX11_highest_1 (by decide) (by rw [e1]; rfl) (by decide) ?_
      refine mj_iload_n dX11_highest_28 rfl rfl ?_
      refine mj_if_ne (tgt := 36) dX11_highest_29 (by decide) ⟨fun hc => ?_, fun hc => ?_⟩
      · replace h := h.1 hc
        refine mj_iload_n dX11_highest_36 rfl rfl ?_
        refine mj_iconst (v := 1) dX11_highest_37 (by decide) ?_
        refine mj_icmp_ne (tgt := 45) dX11_highest_38 (by decide) ⟨fun hc => ?_, fun hc => ?_⟩
        · replace h := h.1 hc
          refine mj_iload_n dX11_highest_45 rfl rfl ?_
          refine mj_iconst (v := 2) dX11_highest_46 (by decide) ?_
          refine mj_icmp_ne (tgt := 55) dX11_highest_47 (by decide) ⟨fun hc => ?_, fun hc => ?_⟩
          · replace h := h.1 hc
            refine mj_bipush (v := 9) dX11_highest_55 (by decide) ?_
            exact mj_reti dX11_highest_57 rfl ⟨Nat.le_of_ble_eq_true rfl, Nat.le_of_ble_eq_true rfl⟩ h
          · replace h := h.2 hc
            refine mj_bipush (v := 99) dX11_highest_50 (by decide) ?_
            refine mj_goto (tgt := 57) dX11_highest_52 (by decide) ?_
            exact mj_reti dX11_highest_57 rfl ⟨Nat.le_of_ble_eq_true rfl, Nat.le_of_ble_eq_true rfl⟩ h
        · replace h := h.2 hc
          refine mj_iconst (v := 4) dX11_highest_41 (by decide) ?_
          refine mj_goto (tgt := 57) dX11_highest_42 (by decide) ?_
          exact mj_reti dX11_highest_57 rfl ⟨Nat.le_of_ble_eq_true rfl, Nat.le_of_ble_eq_true rfl⟩ h
      · replace h := h.2 hc
        refine mj_iconst (v := 5) dX11_highest_32 (by decide) ?_
        refine mj_goto (tgt := 57) dX11_highest_33 (by decide) ?_
        exact mj_reti dX11_highest_57 rfl ⟨Nat.le_of_ble_eq_true rfl, Nat.le_of_ble_eq_true rfl⟩ h
    · skip
      replace h := h.2.2 ⟨e0, e1⟩
      refine mj_look (tgt := 94) (off := 93) dX11_highest_1 (by decide) (by simp [Op.lookupswitch.offset_cons, Op.lookupswitch.offset, Ne.symm e0, e0, Ne.symm e1, e1]) (by decide) ?_
      refine mj_iload_n dX11_highest_94 rfl rfl ?_
      refine mj_if_ne (tgt := 103) dX11_highest_95 (by decide) ⟨fun hc => ?_, fun hc => ?_⟩
      · replace h := h.1 hc
        refine mj_bipush (v := 9) dX11_highest_103 (by decide) ?_
        exact mj_reti dX11_highest_105 rfl ⟨Nat.le_of_ble_eq_true rfl, Nat.le_of_ble_eq_true rfl⟩ h
      · replace h := h.2 hc
        refine mj_bipush (v := 19) dX11_highest_98 (by decide) ?_
        refine mj_goto (tgt := 105) dX11_highest_100 (by decide) ?_
        exact mj_reti dX11_highest_105 rfl ⟨Nat.le_of_ble_eq_true rfl, Nat.le_of_ble_eq_true rfl⟩ h
abbrev V_X11_usual_0 (l : Launch) (G : mj_G) (x0 : Int32) (x1 : Int32) (S : mj_S) (Q : mj_S → Int32 → Prop) : Prop := mj_V l G (mj_room 1 0 0) RX11 cX11_usual 2 (some .int) false 0 [some (.int x0), some (.int x1)] [] S 0 0 (mj_std G (some .int) (mj_room 1 0 0) (mj_qi Q))
theorem e_X11_usual {l : Launch} {G : mj_G} {x0 : Int32} {x1 : Int32} {S : mj_S} {Q : mj_S → Int32 → Prop} (h : V_X11_usual_0 l G x0 x1 S Q) : M_X11_usual l G x0 x1 S Q := mj_enter (r := 0) (ini := false) (by decide +kernel) (fun h => by cases h) (fun _ => Nat.le_of_ble_eq_true rfl) rfl h
set_option maxRecDepth 20000 in
set_option maxHeartbeats 1000000 in
theorem b_X11_usual_0 {l : Launch} {G : mj_G} {x0 : Int32} {x1 : Int32} {S : mj_S} {Q : mj_S → Int32 → Prop} (h : (x0.toInt = 99 → ((¬ x1 = (2 : Int32)) → ((¬ x1 = (3 : Int32)) → ((¬ x1 = (4 : Int32)) → Q S (0 : Int32)) ∧ ((x1 = (4 : Int32)) → Q S (1 : Int32))) ∧ ((x1 = (3 : Int32)) → Q S (30 : Int32))) ∧ ((x1 = (2 : Int32)) → Q S (5 : Int32))) ∧ (x0.toInt = 115 → ((¬ x1 = 0) → ((¬ x1 = (1 : Int32)) → ((¬ x1 = (2 : Int32)) → Q S (1 : Int32)) ∧ ((x1 = (2 : Int32)) → Q S (40 : Int32))) ∧ ((x1 = (1 : Int32)) → Q S (3 : Int32))) ∧ ((x1 = 0) → Q S (4 : Int32))) ∧ (¬ x0.toInt = 99 ∧ ¬ x0.toInt = 115 → ((¬ x1 = 0) → Q S (3 : Int32)) ∧ ((x1 = 0) → Q S (0 : Int32)))) : V_X11_usual_0 l G x0 x1 S Q := by
  refine mj_iload_n dX11_usual_0 rfl rfl ?_
  by_cases e0 : x0.toInt = 99
  · replace h := h.1 e0
    refine mj_look (tgt := 57) (off := 56) dX11_usual_1 (by decide) (by rw [e0]; rfl) (by decide) ?_
    refine mj_iload_n dX11_usual_57 rfl rfl ?_
    refine mj_iconst (v := 2) dX11_usual_58 (by decide) ?_
    refine mj_icmp_ne (tgt := 66) dX11_usual_59 (by decide) ⟨fun hc => ?_, fun hc => ?_⟩
    · replace h := h.1 hc
      refine mj_iload_n dX11_usual_66 rfl rfl ?_
      refine mj_iconst (v := 3) dX11_usual_67 (by decide) ?_
      refine mj_icmp_ne (tgt := 76) dX11_usual_68 (by decide) ⟨fun hc => ?_, fun hc => ?_⟩
      · replace h := h.1 hc
        refine mj_iload_n dX11_usual_76 rfl rfl ?_
        refine mj_iconst (v := 4) dX11_usual_77 (by decide) ?_
        refine mj_icmp_ne (tgt := 85) dX11_usual_78 (by decide) ⟨fun hc => ?_, fun hc => ?_⟩
        · replace h := h.1 hc
          refine mj_iconst (v := 0) dX11_usual_85 (by decide) ?_
          exact mj_reti dX11_usual_86 rfl ⟨Nat.le_of_ble_eq_true rfl, Nat.le_of_ble_eq_true rfl⟩ h
        · replace h := h.2 hc
          refine mj_iconst (v := 1) dX11_usual_81 (by decide) ?_
          refine mj_goto (tgt := 86) dX11_usual_82 (by decide) ?_
          exact mj_reti dX11_usual_86 rfl ⟨Nat.le_of_ble_eq_true rfl, Nat.le_of_ble_eq_true rfl⟩ h
      · replace h := h.2 hc
        refine mj_bipush (v := 30) dX11_usual_71 (by decide) ?_
        refine mj_goto (tgt := 86) dX11_usual_73 (by decide) ?_
        exact mj_reti dX11_usual_86 rfl ⟨Nat.le_of_ble_eq_true rfl, Nat.le_of_ble_eq_true rfl⟩ h
    · replace h := h.2 hc
      refine mj_iconst (v := 5) dX11_usual_62 (by decide) ?_
      refine mj_goto (tgt := 86) dX11_usual_63 (by decide) ?_
      exact mj_reti dX11_usual_86 rfl ⟨Nat.le_of_ble_eq_true rfl, Nat.le_of_ble_eq_true rfl⟩ h
  · skip
    by_cases e1 : x0.toInt = 115
    · replace h := h.2.1 e1
      refine mj_look (tgt := 28) (off := 27) dX11_usual_1 (by decide) (by rw [e1]; rfl) (by decide) ?_
      refine mj_iload_n dX11_usual_28 rfl rfl ?_
      refine mj_if_ne (tgt := 36) dX11_usual_29 (by decide) ⟨fun hc => ?_, fun hc => ?_⟩
      · replace h := h.1 hc
        refine mj_iload_n dX11_usual_36 rfl rfl ?_
        refine mj_iconst (v := 1) dX11_usual_37 (by decide) ?_
        refine mj_icmp_ne (tgt := 45) dX11_usual_38 (by decide) ⟨fun hc => ?_, fun hc => ?_⟩
        · replace h := h.1 hc
          refine mj_iload_n dX11_usual_45 rfl rfl ?_
          refine mj_iconst (v := 2) dX11_usual_46 (by decide) ?_
          refine mj_icmp_ne (tgt := 55) dX11_usual_47 (by decide) ⟨fun hc => ?_, fun hc => ?_⟩
          · replace h := h.1 hc
            refine mj_iconst (v := 1) dX11_usual_55 (by decide) ?_
            exact mj_reti dX11_usual_56 rfl ⟨Nat.le_of_ble_eq_true rfl, Nat.le_of_ble_eq_true rfl⟩ h
          · replace h := h.2 hc
            refine mj_bipush (v := 40) dX11_usual_50 (by decide) ?_
            refine mj_goto (tgt := 56) dX11_usual_52 (by decide) ?_
            exact mj_reti dX11_usual_56 rfl ⟨Nat.le_of_ble_eq_true rfl, Nat.le_of_ble_eq_true rfl⟩ h
        · replace h := h.2 hc
          refine mj_iconst (v := 3) dX11_usual_41 (by decide) ?_
          refine mj_goto (tgt := 56) dX11_usual_42 (by decide) ?_
          exact mj_reti dX11_usual_56 rfl ⟨Nat.le_of_ble_eq_true rfl, Nat.le_of_ble_eq_true rfl⟩ h
      · replace h := h.2 hc
        refine mj_iconst (v := 4) dX11_usual_32 (by decide) ?_
        refine mj_goto (tgt := 56) dX11_usual_33 (by decide) ?_
        exact mj_reti dX11_usual_56 rfl ⟨Nat.le_of_ble_eq_true rfl, Nat.le_of_ble_eq_true rfl⟩ h
    · skip
      replace h := h.2.2 ⟨e0, e1⟩
      refine mj_look (tgt := 87) (off := 86) dX11_usual_1 (by decide) (by simp [Op.lookupswitch.offset_cons, Op.lookupswitch.offset, Ne.symm e0, e0, Ne.symm e1, e1]) (by decide) ?_
      refine mj_iload_n dX11_usual_87 rfl rfl ?_
      refine mj_if_ne (tgt := 95) dX11_usual_88 (by decide) ⟨fun hc => ?_, fun hc => ?_⟩
      · replace h := h.1 hc
        refine mj_iconst (v := 3) dX11_usual_95 (by decide) ?_
        exact mj_reti dX11_usual_96 rfl ⟨Nat.le_of_ble_eq_true rfl, Nat.le_of_ble_eq_true rfl⟩ h
      · replace h := h.2 hc
        refine mj_iconst (v := 0) dX11_usual_91 (by decide) ?_
        refine mj_goto (tgt := 96) dX11_usual_92 (by decide) ?_
        exact mj_reti dX11_usual_96 rfl ⟨Nat.le_of_ble_eq_true rfl, Nat.le_of_ble_eq_true rfl⟩ h
abbrev V_X11_items_0 (l : Launch) (G : mj_G) (a0 : Nat) (x1 : Int32) (a2 : Nat) (x3 : Int32) (x4 : Int32) (S : mj_S) (Q : mj_S → Prop) : Prop := mj_V l G (mj_room 4 0 0) RX11 cX11_items 7 none false 0 [some (.ref a0), some (.int x1), some (.ref a2), some (.int x3), some (.int x4), none, none] [] S 0 0 (mj_std G none (mj_room 4 0 0) (mj_qv Q))
abbrev V_X11_items_3 (l : Launch) (G : mj_G) (a0 : Nat) (x1 : Int32) (a2 : Nat) (x3 : Int32) (x4 : Int32) (x5 : Int32) (S : mj_S) (Q : mj_S → Prop) : Prop := mj_V l G (mj_room 4 0 0) RX11 cX11_items 7 none false 3 [some (.ref a0), some (.int x1), some (.ref a2), some (.int x3), some (.int x4), some (.int x5), none] [] S 0 0 (mj_std G none (mj_room 4 0 0) (mj_qv Q))
abbrev V_X11_items_41 (l : Launch) (G : mj_G) (a0 : Nat) (x1 : Int32) (a2 : Nat) (x3 : Int32) (x5 : Int32) (x6 : Int32) (S : mj_S) (Q : mj_S → Prop) : Prop := mj_V l G (mj_room 4 0 0) RX11 cX11_items 7 none false 41 [some (.ref a0), some (.int x1), some (.ref a2), some (.int x3), none, some (.int x5), some (.int x6)] [] S 0 0 (mj_std G none (mj_room 4 0 0) (mj_qv Q))
theorem e_X11_items {l : Launch} {G : mj_G} {a0 : Nat} {x1 : Int32} {a2 : Nat} {x3 : Int32} {x4 : Int32} {S : mj_S} {Q : mj_S → Prop} (h : V_X11_items_0 l G a0 x1 a2 x3 x4 S Q) : M_X11_items l G a0 x1 a2 x3 x4 S Q := mj_enter (r := 2) (ini := false) (by decide +kernel) (fun h => by cases h) (fun _ => Nat.le_of_ble_eq_true rfl) rfl h
set_option maxRecDepth 20000 in
set_option maxHeartbeats 1000000 in
theorem b_X11_items_0 {l : Launch} {G : mj_G} {a0 : Nat} {x1 : Int32} {a2 : Nat} {x3 : Int32} {x4 : Int32} {S : mj_S} {Q : mj_S → Prop} (hk_a0 : m_kd S a0 = 10) (hk_a2 : m_kd S a2 = 100) (h : V_X11_items_3 l G a0 x1 a2 x3 x4 (0 : Int32) S Q) : V_X11_items_0 l G a0 x1 a2 x3 x4 S Q := by
  refine mj_iconst (v := 0) dX11_items_0 (by decide) ?_
  refine mj_istore dX11_items_1 (by decide) rfl rfl ?_
  exact h
set_option maxRecDepth 20000 in
set_option maxHeartbeats 1000000 in
theorem b_X11_items_3 {l : Launch} {G : mj_G} {a0 : Nat} {x1 : Int32} {a2 : Nat} {x3 : Int32} {x4 : Int32} {x5 : Int32} {S : mj_S} {Q : mj_S → Prop} (hk_a0 : m_kd S a0 = 10) (hk_a2 : m_kd S a2 = 100) (h : ((x4 ≤ x5) → M_X11_look l G a0 S (fun S1 r2 => M_X11_itemOf l G x1 r2 S1 (fun S3 r4 => V_X11_items_41 l G a0 x1 a2 x3 (0 : Int32) r4 S3 Q))) ∧ ((¬ (x4 ≤ x5)) → M_X11_usual l G x1 x5 S (fun S5 r6 => vp_in (x3 + x5) (m_ln S5 a2) ∧ (∀ S7 : mj_S, S7 = m_si S5 a2 ((x3 + x5)).toNatClampNeg r6 → ∀ v8 : Int32, v8 = x5 + (1 : Int32) → V_X11_items_3 l G a0 x1 a2 x3 x4 v8 S7 Q)))) : V_X11_items_3 l G a0 x1 a2 x3 x4 x5 S Q := by
  refine mj_iload dX11_items_3 rfl ?_
  refine mj_iload dX11_items_5 rfl ?_
  refine mj_icmp_ge (tgt := 28) dX11_items_7 (by decide) ⟨fun hc => ?_, fun hc => ?_⟩
  · replace h := h.1 hc
    refine mj_iconst (v := 0) dX11_items_28 (by decide) ?_
    refine mj_istore dX11_items_29 (by decide) rfl rfl ?_
    refine mj_iload_n dX11_items_31 rfl rfl ?_
    refine mj_aload_n dX11_items_32 rfl rfl ?_
    refine mj_callVi (as := []) (st := [.int x1]) dX11_items_33 cal_X11_look lk_X11_131 im_X11_look se_X11_look (ci := 10) rfl (by decide) hk_a0 h rfl (Nat.le_of_ble_eq_true rfl) (by decide) ⟨Nat.le_of_ble_eq_true rfl, Nat.le_of_ble_eq_true rfl⟩ (fun S1 r2 h hn_r2 hp => ?_)
    have hk_a0 : m_kd S1 a0 = 10 := m_kd_pre hp hk_a0 (by decide)
    have hk_a2 : m_kd S1 a2 = 100 := m_kd_pre hp hk_a2 (by decide)
    refine mj_callSi (as := [.int x1, .int r2]) (st := []) dX11_items_36 cal_X11_itemOf lk_X11_225 sm_X11_itemOf h rfl (Nat.le_of_ble_eq_true rfl) (by decide) ⟨Nat.le_of_ble_eq_true rfl, Nat.le_of_ble_eq_true rfl⟩ (fun S3 r4 h hn_r4 hp => ?_)
    have hk_a0 : m_kd S3 a0 = 10 := m_kd_pre hp hk_a0 (by decide)
    have hk_a2 : m_kd S3 a2 = 100 := m_kd_pre hp hk_a2 (by decide)
    refine mj_istore dX11_items_39 (by decide) rfl rfl ?_
    exact mj_lessm [true, true, true, true, false, true, true] rfl h
  · replace h := h.2 hc
    refine mj_aload_n dX11_items_10 rfl rfl ?_
    refine mj_iload_n dX11_items_11 rfl rfl ?_
    refine mj_iload dX11_items_12 rfl ?_
    refine mj_iadd dX11_items_14 ?_
    refine mj_iload_n dX11_items_15 rfl rfl ?_
    refine mj_iload dX11_items_16 rfl ?_
    refine mj_callSi (as := [.int x1, .int x5]) (st := [.int (x3 + x5), .ref a2]) dX11_items_18 cal_X11_usual lk_X11_221 sm_X11_usual h rfl (Nat.le_of_ble_eq_true rfl) (by decide) ⟨Nat.le_of_ble_eq_true rfl, Nat.le_of_ble_eq_true rfl⟩ (fun S5 r6 h hn_r6 hp => ?_)
    have hk_a0 : m_kd S5 a0 = 10 := m_kd_pre hp hk_a0 (by decide)
    have hk_a2 : m_kd S5 a2 = 100 := m_kd_pre hp hk_a2 (by decide)
    refine mj_iast dX11_items_21 hk_a2 ⟨h.1, ?_⟩
    replace h := h.2
    obtain ⟨S7, eS7⟩ : ∃ z, z = m_si S5 a2 ((x3 + x5)).toNatClampNeg r6 := ⟨_, rfl⟩
    rw [← eS7]
    replace h := h S7 eS7
    have hk_a0 : m_kd S7 a0 = 10 := by rw [eS7]; exact hk_a0
    have hk_a2 : m_kd S7 a2 = 100 := by rw [eS7]; exact hk_a2
    obtain ⟨v8, ev8⟩ : ∃ z : Int32, z = x5 + (1 : Int32) := ⟨_, rfl⟩
    refine mj_iinc (v := v8) dX11_items_22 rfl (by rw [ev8]; rfl) (by decide) rfl rfl ?_
    replace h := h v8 ev8
    refine mj_goto (tgt := 3) dX11_items_25 (by decide) ?_
    exact h
set_option maxRecDepth 20000 in
set_option maxHeartbeats 1000000 in
theorem b_X11_items_41 {l : Launch} {G : mj_G} {a0 : Nat} {x1 : Int32} {a2 : Nat} {x3 : Int32} {x5 : Int32} {x6 : Int32} {S : mj_S} {Q : mj_S → Prop} (hk_a0 : m_kd S a0 = 10) (hk_a2 : m_kd S a2 = 100) (h : ((¬ (m_gi S a0 4) = (-1 : Int32)) → Q S) ∧ (((m_gi S a0 4) = (-1 : Int32)) → ((x6 = (-1 : Int32)) → Q S) ∧ ((¬ (x6 = (-1 : Int32))) → M_X11_has l G x5 x6 S (fun S1 r2 => ((¬ r2 = 0) → Q S1) ∧ ((r2 = 0) → ∀ v3 : Int32, v3 = (x5 ||| ((1 : Int32) <<< (x6 &&& 31))) → ∀ S4 : mj_S, S4 = m_si S1 a0 3 ((m_gi S1 a0 3) + (1 : Int32)) → M_X11_lowest l G x1 x6 S4 (fun S5 r6 => M_X11_highest l G x1 x6 S5 (fun S7 r8 => M_X11_number l G a0 r6 r8 S7 (fun S9 r10 => vp_in (x3 + x6) (m_ln S9 a2) ∧ (∀ S11 : mj_S, S11 = m_si S9 a2 ((x3 + x6)).toNatClampNeg r10 → ((¬ (m_gi S11 a0 4) = (-1 : Int32)) → V_X11_items_41 l G a0 x1 a2 x3 v3 (-1 : Int32) S11 Q) ∧ (((m_gi S11 a0 4) = (-1 : Int32)) → M_X11_look l G a0 S11 (fun S12 r13 => M_X11_itemOf l G x1 r13 S12 (fun S14 r15 => V_X11_items_41 l G a0 x1 a2 x3 v3 r15 S14 Q)))))))))))) : V_X11_items_41 l G a0 x1 a2 x3 x5 x6 S Q := by
  refine mj_aload_n dX11_items_41 rfl rfl ?_
  refine mj_getI dX11_items_42 fl_X11_119_10 hk_a0 rfl ?_
  refine mj_iconst (v := (-1)) dX11_items_45 (by decide) ?_
  refine mj_icmp_ne (tgt := 131) dX11_items_46 (by decide) ⟨fun hc => ?_, fun hc => ?_⟩
  · replace h := h.1 hc
    exact mj_retv dX11_items_131 rfl ⟨Nat.le_of_ble_eq_true rfl, Nat.le_of_ble_eq_true rfl⟩ h
  · replace h := h.2 hc
    refine mj_iload dX11_items_49 rfl ?_
    refine mj_iconst (v := (-1)) dX11_items_51 (by decide) ?_
    refine mj_icmp_eq (tgt := 131) dX11_items_52 (by decide) ⟨fun hc => ?_, fun hc => ?_⟩
    · replace h := h.1 hc
      exact mj_retv dX11_items_131 rfl ⟨Nat.le_of_ble_eq_true rfl, Nat.le_of_ble_eq_true rfl⟩ h
    · replace h := h.2 hc
      refine mj_iload dX11_items_55 rfl ?_
      refine mj_iload dX11_items_57 rfl ?_
      refine mj_callSi (as := [.int x5, .int x6]) (st := []) dX11_items_59 cal_X11_has lk_X11_228 sm_X11_has h rfl (Nat.le_of_ble_eq_true rfl) (by decide) ⟨Nat.le_of_ble_eq_true rfl, Nat.le_of_ble_eq_true rfl⟩ (fun S1 r2 h hn_r2 hp => ?_)
      have hk_a0 : m_kd S1 a0 = 10 := m_kd_pre hp hk_a0 (by decide)
      have hk_a2 : m_kd S1 a2 = 100 := m_kd_pre hp hk_a2 (by decide)
      refine mj_if_ne (tgt := 131) dX11_items_62 (by decide) ⟨fun hc => ?_, fun hc => ?_⟩
      · replace h := h.1 hc
        exact mj_retv dX11_items_131 rfl ⟨Nat.le_of_ble_eq_true rfl, Nat.le_of_ble_eq_true rfl⟩ h
      · replace h := h.2 hc
        refine mj_iload dX11_items_65 rfl ?_
        refine mj_iconst (v := 1) dX11_items_67 (by decide) ?_
        refine mj_iload dX11_items_68 rfl ?_
        refine mj_ishl dX11_items_70 ?_
        refine mj_ior dX11_items_71 ?_
        refine mj_nmi (fun v3 ev3 => ?_)
        replace h := h v3 ev3
        refine mj_istore dX11_items_72 (by decide) rfl rfl ?_
        refine mj_aload_n dX11_items_74 rfl rfl ?_
        refine mj_dup dX11_items_75 rfl ?_
        refine mj_getI dX11_items_76 fl_X11_112_10 hk_a0 rfl ?_
        refine mj_iconst (v := 1) dX11_items_79 (by decide) ?_
        refine mj_iadd dX11_items_80 ?_
        refine mj_putI dX11_items_81 fl_X11_112_10 hk_a0 (Or.inl rfl) rfl rfl rfl ?_
        obtain ⟨S4, eS4⟩ : ∃ z, z = m_si S1 a0 3 ((m_gi S1 a0 3) + (1 : Int32)) := ⟨_, rfl⟩
        rw [← eS4]
        replace h := h S4 eS4
        have hk_a0 : m_kd S4 a0 = 10 := by rw [eS4]; exact hk_a0
        have hk_a2 : m_kd S4 a2 = 100 := by rw [eS4]; exact hk_a2
        refine mj_aload_n dX11_items_84 rfl rfl ?_
        refine mj_iload_n dX11_items_85 rfl rfl ?_
        refine mj_iload dX11_items_86 rfl ?_
        refine mj_iadd dX11_items_88 ?_
        refine mj_aload_n dX11_items_89 rfl rfl ?_
        refine mj_iload_n dX11_items_90 rfl rfl ?_
        refine mj_iload dX11_items_91 rfl ?_
        refine mj_callSi (as := [.int x1, .int x6]) (st := [.ref a0, .int (x3 + x6), .ref a2]) dX11_items_93 cal_X11_lowest lk_X11_232 sm_X11_lowest h rfl (Nat.le_of_ble_eq_true rfl) (by decide) ⟨Nat.le_of_ble_eq_true rfl, Nat.le_of_ble_eq_true rfl⟩ (fun S5 r6 h hn_r6 hp => ?_)
        have hk_a0 : m_kd S5 a0 = 10 := m_kd_pre hp hk_a0 (by decide)
        have hk_a2 : m_kd S5 a2 = 100 := m_kd_pre hp hk_a2 (by decide)
        refine mj_iload_n dX11_items_96 rfl rfl ?_
        refine mj_iload dX11_items_97 rfl ?_
        refine mj_callSi (as := [.int x1, .int x6]) (st := [.int r6, .ref a0, .int (x3 + x6), .ref a2]) dX11_items_99 cal_X11_highest lk_X11_235 sm_X11_highest h rfl (Nat.le_of_ble_eq_true rfl) (by decide) ⟨Nat.le_of_ble_eq_true rfl, Nat.le_of_ble_eq_true rfl⟩ (fun S7 r8 h hn_r8 hp => ?_)
        have hk_a0 : m_kd S7 a0 = 10 := m_kd_pre hp hk_a0 (by decide)
        have hk_a2 : m_kd S7 a2 = 100 := m_kd_pre hp hk_a2 (by decide)
        refine mj_callVi (as := [.int r6, .int r8]) (st := [.int (x3 + x6), .ref a2]) dX11_items_102 cal_X11_number lk_X11_238 im_X11_number se_X11_number (ci := 10) rfl (by decide) hk_a0 h rfl (Nat.le_of_ble_eq_true rfl) (by decide) ⟨Nat.le_of_ble_eq_true rfl, Nat.le_of_ble_eq_true rfl⟩ (fun S9 r10 h hn_r10 hp => ?_)
        have hk_a0 : m_kd S9 a0 = 10 := m_kd_pre hp hk_a0 (by decide)
        have hk_a2 : m_kd S9 a2 = 100 := m_kd_pre hp hk_a2 (by decide)
        refine mj_iast dX11_items_105 hk_a2 ⟨h.1, ?_⟩
        replace h := h.2
        obtain ⟨S11, eS11⟩ : ∃ z, z = m_si S9 a2 ((x3 + x6)).toNatClampNeg r10 := ⟨_, rfl⟩
        rw [← eS11]
        replace h := h S11 eS11
        have hk_a0 : m_kd S11 a0 = 10 := by rw [eS11]; exact hk_a0
        have hk_a2 : m_kd S11 a2 = 100 := by rw [eS11]; exact hk_a2
        refine mj_aload_n dX11_items_106 rfl rfl ?_
        refine mj_getI dX11_items_107 fl_X11_119_10 hk_a0 rfl ?_
        refine mj_iconst (v := (-1)) dX11_items_110 (by decide) ?_
        refine mj_icmp_ne (tgt := 125) dX11_items_111 (by decide) ⟨fun hc => ?_, fun hc => ?_⟩
        · replace h := h.1 hc
          refine mj_iconst (v := (-1)) dX11_items_125 (by decide) ?_
          refine mj_istore dX11_items_126 (by decide) rfl rfl ?_
          refine mj_goto (tgt := 41) dX11_items_128 (by decide) ?_
          exact h
        · replace h := h.2 hc
          refine mj_iload_n dX11_items_114 rfl rfl ?_
          refine mj_aload_n dX11_items_115 rfl rfl ?_
          refine mj_callVi (as := []) (st := [.int x1]) dX11_items_116 cal_X11_look lk_X11_131 im_X11_look se_X11_look (ci := 10) rfl (by decide) hk_a0 h rfl (Nat.le_of_ble_eq_true rfl) (by decide) ⟨Nat.le_of_ble_eq_true rfl, Nat.le_of_ble_eq_true rfl⟩ (fun S12 r13 h hn_r13 hp => ?_)
          have hk_a0 : m_kd S12 a0 = 10 := m_kd_pre hp hk_a0 (by decide)
          have hk_a2 : m_kd S12 a2 = 100 := m_kd_pre hp hk_a2 (by decide)
          refine mj_callSi (as := [.int x1, .int r13]) (st := []) dX11_items_119 cal_X11_itemOf lk_X11_225 sm_X11_itemOf h rfl (Nat.le_of_ble_eq_true rfl) (by decide) ⟨Nat.le_of_ble_eq_true rfl, Nat.le_of_ble_eq_true rfl⟩ (fun S14 r15 h hn_r15 hp => ?_)
          have hk_a0 : m_kd S14 a0 = 10 := m_kd_pre hp hk_a0 (by decide)
          have hk_a2 : m_kd S14 a2 = 100 := m_kd_pre hp hk_a2 (by decide)
          refine mj_goto (tgt := 126) dX11_items_122 (by decide) ?_
          refine mj_istore dX11_items_126 (by decide) rfl rfl ?_
          refine mj_goto (tgt := 41) dX11_items_128 (by decide) ?_
          exact h
abbrev V_X11_isWhole_0 (l : Launch) (G : mj_G) (a0 : Nat) (S : mj_S) (Q : mj_S → Int32 → Prop) : Prop := mj_V l G (mj_room 1 0 0) RX11 cX11_isWhole 7 (some .boolean) false 0 [some (.ref a0), none, none, none, none, none, none] [] S 0 0 (mj_std G (some .boolean) (mj_room 1 0 0) (mj_qi Q))
abbrev V_X11_isWhole_29 (l : Launch) (G : mj_G) (a0 : Nat) (x1 : Int32) (x2 : Int32) (x3 : Int32) (S : mj_S) (Q : mj_S → Int32 → Prop) : Prop := mj_V l G (mj_room 1 0 0) RX11 cX11_isWhole 7 (some .boolean) false 29 [some (.ref a0), some (.int x1), some (.int x2), some (.int x3), none, none, none] [] S 0 0 (mj_std G (some .boolean) (mj_room 1 0 0) (mj_qi Q))
abbrev V_X11_isWhole_67 (l : Launch) (G : mj_G) (a0 : Nat) (x1 : Int32) (x2 : Int32) (x3 : Int32) (S : mj_S) (Q : mj_S → Int32 → Prop) : Prop := mj_V l G (mj_room 1 0 0) RX11 cX11_isWhole 7 (some .boolean) false 67 [some (.ref a0), some (.int x1), some (.int x2), some (.int x3), none, none, none] [] S 0 0 (mj_std G (some .boolean) (mj_room 1 0 0) (mj_qi Q))
abbrev V_X11_isWhole_107 (l : Launch) (G : mj_G) (a0 : Nat) (x1 : Int32) (x2 : Int32) (x3 : Int32) (x4 : Int32) (s0 : Int32) (S : mj_S) (Q : mj_S → Int32 → Prop) : Prop := mj_V l G (mj_room 1 0 0) RX11 cX11_isWhole 7 (some .boolean) false 107 [some (.ref a0), some (.int x1), some (.int x2), some (.int x3), some (.int x4), none, none] [.int s0] S 0 0 (mj_std G (some .boolean) (mj_room 1 0 0) (mj_qi Q))
abbrev V_X11_isWhole_169 (l : Launch) (G : mj_G) (a0 : Nat) (x1 : Int32) (x2 : Int32) (x3 : Int32) (x4 : Int32) (x6 : Int32) (S : mj_S) (Q : mj_S → Int32 → Prop) : Prop := mj_V l G (mj_room 1 0 0) RX11 cX11_isWhole 7 (some .boolean) false 169 [some (.ref a0), some (.int x1), some (.int x2), some (.int x3), some (.int x4), none, some (.int x6)] [] S 0 0 (mj_std G (some .boolean) (mj_room 1 0 0) (mj_qi Q))
theorem e_X11_isWhole {l : Launch} {G : mj_G} {a0 : Nat} {S : mj_S} {Q : mj_S → Int32 → Prop} (h : V_X11_isWhole_0 l G a0 S Q) : M_X11_isWhole l G a0 S Q := mj_enter (r := 6) (ini := false) (by decide +kernel) (fun h => by cases h) (fun _ => Nat.le_of_ble_eq_true rfl) rfl h
set_option maxRecDepth 20000 in
set_option maxHeartbeats 1000000 in
theorem b_X11_isWhole_0 {l : Launch} {G : mj_G} {a0 : Nat} {S : mj_S} {Q : mj_S → Int32 → Prop} (hk_a0 : m_kd S a0 = 10) (h : ∃ b1, m_gp S a0 17 = some b1 ∧ (vp_in (0 : Int32) (m_ln S b1) ∧ (∃ b2, m_gp S a0 17 = some b2 ∧ (vp_in (1 : Int32) (m_ln S b2) ∧ (∀ v3 : Int32, v3 = ((m_gi S b1 ((0 : Int32)).toNatClampNeg) * (m_gi S b2 ((1 : Int32)).toNatClampNeg)) → (((m_gi S a0 21) ≤ 0) → V_X11_isWhole_29 l G a0 v3 (0 : Int32) (0 : Int32) S Q) ∧ ((¬ ((m_gi S a0 21) ≤ 0)) → V_X11_isWhole_29 l G a0 v3 (1 : Int32) (0 : Int32) S Q)))))) : V_X11_isWhole_0 l G a0 S Q := by
  refine mj_aload_n dX11_isWhole_0 rfl rfl ?_
  obtain ⟨b1, eb1, h⟩ := h
  refine mj_getP dX11_isWhole_1 fl_X11_40_10 hk_a0 rfl ⟨b1, eb1, fun hk_b1 => ?_⟩
  refine mj_iconst (v := 0) dX11_isWhole_4 (by decide) ?_
  refine mj_iald dX11_isWhole_5 (Or.inl hk_b1) ⟨h.1, ?_⟩
  replace h := h.2
  refine mj_aload_n dX11_isWhole_6 rfl rfl ?_
  obtain ⟨b2, eb2, h⟩ := h
  refine mj_getP dX11_isWhole_7 fl_X11_40_10 hk_a0 rfl ⟨b2, eb2, fun hk_b2 => ?_⟩
  refine mj_iconst (v := 1) dX11_isWhole_10 (by decide) ?_
  refine mj_iald dX11_isWhole_11 (Or.inl hk_b2) ⟨h.1, ?_⟩
  replace h := h.2
  refine mj_imul dX11_isWhole_12 ?_
  refine mj_nmi (fun v3 ev3 => ?_)
  replace h := h v3 ev3
  refine mj_istore_n dX11_isWhole_13 rfl (by decide) rfl rfl ?_
  refine mj_aload_n dX11_isWhole_14 rfl rfl ?_
  refine mj_getI dX11_isWhole_15 fl_X11_241_10 hk_a0 rfl ?_
  refine mj_if_le (tgt := 25) dX11_isWhole_18 (by decide) ⟨fun hc => ?_, fun hc => ?_⟩
  · replace h := h.1 hc
    refine mj_iconst (v := 0) dX11_isWhole_25 (by decide) ?_
    refine mj_istore_n dX11_isWhole_26 rfl (by decide) rfl rfl ?_
    refine mj_iconst (v := 0) dX11_isWhole_27 (by decide) ?_
    refine mj_istore_n dX11_isWhole_28 rfl (by decide) rfl rfl ?_
    exact h
  · replace h := h.2 hc
    refine mj_iconst (v := 1) dX11_isWhole_21 (by decide) ?_
    refine mj_goto (tgt := 26) dX11_isWhole_22 (by decide) ?_
    refine mj_istore_n dX11_isWhole_26 rfl (by decide) rfl rfl ?_
    refine mj_iconst (v := 0) dX11_isWhole_27 (by decide) ?_
    refine mj_istore_n dX11_isWhole_28 rfl (by decide) rfl rfl ?_
    exact h
set_option maxRecDepth 20000 in
set_option maxHeartbeats 1000000 in
theorem b_X11_isWhole_29 {l : Launch} {G : mj_G} {a0 : Nat} {x1 : Int32} {x2 : Int32} {x3 : Int32} {S : mj_S} {Q : mj_S → Int32 → Prop} (hk_a0 : m_kd S a0 = 10) (h : (((m_gi S a0 21) ≤ x3) → V_X11_isWhole_67 l G a0 x1 x2 (0 : Int32) S Q) ∧ ((¬ ((m_gi S a0 21) ≤ x3)) → ((x2 = 0) → ∀ v1 : Int32, v1 = x3 + (1 : Int32) → V_X11_isWhole_29 l G a0 x1 (0 : Int32) v1 S Q) ∧ ((¬ (x2 = 0)) → ∃ b2, m_gp S a0 19 = some b2 ∧ (vp_in ((2 : Int32) * x3) (m_ln S b2) ∧ (((x1 ≤ (m_gi S b2 (((2 : Int32) * x3)).toNatClampNeg)) → ∀ v3 : Int32, v3 = x3 + (1 : Int32) → V_X11_isWhole_29 l G a0 x1 (0 : Int32) v3 S Q) ∧ ((¬ (x1 ≤ (m_gi S b2 (((2 : Int32) * x3)).toNatClampNeg))) → ∀ v4 : Int32, v4 = x3 + (1 : Int32) → V_X11_isWhole_29 l G a0 x1 (1 : Int32) v4 S Q)))))) : V_X11_isWhole_29 l G a0 x1 x2 x3 S Q := by
  refine mj_iload_n dX11_isWhole_29 rfl rfl ?_
  refine mj_aload_n dX11_isWhole_30 rfl rfl ?_
  refine mj_getI dX11_isWhole_31 fl_X11_241_10 hk_a0 rfl ?_
  refine mj_icmp_ge (tgt := 65) dX11_isWhole_34 (by decide) ⟨fun hc => ?_, fun hc => ?_⟩
  · replace h := h.1 hc
    refine mj_iconst (v := 0) dX11_isWhole_65 (by decide) ?_
    refine mj_istore_n dX11_isWhole_66 rfl (by decide) rfl rfl ?_
    exact h
  · replace h := h.2 hc
    refine mj_iload_n dX11_isWhole_37 rfl rfl ?_
    refine mj_if_eq (tgt := 57) dX11_isWhole_38 (by decide) ⟨fun hc => ?_, fun hc => ?_⟩
    · replace h := h.1 hc
      refine mj_iconst (v := 0) dX11_isWhole_57 (by decide) ?_
      refine mj_istore_n dX11_isWhole_58 rfl (by decide) rfl rfl ?_
      obtain ⟨v1, ev1⟩ : ∃ z : Int32, z = x3 + (1 : Int32) := ⟨_, rfl⟩
      refine mj_iinc (v := v1) dX11_isWhole_59 rfl (by rw [ev1]; rfl) (by decide) rfl rfl ?_
      replace h := h v1 ev1
      refine mj_goto (tgt := 29) dX11_isWhole_62 (by decide) ?_
      exact h
    · replace h := h.2 hc
      refine mj_aload_n dX11_isWhole_41 rfl rfl ?_
      obtain ⟨b2, eb2, h⟩ := h
      refine mj_getP dX11_isWhole_42 fl_X11_46_10 hk_a0 rfl ⟨b2, eb2, fun hk_b2 => ?_⟩
      refine mj_iconst (v := 2) dX11_isWhole_45 (by decide) ?_
      refine mj_iload_n dX11_isWhole_46 rfl rfl ?_
      refine mj_imul dX11_isWhole_47 ?_
      refine mj_iald dX11_isWhole_48 (Or.inl hk_b2) ⟨h.1, ?_⟩
      replace h := h.2
      refine mj_iload_n dX11_isWhole_49 rfl rfl ?_
      refine mj_icmp_ge (tgt := 57) dX11_isWhole_50 (by decide) ⟨fun hc => ?_, fun hc => ?_⟩
      · replace h := h.1 hc
        refine mj_iconst (v := 0) dX11_isWhole_57 (by decide) ?_
        refine mj_istore_n dX11_isWhole_58 rfl (by decide) rfl rfl ?_
        obtain ⟨v3, ev3⟩ : ∃ z : Int32, z = x3 + (1 : Int32) := ⟨_, rfl⟩
        refine mj_iinc (v := v3) dX11_isWhole_59 rfl (by rw [ev3]; rfl) (by decide) rfl rfl ?_
        replace h := h v3 ev3
        refine mj_goto (tgt := 29) dX11_isWhole_62 (by decide) ?_
        exact h
      · replace h := h.2 hc
        refine mj_iconst (v := 1) dX11_isWhole_53 (by decide) ?_
        refine mj_goto (tgt := 58) dX11_isWhole_54 (by decide) ?_
        refine mj_istore_n dX11_isWhole_58 rfl (by decide) rfl rfl ?_
        obtain ⟨v4, ev4⟩ : ∃ z : Int32, z = x3 + (1 : Int32) := ⟨_, rfl⟩
        refine mj_iinc (v := v4) dX11_isWhole_59 rfl (by rw [ev4]; rfl) (by decide) rfl rfl ?_
        replace h := h v4 ev4
        refine mj_goto (tgt := 29) dX11_isWhole_62 (by decide) ?_
        exact h
set_option maxRecDepth 20000 in
set_option maxHeartbeats 1000000 in
theorem b_X11_isWhole_67 {l : Launch} {G : mj_G} {a0 : Nat} {x1 : Int32} {x2 : Int32} {x3 : Int32} {S : mj_S} {Q : mj_S → Int32 → Prop} (hk_a0 : m_kd S a0 = 10) (h : (((m_gi S a0 20) ≤ x3) → narrow .boolean (.int x2) = .int x2 ∧ Q S x2) ∧ ((¬ ((m_gi S a0 20) ≤ x3)) → ∃ b1, m_gp S a0 18 = some b1 ∧ (vp_in (((6 : Int32) * x3) + (0 : Int32)) (m_ln S b1) ∧ (∀ v2 : Int32, v2 = (m_gi S b1 ((((6 : Int32) * x3) + (0 : Int32))).toNatClampNeg) → ∃ b3, m_gp S a0 18 = some b3 ∧ (vp_in (((6 : Int32) * x3) + (1 : Int32)) (m_ln S b3) ∧ (((¬ (m_gi S b3 ((((6 : Int32) * x3) + (1 : Int32))).toNatClampNeg) = 0) → V_X11_isWhole_107 l G a0 x1 x2 x3 v2 (0 : Int32) S Q) ∧ (((m_gi S b3 ((((6 : Int32) * x3) + (1 : Int32))).toNatClampNeg) = 0) → V_X11_isWhole_107 l G a0 x1 x2 x3 v2 (1 : Int32) S Q))))))) : V_X11_isWhole_67 l G a0 x1 x2 x3 S Q := by
  refine mj_iload_n dX11_isWhole_67 rfl rfl ?_
  refine mj_aload_n dX11_isWhole_68 rfl rfl ?_
  refine mj_getI dX11_isWhole_69 fl_X11_244_10 hk_a0 rfl ?_
  refine mj_icmp_ge (tgt := 240) dX11_isWhole_72 (by decide) ⟨fun hc => ?_, fun hc => ?_⟩
  · replace h := h.1 hc
    refine mj_iload_n dX11_isWhole_240 rfl rfl ?_
    exact mj_retz dX11_isWhole_241 rfl h.1 ⟨Nat.le_of_ble_eq_true rfl, Nat.le_of_ble_eq_true rfl⟩ h.2
  · replace h := h.2 hc
    refine mj_aload_n dX11_isWhole_75 rfl rfl ?_
    obtain ⟨b1, eb1, h⟩ := h
    refine mj_getP dX11_isWhole_76 fl_X11_43_10 hk_a0 rfl ⟨b1, eb1, fun hk_b1 => ?_⟩
    refine mj_bipush (v := 6) dX11_isWhole_79 (by decide) ?_
    refine mj_iload_n dX11_isWhole_81 rfl rfl ?_
    refine mj_imul dX11_isWhole_82 ?_
    refine mj_iconst (v := 0) dX11_isWhole_83 (by decide) ?_
    refine mj_iadd dX11_isWhole_84 ?_
    refine mj_iald dX11_isWhole_85 (Or.inl hk_b1) ⟨h.1, ?_⟩
    replace h := h.2
    refine mj_nmi (fun v2 ev2 => ?_)
    replace h := h v2 ev2
    refine mj_istore dX11_isWhole_86 (by decide) rfl rfl ?_
    refine mj_aload_n dX11_isWhole_88 rfl rfl ?_
    obtain ⟨b3, eb3, h⟩ := h
    refine mj_getP dX11_isWhole_89 fl_X11_43_10 hk_a0 rfl ⟨b3, eb3, fun hk_b3 => ?_⟩
    refine mj_bipush (v := 6) dX11_isWhole_92 (by decide) ?_
    refine mj_iload_n dX11_isWhole_94 rfl rfl ?_
    refine mj_imul dX11_isWhole_95 ?_
    refine mj_iconst (v := 1) dX11_isWhole_96 (by decide) ?_
    refine mj_iadd dX11_isWhole_97 ?_
    refine mj_iald dX11_isWhole_98 (Or.inl hk_b3) ⟨h.1, ?_⟩
    replace h := h.2
    refine mj_if_ne (tgt := 106) dX11_isWhole_99 (by decide) ⟨fun hc => ?_, fun hc => ?_⟩
    · replace h := h.1 hc
      refine mj_iconst (v := 0) dX11_isWhole_106 (by decide) ?_
      exact h
    · replace h := h.2 hc
      refine mj_iconst (v := 1) dX11_isWhole_102 (by decide) ?_
      refine mj_goto (tgt := 107) dX11_isWhole_103 (by decide) ?_
      exact h
set_option maxRecDepth 20000 in
set_option maxHeartbeats 1000000 in
theorem b_X11_isWhole_107 {l : Launch} {G : mj_G} {a0 : Nat} {x1 : Int32} {x2 : Int32} {x3 : Int32} {x4 : Int32} {s0 : Int32} {S : mj_S} {Q : mj_S → Int32 → Prop} (hk_a0 : m_kd S a0 = 10) (h : ((x2 = 0) → V_X11_isWhole_169 l G a0 x1 (0 : Int32) x3 x4 (0 : Int32) S Q) ∧ ((¬ (x2 = 0)) → ((x1 ≤ x4) → V_X11_isWhole_169 l G a0 x1 (0 : Int32) x3 x4 (0 : Int32) S Q) ∧ ((¬ (x1 ≤ x4)) → ((s0 = 0) → ∃ b1, m_gp S a0 17 = some b1 ∧ (vp_in (0 : Int32) (m_ln S b1) ∧ (((x1 ≤ (x4 + (m_gi S b1 ((0 : Int32)).toNatClampNeg))) → V_X11_isWhole_169 l G a0 x1 (0 : Int32) x3 x4 (0 : Int32) S Q) ∧ ((¬ (x1 ≤ (x4 + (m_gi S b1 ((0 : Int32)).toNatClampNeg)))) → V_X11_isWhole_169 l G a0 x1 (1 : Int32) x3 x4 (0 : Int32) S Q)))) ∧ ((¬ (s0 = 0)) → ∃ b2, m_gp S a0 17 = some b2 ∧ (vp_in (0 : Int32) (m_ln S b2) ∧ (¬ (m_gi S b2 ((0 : Int32)).toNatClampNeg) = 0 ∧ (∃ b3, m_gp S a0 17 = some b3 ∧ (vp_in (0 : Int32) (m_ln S b3) ∧ ((((m_gi S b3 ((0 : Int32)).toNatClampNeg) ≤ ((x4 - x4 / (m_gi S b2 ((0 : Int32)).toNatClampNeg) * (m_gi S b2 ((0 : Int32)).toNatClampNeg)) + (1 : Int32))) → V_X11_isWhole_169 l G a0 x1 (0 : Int32) x3 x4 (0 : Int32) S Q) ∧ ((¬ ((m_gi S b3 ((0 : Int32)).toNatClampNeg) ≤ ((x4 - x4 / (m_gi S b2 ((0 : Int32)).toNatClampNeg) * (m_gi S b2 ((0 : Int32)).toNatClampNeg)) + (1 : Int32)))) → V_X11_isWhole_169 l G a0 x1 (1 : Int32) x3 x4 (0 : Int32) S Q)))))))))) : V_X11_isWhole_107 l G a0 x1 x2 x3 x4 s0 S Q := by
  refine mj_istore dX11_isWhole_107 (by decide) rfl rfl ?_
  refine mj_iload_n dX11_isWhole_109 rfl rfl ?_
  refine mj_if_eq (tgt := 164) dX11_isWhole_110 (by decide) ⟨fun hc => ?_, fun hc => ?_⟩
  · replace h := h.1 hc
    refine mj_iconst (v := 0) dX11_isWhole_164 (by decide) ?_
    refine mj_istore_n dX11_isWhole_165 rfl (by decide) rfl rfl ?_
    refine mj_iconst (v := 0) dX11_isWhole_166 (by decide) ?_
    refine mj_istore dX11_isWhole_167 (by decide) rfl rfl ?_
    exact mj_lessm [true, true, true, true, true, false, true] rfl h
  · replace h := h.2 hc
    refine mj_iload dX11_isWhole_113 rfl ?_
    refine mj_iload_n dX11_isWhole_115 rfl rfl ?_
    refine mj_icmp_ge (tgt := 164) dX11_isWhole_116 (by decide) ⟨fun hc => ?_, fun hc => ?_⟩
    · replace h := h.1 hc
      refine mj_iconst (v := 0) dX11_isWhole_164 (by decide) ?_
      refine mj_istore_n dX11_isWhole_165 rfl (by decide) rfl rfl ?_
      refine mj_iconst (v := 0) dX11_isWhole_166 (by decide) ?_
      refine mj_istore dX11_isWhole_167 (by decide) rfl rfl ?_
      exact mj_lessm [true, true, true, true, true, false, true] rfl h
    · replace h := h.2 hc
      refine mj_iload dX11_isWhole_119 rfl ?_
      refine mj_if_eq (tgt := 147) dX11_isWhole_121 (by decide) ⟨fun hc => ?_, fun hc => ?_⟩
      · replace h := h.1 hc
        refine mj_iload dX11_isWhole_147 rfl ?_
        refine mj_aload_n dX11_isWhole_149 rfl rfl ?_
        obtain ⟨b1, eb1, h⟩ := h
        refine mj_getP dX11_isWhole_150 fl_X11_40_10 hk_a0 rfl ⟨b1, eb1, fun hk_b1 => ?_⟩
        refine mj_iconst (v := 0) dX11_isWhole_153 (by decide) ?_
        refine mj_iald dX11_isWhole_154 (Or.inl hk_b1) ⟨h.1, ?_⟩
        replace h := h.2
        refine mj_iadd dX11_isWhole_155 ?_
        refine mj_iload_n dX11_isWhole_156 rfl rfl ?_
        refine mj_icmp_ge (tgt := 164) dX11_isWhole_157 (by decide) ⟨fun hc => ?_, fun hc => ?_⟩
        · replace h := h.1 hc
          refine mj_iconst (v := 0) dX11_isWhole_164 (by decide) ?_
          refine mj_istore_n dX11_isWhole_165 rfl (by decide) rfl rfl ?_
          refine mj_iconst (v := 0) dX11_isWhole_166 (by decide) ?_
          refine mj_istore dX11_isWhole_167 (by decide) rfl rfl ?_
          exact mj_lessm [true, true, true, true, true, false, true] rfl h
        · replace h := h.2 hc
          refine mj_iconst (v := 1) dX11_isWhole_160 (by decide) ?_
          refine mj_goto (tgt := 165) dX11_isWhole_161 (by decide) ?_
          refine mj_istore_n dX11_isWhole_165 rfl (by decide) rfl rfl ?_
          refine mj_iconst (v := 0) dX11_isWhole_166 (by decide) ?_
          refine mj_istore dX11_isWhole_167 (by decide) rfl rfl ?_
          exact mj_lessm [true, true, true, true, true, false, true] rfl h
      · replace h := h.2 hc
        refine mj_iload dX11_isWhole_124 rfl ?_
        refine mj_aload_n dX11_isWhole_126 rfl rfl ?_
        obtain ⟨b2, eb2, h⟩ := h
        refine mj_getP dX11_isWhole_127 fl_X11_40_10 hk_a0 rfl ⟨b2, eb2, fun hk_b2 => ?_⟩
        refine mj_iconst (v := 0) dX11_isWhole_130 (by decide) ?_
        refine mj_iald dX11_isWhole_131 (Or.inl hk_b2) ⟨h.1, ?_⟩
        replace h := h.2
        refine mj_irem dX11_isWhole_132 h.1 ?_
        replace h := h.2
        refine mj_iconst (v := 1) dX11_isWhole_133 (by decide) ?_
        refine mj_iadd dX11_isWhole_134 ?_
        refine mj_aload_n dX11_isWhole_135 rfl rfl ?_
        obtain ⟨b3, eb3, h⟩ := h
        refine mj_getP dX11_isWhole_136 fl_X11_40_10 hk_a0 rfl ⟨b3, eb3, fun hk_b3 => ?_⟩
        refine mj_iconst (v := 0) dX11_isWhole_139 (by decide) ?_
        refine mj_iald dX11_isWhole_140 (Or.inl hk_b3) ⟨h.1, ?_⟩
        replace h := h.2
        refine mj_icmp_ge (tgt := 164) dX11_isWhole_141 (by decide) ⟨fun hc => ?_, fun hc => ?_⟩
        · replace h := h.1 hc
          refine mj_iconst (v := 0) dX11_isWhole_164 (by decide) ?_
          refine mj_istore_n dX11_isWhole_165 rfl (by decide) rfl rfl ?_
          refine mj_iconst (v := 0) dX11_isWhole_166 (by decide) ?_
          refine mj_istore dX11_isWhole_167 (by decide) rfl rfl ?_
          exact mj_lessm [true, true, true, true, true, false, true] rfl h
        · replace h := h.2 hc
          refine mj_goto (tgt := 160) dX11_isWhole_144 (by decide) ?_
          refine mj_iconst (v := 1) dX11_isWhole_160 (by decide) ?_
          refine mj_goto (tgt := 165) dX11_isWhole_161 (by decide) ?_
          refine mj_istore_n dX11_isWhole_165 rfl (by decide) rfl rfl ?_
          refine mj_iconst (v := 0) dX11_isWhole_166 (by decide) ?_
          refine mj_istore dX11_isWhole_167 (by decide) rfl rfl ?_
          exact mj_lessm [true, true, true, true, true, false, true] rfl h
set_option maxRecDepth 20000 in
set_option maxHeartbeats 1000000 in
theorem b_X11_isWhole_169 {l : Launch} {G : mj_G} {a0 : Nat} {x1 : Int32} {x2 : Int32} {x3 : Int32} {x4 : Int32} {x6 : Int32} {S : mj_S} {Q : mj_S → Int32 → Prop} (hk_a0 : m_kd S a0 = 10) (h : ((x3 ≤ x6) → ∀ v1 : Int32, v1 = x3 + (1 : Int32) → V_X11_isWhole_67 l G a0 x1 x2 v1 S Q) ∧ ((¬ (x3 ≤ x6)) → ((x2 = 0) → ∀ v2 : Int32, v2 = x6 + (1 : Int32) → V_X11_isWhole_169 l G a0 x1 (0 : Int32) x3 x4 v2 S Q) ∧ ((¬ (x2 = 0)) → ∃ b3, m_gp S a0 18 = some b3 ∧ (vp_in (((6 : Int32) * x6) + (0 : Int32)) (m_ln S b3) ∧ (((¬ (m_gi S b3 ((((6 : Int32) * x6) + (0 : Int32))).toNatClampNeg) = x4) → ∀ v4 : Int32, v4 = x6 + (1 : Int32) → V_X11_isWhole_169 l G a0 x1 (1 : Int32) x3 x4 v4 S Q) ∧ (((m_gi S b3 ((((6 : Int32) * x6) + (0 : Int32))).toNatClampNeg) = x4) → ∃ b5, m_gp S a0 18 = some b5 ∧ (vp_in (((6 : Int32) * x6) + (1 : Int32)) (m_ln S b5) ∧ (∃ b6, m_gp S a0 18 = some b6 ∧ (vp_in (((6 : Int32) * x3) + (1 : Int32)) (m_ln S b6) ∧ ((((m_gi S b5 ((((6 : Int32) * x6) + (1 : Int32))).toNatClampNeg) = (m_gi S b6 ((((6 : Int32) * x3) + (1 : Int32))).toNatClampNeg)) → ∀ v7 : Int32, v7 = x6 + (1 : Int32) → V_X11_isWhole_169 l G a0 x1 (0 : Int32) x3 x4 v7 S Q) ∧ ((¬ ((m_gi S b5 ((((6 : Int32) * x6) + (1 : Int32))).toNatClampNeg) = (m_gi S b6 ((((6 : Int32) * x3) + (1 : Int32))).toNatClampNeg))) → ∀ v8 : Int32, v8 = x6 + (1 : Int32) → V_X11_isWhole_169 l G a0 x1 (1 : Int32) x3 x4 v8 S Q))))))))))) : V_X11_isWhole_169 l G a0 x1 x2 x3 x4 x6 S Q := by
  refine mj_iload dX11_isWhole_169 rfl ?_
  refine mj_iload_n dX11_isWhole_171 rfl rfl ?_
  refine mj_icmp_ge (tgt := 234) dX11_isWhole_172 (by decide) ⟨fun hc => ?_, fun hc => ?_⟩
  · replace h := h.1 hc
    obtain ⟨v1, ev1⟩ : ∃ z : Int32, z = x3 + (1 : Int32) := ⟨_, rfl⟩
    refine mj_iinc (v := v1) dX11_isWhole_234 rfl (by rw [ev1]; rfl) (by decide) rfl rfl ?_
    replace h := h v1 ev1
    refine mj_goto (tgt := 67) dX11_isWhole_237 (by decide) ?_
    exact mj_lessm [true, true, true, true, false, false, false] rfl h
  · replace h := h.2 hc
    refine mj_iload_n dX11_isWhole_175 rfl rfl ?_
    refine mj_if_eq (tgt := 226) dX11_isWhole_176 (by decide) ⟨fun hc => ?_, fun hc => ?_⟩
    · replace h := h.1 hc
      refine mj_iconst (v := 0) dX11_isWhole_226 (by decide) ?_
      refine mj_istore_n dX11_isWhole_227 rfl (by decide) rfl rfl ?_
      obtain ⟨v2, ev2⟩ : ∃ z : Int32, z = x6 + (1 : Int32) := ⟨_, rfl⟩
      refine mj_iinc (v := v2) dX11_isWhole_228 rfl (by rw [ev2]; rfl) (by decide) rfl rfl ?_
      replace h := h v2 ev2
      refine mj_goto (tgt := 169) dX11_isWhole_231 (by decide) ?_
      exact h
    · replace h := h.2 hc
      refine mj_aload_n dX11_isWhole_179 rfl rfl ?_
      obtain ⟨b3, eb3, h⟩ := h
      refine mj_getP dX11_isWhole_180 fl_X11_43_10 hk_a0 rfl ⟨b3, eb3, fun hk_b3 => ?_⟩
      refine mj_bipush (v := 6) dX11_isWhole_183 (by decide) ?_
      refine mj_iload dX11_isWhole_185 rfl ?_
      refine mj_imul dX11_isWhole_187 ?_
      refine mj_iconst (v := 0) dX11_isWhole_188 (by decide) ?_
      refine mj_iadd dX11_isWhole_189 ?_
      refine mj_iald dX11_isWhole_190 (Or.inl hk_b3) ⟨h.1, ?_⟩
      replace h := h.2
      refine mj_iload dX11_isWhole_191 rfl ?_
      refine mj_icmp_ne (tgt := 222) dX11_isWhole_193 (by decide) ⟨fun hc => ?_, fun hc => ?_⟩
      · replace h := h.1 hc
        refine mj_iconst (v := 1) dX11_isWhole_222 (by decide) ?_
        refine mj_goto (tgt := 227) dX11_isWhole_223 (by decide) ?_
        refine mj_istore_n dX11_isWhole_227 rfl (by decide) rfl rfl ?_
        obtain ⟨v4, ev4⟩ : ∃ z : Int32, z = x6 + (1 : Int32) := ⟨_, rfl⟩
        refine mj_iinc (v := v4) dX11_isWhole_228 rfl (by rw [ev4]; rfl) (by decide) rfl rfl ?_
        replace h := h v4 ev4
        refine mj_goto (tgt := 169) dX11_isWhole_231 (by decide) ?_
        exact h
      · replace h := h.2 hc
        refine mj_aload_n dX11_isWhole_196 rfl rfl ?_
        obtain ⟨b5, eb5, h⟩ := h
        refine mj_getP dX11_isWhole_197 fl_X11_43_10 hk_a0 rfl ⟨b5, eb5, fun hk_b5 => ?_⟩
        refine mj_bipush (v := 6) dX11_isWhole_200 (by decide) ?_
        refine mj_iload dX11_isWhole_202 rfl ?_
        refine mj_imul dX11_isWhole_204 ?_
        refine mj_iconst (v := 1) dX11_isWhole_205 (by decide) ?_
        refine mj_iadd dX11_isWhole_206 ?_
        refine mj_iald dX11_isWhole_207 (Or.inl hk_b5) ⟨h.1, ?_⟩
        replace h := h.2
        refine mj_aload_n dX11_isWhole_208 rfl rfl ?_
        obtain ⟨b6, eb6, h⟩ := h
        refine mj_getP dX11_isWhole_209 fl_X11_43_10 hk_a0 rfl ⟨b6, eb6, fun hk_b6 => ?_⟩
        refine mj_bipush (v := 6) dX11_isWhole_212 (by decide) ?_
        refine mj_iload_n dX11_isWhole_214 rfl rfl ?_
        refine mj_imul dX11_isWhole_215 ?_
        refine mj_iconst (v := 1) dX11_isWhole_216 (by decide) ?_
        refine mj_iadd dX11_isWhole_217 ?_
        refine mj_iald dX11_isWhole_218 (Or.inl hk_b6) ⟨h.1, ?_⟩
        replace h := h.2
        refine mj_icmp_eq (tgt := 226) dX11_isWhole_219 (by decide) ⟨fun hc => ?_, fun hc => ?_⟩
        · replace h := h.1 hc
          refine mj_iconst (v := 0) dX11_isWhole_226 (by decide) ?_
          refine mj_istore_n dX11_isWhole_227 rfl (by decide) rfl rfl ?_
          obtain ⟨v7, ev7⟩ : ∃ z : Int32, z = x6 + (1 : Int32) := ⟨_, rfl⟩
          refine mj_iinc (v := v7) dX11_isWhole_228 rfl (by rw [ev7]; rfl) (by decide) rfl rfl ?_
          replace h := h v7 ev7
          refine mj_goto (tgt := 169) dX11_isWhole_231 (by decide) ?_
          exact h
        · replace h := h.2 hc
          refine mj_iconst (v := 1) dX11_isWhole_222 (by decide) ?_
          refine mj_goto (tgt := 227) dX11_isWhole_223 (by decide) ?_
          refine mj_istore_n dX11_isWhole_227 rfl (by decide) rfl rfl ?_
          obtain ⟨v8, ev8⟩ : ∃ z : Int32, z = x6 + (1 : Int32) := ⟨_, rfl⟩
          refine mj_iinc (v := v8) dX11_isWhole_228 rfl (by rw [ev8]; rfl) (by decide) rfl rfl ?_
          replace h := h v8 ev8
          refine mj_goto (tgt := 169) dX11_isWhole_231 (by decide) ?_
          exact h
abbrev V_X11_readRoom_0 (l : Launch) (G : mj_G) (a0 : Nat) (S : mj_S) (Q : mj_S → Int32 → Prop) : Prop := mj_V l G (mj_room 5 0 0) RX11 cX11_readRoom 4 (some .int) false 0 [some (.ref a0), none, none, none] [] S 0 0 (mj_std G (some .int) (mj_room 5 0 0) (mj_qi Q))
abbrev V_X11_readRoom_24 (l : Launch) (G : mj_G) (a0 : Nat) (x1 : Int32) (x2 : Int32) (S : mj_S) (Q : mj_S → Int32 → Prop) : Prop := mj_V l G (mj_room 5 0 0) RX11 cX11_readRoom 4 (some .int) false 24 [some (.ref a0), some (.int x1), some (.int x2), none] [] S 0 0 (mj_std G (some .int) (mj_room 5 0 0) (mj_qi Q))
abbrev V_X11_readRoom_49 (l : Launch) (G : mj_G) (a0 : Nat) (x1 : Int32) (x2 : Int32) (S : mj_S) (Q : mj_S → Int32 → Prop) : Prop := mj_V l G (mj_room 5 0 0) RX11 cX11_readRoom 4 (some .int) false 49 [some (.ref a0), some (.int x1), some (.int x2), none] [] S 0 0 (mj_std G (some .int) (mj_room 5 0 0) (mj_qi Q))
abbrev V_X11_readRoom_102 (l : Launch) (G : mj_G) (a0 : Nat) (x1 : Int32) (x3 : Int32) (S : mj_S) (Q : mj_S → Int32 → Prop) : Prop := mj_V l G (mj_room 5 0 0) RX11 cX11_readRoom 4 (some .int) false 102 [some (.ref a0), some (.int x1), none, some (.int x3)] [] S 0 0 (mj_std G (some .int) (mj_room 5 0 0) (mj_qi Q))
abbrev V_X11_readRoom_158 (l : Launch) (G : mj_G) (a0 : Nat) (x1 : Int32) (x3 : Int32) (S : mj_S) (Q : mj_S → Int32 → Prop) : Prop := mj_V l G (mj_room 5 0 0) RX11 cX11_readRoom 4 (some .int) false 158 [some (.ref a0), some (.int x1), none, some (.int x3)] [] S 0 0 (mj_std G (some .int) (mj_room 5 0 0) (mj_qi Q))
abbrev V_X11_readRoom_212 (l : Launch) (G : mj_G) (a0 : Nat) (x1 : Int32) (S : mj_S) (Q : mj_S → Int32 → Prop) : Prop := mj_V l G (mj_room 5 0 0) RX11 cX11_readRoom 4 (some .int) false 212 [some (.ref a0), some (.int x1), none, none] [] S 0 0 (mj_std G (some .int) (mj_room 5 0 0) (mj_qi Q))
abbrev V_X11_readRoom_216 (l : Launch) (G : mj_G) (a0 : Nat) (x1 : Int32) (S : mj_S) (Q : mj_S → Int32 → Prop) : Prop := mj_V l G (mj_room 5 0 0) RX11 cX11_readRoom 4 (some .int) false 216 [some (.ref a0), some (.int x1), none, none] [] S 0 0 (mj_std G (some .int) (mj_room 5 0 0) (mj_qi Q))
abbrev V_X11_readRoom_238 (l : Launch) (G : mj_G) (a0 : Nat) (x1 : Int32) (s0 : Int32) (S : mj_S) (Q : mj_S → Int32 → Prop) : Prop := mj_V l G (mj_room 5 0 0) RX11 cX11_readRoom 4 (some .int) false 238 [some (.ref a0), some (.int x1), none, none] [.int s0] S 0 0 (mj_std G (some .int) (mj_room 5 0 0) (mj_qi Q))
abbrev V_X11_readRoom_260 (l : Launch) (G : mj_G) (a0 : Nat) (S : mj_S) (Q : mj_S → Int32 → Prop) : Prop := mj_V l G (mj_room 5 0 0) RX11 cX11_readRoom 4 (some .int) false 260 [some (.ref a0), none, none, none] [] S 0 0 (mj_std G (some .int) (mj_room 5 0 0) (mj_qi Q))
abbrev V_X11_readRoom_283 (l : Launch) (G : mj_G) (a0 : Nat) (S : mj_S) (Q : mj_S → Int32 → Prop) : Prop := mj_V l G (mj_room 5 0 0) RX11 cX11_readRoom 4 (some .int) false 283 [some (.ref a0), none, none, none] [] S 0 0 (mj_std G (some .int) (mj_room 5 0 0) (mj_qi Q))
theorem e_X11_readRoom {l : Launch} {G : mj_G} {a0 : Nat} {S : mj_S} {Q : mj_S → Int32 → Prop} (h : V_X11_readRoom_0 l G a0 S Q) : M_X11_readRoom l G a0 S Q := mj_enter (r := 3) (ini := false) (by decide +kernel) (fun h => by cases h) (fun _ => Nat.le_of_ble_eq_true rfl) rfl h
set_option maxRecDepth 20000 in
set_option maxHeartbeats 1000000 in
theorem b_X11_readRoom_0 {l : Launch} {G : mj_G} {a0 : Nat} {S : mj_S} {Q : mj_S → Int32 → Prop} (hk_a0 : m_kd S a0 = 10) (h : ∀ S1 : mj_S, S1 = m_si S a0 3 (0 : Int32) → ∀ S2 : mj_S, S2 = m_si S1 a0 4 (-1 : Int32) → ∀ S3 : mj_S, S3 = m_si S2 a0 20 (0 : Int32) → ∀ S4 : mj_S, S4 = m_si S3 a0 21 (0 : Int32) → V_X11_readRoom_24 l G a0 (0 : Int32) (0 : Int32) S4 Q) : V_X11_readRoom_0 l G a0 S Q := by
  refine mj_aload_n dX11_readRoom_0 rfl rfl ?_
  refine mj_iconst (v := 0) dX11_readRoom_1 (by decide) ?_
  refine mj_putI dX11_readRoom_2 fl_X11_112_10 hk_a0 (Or.inl rfl) rfl rfl rfl ?_
  obtain ⟨S1, eS1⟩ : ∃ z, z = m_si S a0 3 (0 : Int32) := ⟨_, rfl⟩
  rw [← eS1]
  replace h := h S1 eS1
  have hk_a0 : m_kd S1 a0 = 10 := by rw [eS1]; exact hk_a0
  refine mj_aload_n dX11_readRoom_5 rfl rfl ?_
  refine mj_iconst (v := (-1)) dX11_readRoom_6 (by decide) ?_
  refine mj_putI dX11_readRoom_7 fl_X11_119_10 hk_a0 (Or.inl rfl) rfl rfl rfl ?_
  obtain ⟨S2, eS2⟩ : ∃ z, z = m_si S1 a0 4 (-1 : Int32) := ⟨_, rfl⟩
  rw [← eS2]
  replace h := h S2 eS2
  have hk_a0 : m_kd S2 a0 = 10 := by rw [eS2]; exact hk_a0
  refine mj_aload_n dX11_readRoom_10 rfl rfl ?_
  refine mj_iconst (v := 0) dX11_readRoom_11 (by decide) ?_
  refine mj_putI dX11_readRoom_12 fl_X11_244_10 hk_a0 (Or.inl rfl) rfl rfl rfl ?_
  obtain ⟨S3, eS3⟩ : ∃ z, z = m_si S2 a0 20 (0 : Int32) := ⟨_, rfl⟩
  rw [← eS3]
  replace h := h S3 eS3
  have hk_a0 : m_kd S3 a0 = 10 := by rw [eS3]; exact hk_a0
  refine mj_aload_n dX11_readRoom_15 rfl rfl ?_
  refine mj_iconst (v := 0) dX11_readRoom_16 (by decide) ?_
  refine mj_putI dX11_readRoom_17 fl_X11_241_10 hk_a0 (Or.inl rfl) rfl rfl rfl ?_
  obtain ⟨S4, eS4⟩ : ∃ z, z = m_si S3 a0 21 (0 : Int32) := ⟨_, rfl⟩
  rw [← eS4]
  replace h := h S4 eS4
  have hk_a0 : m_kd S4 a0 = 10 := by rw [eS4]; exact hk_a0
  refine mj_iconst (v := 0) dX11_readRoom_20 (by decide) ?_
  refine mj_istore_n dX11_readRoom_21 rfl (by decide) rfl rfl ?_
  refine mj_iconst (v := 0) dX11_readRoom_22 (by decide) ?_
  refine mj_istore_n dX11_readRoom_23 rfl (by decide) rfl rfl ?_
  exact h
set_option maxRecDepth 20000 in
set_option maxHeartbeats 1000000 in
theorem b_X11_readRoom_24 {l : Launch} {G : mj_G} {a0 : Nat} {x1 : Int32} {x2 : Int32} {S : mj_S} {Q : mj_S → Int32 → Prop} (hk_a0 : m_kd S a0 = 10) (h : (((4 : Int32) ≤ x2) → V_X11_readRoom_49 l G a0 x1 (1 : Int32) S Q) ∧ ((¬ ((4 : Int32) ≤ x2)) → ∃ b1, m_gp S a0 17 = some b1 ∧ (M_X11_usual l G (115 : Int32) x2 S (fun S2 r3 => vp_in x2 (m_ln S2 b1) ∧ (∀ S4 : mj_S, S4 = m_si S2 b1 (x2).toNatClampNeg r3 → ∀ v5 : Int32, v5 = x2 + (1 : Int32) → V_X11_readRoom_24 l G a0 x1 v5 S4 Q))))) : V_X11_readRoom_24 l G a0 x1 x2 S Q := by
  refine mj_iload_n dX11_readRoom_24 rfl rfl ?_
  refine mj_iconst (v := 4) dX11_readRoom_25 (by decide) ?_
  refine mj_icmp_ge (tgt := 47) dX11_readRoom_26 (by decide) ⟨fun hc => ?_, fun hc => ?_⟩
  · replace h := h.1 hc
    refine mj_iconst (v := 1) dX11_readRoom_47 (by decide) ?_
    refine mj_istore_n dX11_readRoom_48 rfl (by decide) rfl rfl ?_
    exact h
  · replace h := h.2 hc
    refine mj_aload_n dX11_readRoom_29 rfl rfl ?_
    obtain ⟨b1, eb1, h⟩ := h
    refine mj_getP dX11_readRoom_30 fl_X11_40_10 hk_a0 rfl ⟨b1, eb1, fun hk_b1 => ?_⟩
    refine mj_iload_n dX11_readRoom_33 rfl rfl ?_
    refine mj_bipush (v := 115) dX11_readRoom_34 (by decide) ?_
    refine mj_iload_n dX11_readRoom_36 rfl rfl ?_
    refine mj_callSi (as := [.int (115 : Int32), .int x2]) (st := [.int x2, .ref b1]) dX11_readRoom_37 cal_X11_usual lk_X11_221 sm_X11_usual h rfl (Nat.le_of_ble_eq_true rfl) (by decide) ⟨Nat.le_of_ble_eq_true rfl, Nat.le_of_ble_eq_true rfl⟩ (fun S2 r3 h hn_r3 hp => ?_)
    have hk_a0 : m_kd S2 a0 = 10 := m_kd_pre hp hk_a0 (by decide)
    have hk_b1 : m_kd S2 b1 = 100 := m_kd_pre hp hk_b1 (by decide)
    refine mj_iast dX11_readRoom_40 hk_b1 ⟨h.1, ?_⟩
    replace h := h.2
    obtain ⟨S4, eS4⟩ : ∃ z, z = m_si S2 b1 (x2).toNatClampNeg r3 := ⟨_, rfl⟩
    rw [← eS4]
    replace h := h S4 eS4
    have hk_a0 : m_kd S4 a0 = 10 := by rw [eS4]; exact hk_a0
    have hk_b1 : m_kd S4 b1 = 100 := by rw [eS4]; exact hk_b1
    obtain ⟨v5, ev5⟩ : ∃ z : Int32, z = x2 + (1 : Int32) := ⟨_, rfl⟩
    refine mj_iinc (v := v5) dX11_readRoom_41 rfl (by rw [ev5]; rfl) (by decide) rfl rfl ?_
    replace h := h v5 ev5
    refine mj_goto (tgt := 24) dX11_readRoom_44 (by decide) ?_
    exact h
set_option maxRecDepth 20000 in
set_option maxHeartbeats 1000000 in
theorem b_X11_readRoom_49 {l : Launch} {G : mj_G} {a0 : Nat} {x1 : Int32} {x2 : Int32} {S : mj_S} {Q : mj_S → Int32 → Prop} (hk_a0 : m_kd S a0 = 10) (h : ((x2 = 0) → V_X11_readRoom_260 l G a0 S Q) ∧ ((¬ (x2 = 0)) → ((¬ (m_gi S a0 4) = (-1 : Int32)) → V_X11_readRoom_260 l G a0 S Q) ∧ (((m_gi S a0 4) = (-1 : Int32)) → M_X11_look l G a0 S (fun S1 r2 => ((¬ r2 = (115 : Int32)) → V_X11_readRoom_102 l G a0 x1 r2 S1 Q) ∧ ((r2 = (115 : Int32)) → ((¬ x1 = 0) → V_X11_readRoom_102 l G a0 x1 r2 S1 Q) ∧ ((x1 = 0) → ∀ S3 : mj_S, S3 = m_si S1 a0 3 ((m_gi S1 a0 3) + (1 : Int32)) → ∃ b4, m_gp S3 a0 17 = some b4 ∧ (M_X11_items l G a0 r2 b4 (0 : Int32) (4 : Int32) S3 (fun S5 => V_X11_readRoom_216 l G a0 (1 : Int32) S5 Q)))))))) : V_X11_readRoom_49 l G a0 x1 x2 S Q := by
  refine mj_iload_n dX11_readRoom_49 rfl rfl ?_
  refine mj_if_eq (tgt := 260) dX11_readRoom_50 (by decide) ⟨fun hc => ?_, fun hc => ?_⟩
  · replace h := h.1 hc
    exact mj_lessm [true, false, false, false] rfl h
  · replace h := h.2 hc
    refine mj_aload_n dX11_readRoom_53 rfl rfl ?_
    refine mj_getI dX11_readRoom_54 fl_X11_119_10 hk_a0 rfl ?_
    refine mj_iconst (v := (-1)) dX11_readRoom_57 (by decide) ?_
    refine mj_icmp_ne (tgt := 260) dX11_readRoom_58 (by decide) ⟨fun hc => ?_, fun hc => ?_⟩
    · replace h := h.1 hc
      exact mj_lessm [true, false, false, false] rfl h
    · replace h := h.2 hc
      refine mj_aload_n dX11_readRoom_61 rfl rfl ?_
      refine mj_callVi (as := []) (st := []) dX11_readRoom_62 cal_X11_look lk_X11_131 im_X11_look se_X11_look (ci := 10) rfl (by decide) hk_a0 h rfl (Nat.le_of_ble_eq_true rfl) (by decide) ⟨Nat.le_of_ble_eq_true rfl, Nat.le_of_ble_eq_true rfl⟩ (fun S1 r2 h hn_r2 hp => ?_)
      have hk_a0 : m_kd S1 a0 = 10 := m_kd_pre hp hk_a0 (by decide)
      refine mj_istore_n dX11_readRoom_65 rfl (by decide) rfl rfl ?_
      refine mj_iload_n dX11_readRoom_66 rfl rfl ?_
      refine mj_bipush (v := 115) dX11_readRoom_67 (by decide) ?_
      refine mj_icmp_ne (tgt := 102) dX11_readRoom_69 (by decide) ⟨fun hc => ?_, fun hc => ?_⟩
      · replace h := h.1 hc
        exact mj_lessm [true, true, false, true] rfl h
      · replace h := h.2 hc
        refine mj_iload_n dX11_readRoom_72 rfl rfl ?_
        refine mj_if_ne (tgt := 102) dX11_readRoom_73 (by decide) ⟨fun hc => ?_, fun hc => ?_⟩
        · replace h := h.1 hc
          exact mj_lessm [true, true, false, true] rfl h
        · replace h := h.2 hc
          refine mj_iconst (v := 1) dX11_readRoom_76 (by decide) ?_
          refine mj_istore_n dX11_readRoom_77 rfl (by decide) rfl rfl ?_
          refine mj_aload_n dX11_readRoom_78 rfl rfl ?_
          refine mj_dup dX11_readRoom_79 rfl ?_
          refine mj_getI dX11_readRoom_80 fl_X11_112_10 hk_a0 rfl ?_
          refine mj_iconst (v := 1) dX11_readRoom_83 (by decide) ?_
          refine mj_iadd dX11_readRoom_84 ?_
          refine mj_putI dX11_readRoom_85 fl_X11_112_10 hk_a0 (Or.inl rfl) rfl rfl rfl ?_
          obtain ⟨S3, eS3⟩ : ∃ z, z = m_si S1 a0 3 ((m_gi S1 a0 3) + (1 : Int32)) := ⟨_, rfl⟩
          rw [← eS3]
          replace h := h S3 eS3
          have hk_a0 : m_kd S3 a0 = 10 := by rw [eS3]; exact hk_a0
          refine mj_aload_n dX11_readRoom_88 rfl rfl ?_
          refine mj_iload_n dX11_readRoom_89 rfl rfl ?_
          refine mj_aload_n dX11_readRoom_90 rfl rfl ?_
          obtain ⟨b4, eb4, h⟩ := h
          refine mj_getP dX11_readRoom_91 fl_X11_40_10 hk_a0 rfl ⟨b4, eb4, fun hk_b4 => ?_⟩
          refine mj_iconst (v := 0) dX11_readRoom_94 (by decide) ?_
          refine mj_iconst (v := 4) dX11_readRoom_95 (by decide) ?_
          refine mj_callVv (as := [.int r2, .ref b4, .int (0 : Int32), .int (4 : Int32)]) (st := []) dX11_readRoom_96 cal_X11_items lk_X11_247 im_X11_items se_X11_items (ci := 10) rfl (by decide) hk_a0 h rfl (Nat.le_of_ble_eq_true rfl) (by decide) ⟨Nat.le_of_ble_eq_true rfl, Nat.le_of_ble_eq_true rfl⟩ (fun S5 h hp => ?_)
          have hk_a0 : m_kd S5 a0 = 10 := m_kd_pre hp hk_a0 (by decide)
          have hk_b4 : m_kd S5 b4 = 100 := m_kd_pre hp hk_b4 (by decide)
          refine mj_goto (tgt := 216) dX11_readRoom_99 (by decide) ?_
          exact mj_lessm [true, true, false, false] rfl h
set_option maxRecDepth 20000 in
set_option maxHeartbeats 1000000 in
theorem b_X11_readRoom_102 {l : Launch} {G : mj_G} {a0 : Nat} {x1 : Int32} {x3 : Int32} {S : mj_S} {Q : mj_S → Int32 → Prop} (hk_a0 : m_kd S a0 = 10) (h : ((¬ x3 = (99 : Int32)) → V_X11_readRoom_158 l G a0 x1 x3 S Q) ∧ ((x3 = (99 : Int32)) → (((10 : Int32) ≤ (m_gi S a0 20)) → V_X11_readRoom_158 l G a0 x1 x3 S Q) ∧ ((¬ ((10 : Int32) ≤ (m_gi S a0 20))) → ∀ S1 : mj_S, S1 = m_si S a0 3 ((m_gi S a0 3) + (1 : Int32)) → ∃ b2, m_gp S1 a0 18 = some b2 ∧ (M_X11_items l G a0 x3 b2 ((6 : Int32) * (m_gi S1 a0 20)) (6 : Int32) S1 (fun S3 => ∀ S4 : mj_S, S4 = m_si S3 a0 20 ((m_gi S3 a0 20) + (1 : Int32)) → V_X11_readRoom_216 l G a0 x1 S4 Q))))) : V_X11_readRoom_102 l G a0 x1 x3 S Q := by
  refine mj_iload_n dX11_readRoom_102 rfl rfl ?_
  refine mj_bipush (v := 99) dX11_readRoom_103 (by decide) ?_
  refine mj_icmp_ne (tgt := 158) dX11_readRoom_105 (by decide) ⟨fun hc => ?_, fun hc => ?_⟩
  · replace h := h.1 hc
    exact h
  · replace h := h.2 hc
    refine mj_aload_n dX11_readRoom_108 rfl rfl ?_
    refine mj_getI dX11_readRoom_109 fl_X11_244_10 hk_a0 rfl ?_
    refine mj_bipush (v := 10) dX11_readRoom_112 (by decide) ?_
    refine mj_icmp_ge (tgt := 158) dX11_readRoom_114 (by decide) ⟨fun hc => ?_, fun hc => ?_⟩
    · replace h := h.1 hc
      exact h
    · replace h := h.2 hc
      refine mj_aload_n dX11_readRoom_117 rfl rfl ?_
      refine mj_dup dX11_readRoom_118 rfl ?_
      refine mj_getI dX11_readRoom_119 fl_X11_112_10 hk_a0 rfl ?_
      refine mj_iconst (v := 1) dX11_readRoom_122 (by decide) ?_
      refine mj_iadd dX11_readRoom_123 ?_
      refine mj_putI dX11_readRoom_124 fl_X11_112_10 hk_a0 (Or.inl rfl) rfl rfl rfl ?_
      obtain ⟨S1, eS1⟩ : ∃ z, z = m_si S a0 3 ((m_gi S a0 3) + (1 : Int32)) := ⟨_, rfl⟩
      rw [← eS1]
      replace h := h S1 eS1
      have hk_a0 : m_kd S1 a0 = 10 := by rw [eS1]; exact hk_a0
      refine mj_aload_n dX11_readRoom_127 rfl rfl ?_
      refine mj_iload_n dX11_readRoom_128 rfl rfl ?_
      refine mj_aload_n dX11_readRoom_129 rfl rfl ?_
      obtain ⟨b2, eb2, h⟩ := h
      refine mj_getP dX11_readRoom_130 fl_X11_43_10 hk_a0 rfl ⟨b2, eb2, fun hk_b2 => ?_⟩
      refine mj_bipush (v := 6) dX11_readRoom_133 (by decide) ?_
      refine mj_aload_n dX11_readRoom_135 rfl rfl ?_
      refine mj_getI dX11_readRoom_136 fl_X11_244_10 hk_a0 rfl ?_
      refine mj_imul dX11_readRoom_139 ?_
      refine mj_bipush (v := 6) dX11_readRoom_140 (by decide) ?_
      refine mj_callVv (as := [.int x3, .ref b2, .int ((6 : Int32) * (m_gi S1 a0 20)), .int (6 : Int32)]) (st := []) dX11_readRoom_142 cal_X11_items lk_X11_247 im_X11_items se_X11_items (ci := 10) rfl (by decide) hk_a0 h rfl (Nat.le_of_ble_eq_true rfl) (by decide) ⟨Nat.le_of_ble_eq_true rfl, Nat.le_of_ble_eq_true rfl⟩ (fun S3 h hp => ?_)
      have hk_a0 : m_kd S3 a0 = 10 := m_kd_pre hp hk_a0 (by decide)
      have hk_b2 : m_kd S3 b2 = 100 := m_kd_pre hp hk_b2 (by decide)
      refine mj_aload_n dX11_readRoom_145 rfl rfl ?_
      refine mj_dup dX11_readRoom_146 rfl ?_
      refine mj_getI dX11_readRoom_147 fl_X11_244_10 hk_a0 rfl ?_
      refine mj_iconst (v := 1) dX11_readRoom_150 (by decide) ?_
      refine mj_iadd dX11_readRoom_151 ?_
      refine mj_putI dX11_readRoom_152 fl_X11_244_10 hk_a0 (Or.inl rfl) rfl rfl rfl ?_
      obtain ⟨S4, eS4⟩ : ∃ z, z = m_si S3 a0 20 ((m_gi S3 a0 20) + (1 : Int32)) := ⟨_, rfl⟩
      rw [← eS4]
      replace h := h S4 eS4
      have hk_a0 : m_kd S4 a0 = 10 := by rw [eS4]; exact hk_a0
      have hk_b2 : m_kd S4 b2 = 100 := by rw [eS4]; exact hk_b2
      refine mj_goto (tgt := 216) dX11_readRoom_155 (by decide) ?_
      exact mj_lessm [true, true, false, false] rfl h
set_option maxRecDepth 20000 in
set_option maxHeartbeats 1000000 in
theorem b_X11_readRoom_158 {l : Launch} {G : mj_G} {a0 : Nat} {x1 : Int32} {x3 : Int32} {S : mj_S} {Q : mj_S → Int32 → Prop} (hk_a0 : m_kd S a0 = 10) (h : ((¬ x3 = (112 : Int32)) → V_X11_readRoom_212 l G a0 x1 S Q) ∧ ((x3 = (112 : Int32)) → (((6 : Int32) ≤ (m_gi S a0 21)) → V_X11_readRoom_212 l G a0 x1 S Q) ∧ ((¬ ((6 : Int32) ≤ (m_gi S a0 21))) → ∀ S1 : mj_S, S1 = m_si S a0 3 ((m_gi S a0 3) + (1 : Int32)) → ∃ b2, m_gp S1 a0 19 = some b2 ∧ (M_X11_items l G a0 x3 b2 ((2 : Int32) * (m_gi S1 a0 21)) (2 : Int32) S1 (fun S3 => ∀ S4 : mj_S, S4 = m_si S3 a0 21 ((m_gi S3 a0 21) + (1 : Int32)) → V_X11_readRoom_216 l G a0 x1 S4 Q))))) : V_X11_readRoom_158 l G a0 x1 x3 S Q := by
  refine mj_iload_n dX11_readRoom_158 rfl rfl ?_
  refine mj_bipush (v := 112) dX11_readRoom_159 (by decide) ?_
  refine mj_icmp_ne (tgt := 212) dX11_readRoom_161 (by decide) ⟨fun hc => ?_, fun hc => ?_⟩
  · replace h := h.1 hc
    exact mj_lessm [true, true, false, false] rfl h
  · replace h := h.2 hc
    refine mj_aload_n dX11_readRoom_164 rfl rfl ?_
    refine mj_getI dX11_readRoom_165 fl_X11_241_10 hk_a0 rfl ?_
    refine mj_bipush (v := 6) dX11_readRoom_168 (by decide) ?_
    refine mj_icmp_ge (tgt := 212) dX11_readRoom_170 (by decide) ⟨fun hc => ?_, fun hc => ?_⟩
    · replace h := h.1 hc
      exact mj_lessm [true, true, false, false] rfl h
    · replace h := h.2 hc
      refine mj_aload_n dX11_readRoom_173 rfl rfl ?_
      refine mj_dup dX11_readRoom_174 rfl ?_
      refine mj_getI dX11_readRoom_175 fl_X11_112_10 hk_a0 rfl ?_
      refine mj_iconst (v := 1) dX11_readRoom_178 (by decide) ?_
      refine mj_iadd dX11_readRoom_179 ?_
      refine mj_putI dX11_readRoom_180 fl_X11_112_10 hk_a0 (Or.inl rfl) rfl rfl rfl ?_
      obtain ⟨S1, eS1⟩ : ∃ z, z = m_si S a0 3 ((m_gi S a0 3) + (1 : Int32)) := ⟨_, rfl⟩
      rw [← eS1]
      replace h := h S1 eS1
      have hk_a0 : m_kd S1 a0 = 10 := by rw [eS1]; exact hk_a0
      refine mj_aload_n dX11_readRoom_183 rfl rfl ?_
      refine mj_iload_n dX11_readRoom_184 rfl rfl ?_
      refine mj_aload_n dX11_readRoom_185 rfl rfl ?_
      obtain ⟨b2, eb2, h⟩ := h
      refine mj_getP dX11_readRoom_186 fl_X11_46_10 hk_a0 rfl ⟨b2, eb2, fun hk_b2 => ?_⟩
      refine mj_iconst (v := 2) dX11_readRoom_189 (by decide) ?_
      refine mj_aload_n dX11_readRoom_190 rfl rfl ?_
      refine mj_getI dX11_readRoom_191 fl_X11_241_10 hk_a0 rfl ?_
      refine mj_imul dX11_readRoom_194 ?_
      refine mj_iconst (v := 2) dX11_readRoom_195 (by decide) ?_
      refine mj_callVv (as := [.int x3, .ref b2, .int ((2 : Int32) * (m_gi S1 a0 21)), .int (2 : Int32)]) (st := []) dX11_readRoom_196 cal_X11_items lk_X11_247 im_X11_items se_X11_items (ci := 10) rfl (by decide) hk_a0 h rfl (Nat.le_of_ble_eq_true rfl) (by decide) ⟨Nat.le_of_ble_eq_true rfl, Nat.le_of_ble_eq_true rfl⟩ (fun S3 h hp => ?_)
      have hk_a0 : m_kd S3 a0 = 10 := m_kd_pre hp hk_a0 (by decide)
      have hk_b2 : m_kd S3 b2 = 100 := m_kd_pre hp hk_b2 (by decide)
      refine mj_aload_n dX11_readRoom_199 rfl rfl ?_
      refine mj_dup dX11_readRoom_200 rfl ?_
      refine mj_getI dX11_readRoom_201 fl_X11_241_10 hk_a0 rfl ?_
      refine mj_iconst (v := 1) dX11_readRoom_204 (by decide) ?_
      refine mj_iadd dX11_readRoom_205 ?_
      refine mj_putI dX11_readRoom_206 fl_X11_241_10 hk_a0 (Or.inl rfl) rfl rfl rfl ?_
      obtain ⟨S4, eS4⟩ : ∃ z, z = m_si S3 a0 21 ((m_gi S3 a0 21) + (1 : Int32)) := ⟨_, rfl⟩
      rw [← eS4]
      replace h := h S4 eS4
      have hk_a0 : m_kd S4 a0 = 10 := by rw [eS4]; exact hk_a0
      have hk_b2 : m_kd S4 b2 = 100 := by rw [eS4]; exact hk_b2
      refine mj_goto (tgt := 216) dX11_readRoom_209 (by decide) ?_
      exact mj_lessm [true, true, false, false] rfl h
set_option maxRecDepth 20000 in
set_option maxHeartbeats 1000000 in
theorem b_X11_readRoom_212 {l : Launch} {G : mj_G} {a0 : Nat} {x1 : Int32} {S : mj_S} {Q : mj_S → Int32 → Prop} (hk_a0 : m_kd S a0 = 10) (h : M_X11_bad l G a0 S (fun S1 => V_X11_readRoom_216 l G a0 x1 S1 Q)) : V_X11_readRoom_212 l G a0 x1 S Q := by
  refine mj_aload_n dX11_readRoom_212 rfl rfl ?_
  refine mj_callVv (as := []) (st := []) dX11_readRoom_213 cal_X11_bad lk_X11_128 im_X11_bad se_X11_bad (ci := 10) rfl (by decide) hk_a0 h rfl (Nat.le_of_ble_eq_true rfl) (by decide) ⟨Nat.le_of_ble_eq_true rfl, Nat.le_of_ble_eq_true rfl⟩ (fun S1 h hp => ?_)
  have hk_a0 : m_kd S1 a0 = 10 := m_kd_pre hp hk_a0 (by decide)
  exact h
set_option maxRecDepth 20000 in
set_option maxHeartbeats 1000000 in
theorem b_X11_readRoom_216 {l : Launch} {G : mj_G} {a0 : Nat} {x1 : Int32} {S : mj_S} {Q : mj_S → Int32 → Prop} (hk_a0 : m_kd S a0 = 10) (h : ((¬ (m_gi S a0 4) = (-1 : Int32)) → V_X11_readRoom_238 l G a0 x1 (0 : Int32) S Q) ∧ (((m_gi S a0 4) = (-1 : Int32)) → M_X11_look l G a0 S (fun S1 r2 => ((¬ r2 = (59 : Int32)) → V_X11_readRoom_238 l G a0 x1 (0 : Int32) S1 Q) ∧ ((r2 = (59 : Int32)) → V_X11_readRoom_238 l G a0 x1 (1 : Int32) S1 Q)))) : V_X11_readRoom_216 l G a0 x1 S Q := by
  refine mj_aload_n dX11_readRoom_216 rfl rfl ?_
  refine mj_getI dX11_readRoom_217 fl_X11_119_10 hk_a0 rfl ?_
  refine mj_iconst (v := (-1)) dX11_readRoom_220 (by decide) ?_
  refine mj_icmp_ne (tgt := 237) dX11_readRoom_221 (by decide) ⟨fun hc => ?_, fun hc => ?_⟩
  · replace h := h.1 hc
    refine mj_iconst (v := 0) dX11_readRoom_237 (by decide) ?_
    exact h
  · replace h := h.2 hc
    refine mj_aload_n dX11_readRoom_224 rfl rfl ?_
    refine mj_callVi (as := []) (st := []) dX11_readRoom_225 cal_X11_look lk_X11_131 im_X11_look se_X11_look (ci := 10) rfl (by decide) hk_a0 h rfl (Nat.le_of_ble_eq_true rfl) (by decide) ⟨Nat.le_of_ble_eq_true rfl, Nat.le_of_ble_eq_true rfl⟩ (fun S1 r2 h hn_r2 hp => ?_)
    have hk_a0 : m_kd S1 a0 = 10 := m_kd_pre hp hk_a0 (by decide)
    refine mj_bipush (v := 59) dX11_readRoom_228 (by decide) ?_
    refine mj_icmp_ne (tgt := 237) dX11_readRoom_230 (by decide) ⟨fun hc => ?_, fun hc => ?_⟩
    · replace h := h.1 hc
      refine mj_iconst (v := 0) dX11_readRoom_237 (by decide) ?_
      exact h
    · replace h := h.2 hc
      refine mj_iconst (v := 1) dX11_readRoom_233 (by decide) ?_
      refine mj_goto (tgt := 238) dX11_readRoom_234 (by decide) ?_
      exact h
set_option maxRecDepth 20000 in
set_option maxHeartbeats 1000000 in
theorem b_X11_readRoom_238 {l : Launch} {G : mj_G} {a0 : Nat} {x1 : Int32} {s0 : Int32} {S : mj_S} {Q : mj_S → Int32 → Prop} (hk_a0 : m_kd S a0 = 10) (h : ((s0 = 0) → ∀ S1 : mj_S, S1 = m_si S a0 3 ((m_gi S a0 3) + (0 : Int32)) → V_X11_readRoom_49 l G a0 x1 s0 S1 Q) ∧ ((¬ (s0 = 0)) → ∀ S2 : mj_S, S2 = m_si S a0 3 ((m_gi S a0 3) + (1 : Int32)) → V_X11_readRoom_49 l G a0 x1 s0 S2 Q)) : V_X11_readRoom_238 l G a0 x1 s0 S Q := by
  refine mj_istore_n dX11_readRoom_238 rfl (by decide) rfl rfl ?_
  refine mj_aload_n dX11_readRoom_239 rfl rfl ?_
  refine mj_dup dX11_readRoom_240 rfl ?_
  refine mj_getI dX11_readRoom_241 fl_X11_112_10 hk_a0 rfl ?_
  refine mj_iload_n dX11_readRoom_244 rfl rfl ?_
  refine mj_if_eq (tgt := 252) dX11_readRoom_245 (by decide) ⟨fun hc => ?_, fun hc => ?_⟩
  · replace h := h.1 hc
    refine mj_iconst (v := 0) dX11_readRoom_252 (by decide) ?_
    refine mj_iadd dX11_readRoom_253 ?_
    refine mj_putI dX11_readRoom_254 fl_X11_112_10 hk_a0 (Or.inl rfl) rfl rfl rfl ?_
    obtain ⟨S1, eS1⟩ : ∃ z, z = m_si S a0 3 ((m_gi S a0 3) + (0 : Int32)) := ⟨_, rfl⟩
    rw [← eS1]
    replace h := h S1 eS1
    have hk_a0 : m_kd S1 a0 = 10 := by rw [eS1]; exact hk_a0
    refine mj_goto (tgt := 49) dX11_readRoom_257 (by decide) ?_
    exact h
  · replace h := h.2 hc
    refine mj_iconst (v := 1) dX11_readRoom_248 (by decide) ?_
    refine mj_goto (tgt := 253) dX11_readRoom_249 (by decide) ?_
    refine mj_iadd dX11_readRoom_253 ?_
    refine mj_putI dX11_readRoom_254 fl_X11_112_10 hk_a0 (Or.inl rfl) rfl rfl rfl ?_
    obtain ⟨S2, eS2⟩ : ∃ z, z = m_si S a0 3 ((m_gi S a0 3) + (1 : Int32)) := ⟨_, rfl⟩
    rw [← eS2]
    replace h := h S2 eS2
    have hk_a0 : m_kd S2 a0 = 10 := by rw [eS2]; exact hk_a0
    refine mj_goto (tgt := 49) dX11_readRoom_257 (by decide) ?_
    exact h
set_option maxRecDepth 20000 in
set_option maxHeartbeats 1000000 in
theorem b_X11_readRoom_260 {l : Launch} {G : mj_G} {a0 : Nat} {S : mj_S} {Q : mj_S → Int32 → Prop} (hk_a0 : m_kd S a0 = 10) (h : ((¬ (m_gi S a0 4) = (-1 : Int32)) → Q S (m_gi S a0 4)) ∧ (((m_gi S a0 4) = (-1 : Int32)) → M_X11_look l G a0 S (fun S1 r2 => ((¬ r2 = (-1 : Int32)) → V_X11_readRoom_283 l G a0 S1 Q) ∧ ((r2 = (-1 : Int32)) → M_X11_isWhole l G a0 S1 (fun S3 r4 => ((¬ r4 = 0) → Q S3 (m_gi S3 a0 4)) ∧ ((r4 = 0) → V_X11_readRoom_283 l G a0 S3 Q)))))) : V_X11_readRoom_260 l G a0 S Q := by
  refine mj_aload_n dX11_readRoom_260 rfl rfl ?_
  refine mj_getI dX11_readRoom_261 fl_X11_119_10 hk_a0 rfl ?_
  refine mj_iconst (v := (-1)) dX11_readRoom_264 (by decide) ?_
  refine mj_icmp_ne (tgt := 287) dX11_readRoom_265 (by decide) ⟨fun hc => ?_, fun hc => ?_⟩
  · replace h := h.1 hc
    refine mj_aload_n dX11_readRoom_287 rfl rfl ?_
    refine mj_getI dX11_readRoom_288 fl_X11_119_10 hk_a0 rfl ?_
    exact mj_reti dX11_readRoom_291 rfl ⟨Nat.le_of_ble_eq_true rfl, Nat.le_of_ble_eq_true rfl⟩ h
  · replace h := h.2 hc
    refine mj_aload_n dX11_readRoom_268 rfl rfl ?_
    refine mj_callVi (as := []) (st := []) dX11_readRoom_269 cal_X11_look lk_X11_131 im_X11_look se_X11_look (ci := 10) rfl (by decide) hk_a0 h rfl (Nat.le_of_ble_eq_true rfl) (by decide) ⟨Nat.le_of_ble_eq_true rfl, Nat.le_of_ble_eq_true rfl⟩ (fun S1 r2 h hn_r2 hp => ?_)
    have hk_a0 : m_kd S1 a0 = 10 := m_kd_pre hp hk_a0 (by decide)
    refine mj_iconst (v := (-1)) dX11_readRoom_272 (by decide) ?_
    refine mj_icmp_ne (tgt := 283) dX11_readRoom_273 (by decide) ⟨fun hc => ?_, fun hc => ?_⟩
    · replace h := h.1 hc
      exact h
    · replace h := h.2 hc
      refine mj_aload_n dX11_readRoom_276 rfl rfl ?_
      refine mj_callVi (as := []) (st := []) dX11_readRoom_277 cal_X11_isWhole lk_X11_251 im_X11_isWhole se_X11_isWhole (ci := 10) rfl (by decide) hk_a0 h rfl (Nat.le_of_ble_eq_true rfl) (by decide) ⟨Nat.le_of_ble_eq_true rfl, Nat.le_of_ble_eq_true rfl⟩ (fun S3 r4 h hn_r4 hp => ?_)
      have hk_a0 : m_kd S3 a0 = 10 := m_kd_pre hp hk_a0 (by decide)
      refine mj_if_ne (tgt := 287) dX11_readRoom_280 (by decide) ⟨fun hc => ?_, fun hc => ?_⟩
      · replace h := h.1 hc
        refine mj_aload_n dX11_readRoom_287 rfl rfl ?_
        refine mj_getI dX11_readRoom_288 fl_X11_119_10 hk_a0 rfl ?_
        exact mj_reti dX11_readRoom_291 rfl ⟨Nat.le_of_ble_eq_true rfl, Nat.le_of_ble_eq_true rfl⟩ h
      · replace h := h.2 hc
        exact h
set_option maxRecDepth 20000 in
set_option maxHeartbeats 1000000 in
theorem b_X11_readRoom_283 {l : Launch} {G : mj_G} {a0 : Nat} {S : mj_S} {Q : mj_S → Int32 → Prop} (hk_a0 : m_kd S a0 = 10) (h : M_X11_bad l G a0 S (fun S1 => Q S1 (m_gi S1 a0 4))) : V_X11_readRoom_283 l G a0 S Q := by
  refine mj_aload_n dX11_readRoom_283 rfl rfl ?_
  refine mj_callVv (as := []) (st := []) dX11_readRoom_284 cal_X11_bad lk_X11_128 im_X11_bad se_X11_bad (ci := 10) rfl (by decide) hk_a0 h rfl (Nat.le_of_ble_eq_true rfl) (by decide) ⟨Nat.le_of_ble_eq_true rfl, Nat.le_of_ble_eq_true rfl⟩ (fun S1 h hp => ?_)
  have hk_a0 : m_kd S1 a0 = 10 := m_kd_pre hp hk_a0 (by decide)
  refine mj_aload_n dX11_readRoom_287 rfl rfl ?_
  refine mj_getI dX11_readRoom_288 fl_X11_119_10 hk_a0 rfl ?_
  exact mj_reti dX11_readRoom_291 rfl ⟨Nat.le_of_ble_eq_true rfl, Nat.le_of_ble_eq_true rfl⟩ h
