abbrev V_X2_add_0 (l : Launch) (G : mj_G) (a0 : Nat) (a1 : Nat) (x2 : Int32) (S : mj_S) (Q : mj_S → Int32 → Prop) : Prop := mj_V l G (mj_room 2 0 0) RX2 cX2_add 3 (some .int) false 0 [some (.ref a0), some (.ref a1), some (.int x2)] [] S 0 0 (mj_std G (some .int) (mj_room 2 0 0) (mj_qi Q))
theorem e_X2_add {l : Launch} {G : mj_G} {a0 : Nat} {a1 : Nat} {x2 : Int32} {S : mj_S} {Q : mj_S → Int32 → Prop} (h : V_X2_add_0 l G a0 a1 x2 S Q) : M_X2_add l G a0 a1 x2 S Q := mj_enter (r := 0) (ini := false) (by decide +kernel) (fun h => by cases h) (fun _ => Nat.le_of_ble_eq_true rfl) rfl h
set_option maxRecDepth 20000 in
set_option maxHeartbeats 1000000 in
theorem b_X2_add_0 {l : Launch} {G : mj_G} {a0 : Nat} {a1 : Nat} {x2 : Int32} {S : mj_S} {Q : mj_S → Int32 → Prop} (hk_a0 : m_kd S a0 = 2) (hk_a1 : m_kd S a1 = 100) (h : (((4 : Int32) ≤ (m_gi S a0 0)) → Q S (-1 : Int32)) ∧ ((¬ ((4 : Int32) ≤ (m_gi S a0 0))) → M_X10_within l G x2 (0 : Int32) (240 : Int32) S (fun S1 r2 => ((¬ r2 = 0) → ∃ b3, m_gp S1 a0 2 = some b3 ∧ (vp_in (m_gi S1 a0 0) (m_ln S1 b3) ∧ ∃ b4, m_gp S1 b3 ((m_gi S1 a0 0)).toNatClampNeg = some b4 ∧ ((¬ (0 : Int32) < 0 ∧ ¬ (0 : Int32) < 0 ∧ ¬ x2 < 0 ∧ ((0 : Int32)).toNatClampNeg + (x2).toNatClampNeg ≤ m_ln S1 a1 ∧ ((0 : Int32)).toNatClampNeg + (x2).toNatClampNeg ≤ m_ln S1 b4) ∧ (∀ S5 : mj_S, S5 = m_row S1 b4 (va_cpy (m_gi S1 a1) (m_gi S1 b4) ((0 : Int32)).toNatClampNeg ((0 : Int32)).toNatClampNeg (x2).toNatClampNeg) → ∃ b6, m_gp S5 a0 3 = some b6 ∧ (vp_in (m_gi S5 a0 0) (m_ln S5 b6) ∧ (∀ S7 : mj_S, S7 = m_si S5 b6 ((m_gi S5 a0 0)).toNatClampNeg x2 → ∀ S8 : mj_S, S8 = m_si S7 a0 0 ((m_gi S7 a0 0) + (1 : Int32)) → Q S8 ((m_gi S8 a0 0) - (1 : Int32)))))))) ∧ ((r2 = 0) → Q S1 (-1 : Int32))))) : V_X2_add_0 l G a0 a1 x2 S Q := by
  refine mj_aload_n dX2_add_0 rfl rfl ?_
  refine mj_getI dX2_add_1 fl_X2_9_2 hk_a0 rfl ?_
  refine mj_iconst (v := 4) dX2_add_4 (by decide) ?_
  refine mj_icmp_ge (tgt := 19) dX2_add_5 (by decide) ⟨fun hc => ?_, fun hc => ?_⟩
  · replace h := h.1 hc
    refine mj_iconst (v := (-1)) dX2_add_19 (by decide) ?_
    exact mj_reti dX2_add_20 rfl ⟨Nat.le_of_ble_eq_true rfl, Nat.le_of_ble_eq_true rfl⟩ h
  · replace h := h.2 hc
    refine mj_iload_n dX2_add_8 rfl rfl ?_
    refine mj_iconst (v := 0) dX2_add_9 (by decide) ?_
    refine mj_sipush (v := 240) dX2_add_10 (by decide) ?_
    refine mj_callNi (as := [.int x2, .int (0 : Int32), .int (240 : Int32)]) (st := []) dX2_add_13 cal_X10_within ln_X2_36 sm_X10_within h rfl (Nat.le_of_ble_eq_true rfl) (by decide) ⟨Nat.le_of_ble_eq_true rfl, Nat.le_of_ble_eq_true rfl⟩ (fun S1 r2 h hn_r2 hp => ?_)
    have hk_a0 : m_kd S1 a0 = 2 := m_kd_pre hp hk_a0 (by decide)
    have hk_a1 : m_kd S1 a1 = 100 := m_kd_pre hp hk_a1 (by decide)
    refine mj_if_ne (tgt := 21) dX2_add_16 (by decide) ⟨fun hc => ?_, fun hc => ?_⟩
    · replace h := h.1 hc
      refine mj_aload_n dX2_add_21 rfl rfl ?_
      refine mj_iconst (v := 0) dX2_add_22 (by decide) ?_
      refine mj_aload_n dX2_add_23 rfl rfl ?_
      obtain ⟨b3, eb3, h⟩ := h
      refine mj_getP dX2_add_24 fl_X2_20_2 hk_a0 rfl ⟨b3, eb3, fun hk_b3 => ?_⟩
      refine mj_aload_n dX2_add_27 rfl rfl ?_
      refine mj_getI dX2_add_28 fl_X2_9_2 hk_a0 rfl ?_
      obtain ⟨hin, b4, eb4, h⟩ := h
      refine mj_aald dX2_add_31 hk_b3 ⟨hin, b4, eb4, fun hk_b4 => ?_⟩
      refine mj_iconst (v := 0) dX2_add_32 (by decide) ?_
      refine mj_iload_n dX2_add_33 rfl rfl ?_
      refine mj_copy (st := []) dX2_add_34 ac_X2_40 (Or.inl hk_a1) hk_b4 h.1 (by decide) (Nat.le_of_ble_eq_true rfl) ?_
      replace h := h.2
      obtain ⟨S5, eS5⟩ : ∃ z, z = m_row S1 b4 (va_cpy (m_gi S1 a1) (m_gi S1 b4) ((0 : Int32)).toNatClampNeg ((0 : Int32)).toNatClampNeg (x2).toNatClampNeg) := ⟨_, rfl⟩
      rw [← eS5]
      replace h := h S5 eS5
      have hk_a0 : m_kd S5 a0 = 2 := by rw [eS5]; exact hk_a0
      have hk_a1 : m_kd S5 a1 = 100 := by rw [eS5]; exact hk_a1
      have hk_b3 : m_kd S5 b3 = 103 := by rw [eS5]; exact hk_b3
      have hk_b4 : m_kd S5 b4 = 100 := by rw [eS5]; exact hk_b4
      refine mj_aload_n dX2_add_37 rfl rfl ?_
      obtain ⟨b6, eb6, h⟩ := h
      refine mj_getP dX2_add_38 fl_X2_23_2 hk_a0 rfl ⟨b6, eb6, fun hk_b6 => ?_⟩
      refine mj_aload_n dX2_add_41 rfl rfl ?_
      refine mj_getI dX2_add_42 fl_X2_9_2 hk_a0 rfl ?_
      refine mj_iload_n dX2_add_45 rfl rfl ?_
      refine mj_iast dX2_add_46 hk_b6 ⟨h.1, ?_⟩
      replace h := h.2
      obtain ⟨S7, eS7⟩ : ∃ z, z = m_si S5 b6 ((m_gi S5 a0 0)).toNatClampNeg x2 := ⟨_, rfl⟩
      rw [← eS7]
      replace h := h S7 eS7
      have hk_a0 : m_kd S7 a0 = 2 := by rw [eS7]; exact hk_a0
      have hk_a1 : m_kd S7 a1 = 100 := by rw [eS7]; exact hk_a1
      have hk_b3 : m_kd S7 b3 = 103 := by rw [eS7]; exact hk_b3
      have hk_b4 : m_kd S7 b4 = 100 := by rw [eS7]; exact hk_b4
      have hk_b6 : m_kd S7 b6 = 100 := by rw [eS7]; exact hk_b6
      refine mj_aload_n dX2_add_47 rfl rfl ?_
      refine mj_dup dX2_add_48 rfl ?_
      refine mj_getI dX2_add_49 fl_X2_9_2 hk_a0 rfl ?_
      refine mj_iconst (v := 1) dX2_add_52 (by decide) ?_
      refine mj_iadd dX2_add_53 ?_
      refine mj_putI dX2_add_54 fl_X2_9_2 hk_a0 (Or.inl rfl) rfl rfl rfl ?_
      obtain ⟨S8, eS8⟩ : ∃ z, z = m_si S7 a0 0 ((m_gi S7 a0 0) + (1 : Int32)) := ⟨_, rfl⟩
      rw [← eS8]
      replace h := h S8 eS8
      have hk_a0 : m_kd S8 a0 = 2 := by rw [eS8]; exact hk_a0
      have hk_a1 : m_kd S8 a1 = 100 := by rw [eS8]; exact hk_a1
      have hk_b3 : m_kd S8 b3 = 103 := by rw [eS8]; exact hk_b3
      have hk_b4 : m_kd S8 b4 = 100 := by rw [eS8]; exact hk_b4
      have hk_b6 : m_kd S8 b6 = 100 := by rw [eS8]; exact hk_b6
      refine mj_aload_n dX2_add_57 rfl rfl ?_
      refine mj_getI dX2_add_58 fl_X2_9_2 hk_a0 rfl ?_
      refine mj_iconst (v := 1) dX2_add_61 (by decide) ?_
      refine mj_isub dX2_add_62 ?_
      exact mj_reti dX2_add_63 rfl ⟨Nat.le_of_ble_eq_true rfl, Nat.le_of_ble_eq_true rfl⟩ h
    · replace h := h.2 hc
      refine mj_iconst (v := (-1)) dX2_add_19 (by decide) ?_
      exact mj_reti dX2_add_20 rfl ⟨Nat.le_of_ble_eq_true rfl, Nat.le_of_ble_eq_true rfl⟩ h
abbrev V_X2_takes_0 (l : Launch) (G : mj_G) (a0 : Nat) (a1 : Nat) (x2 : Int32) (S : mj_S) (Q : mj_S → Int32 → Prop) : Prop := mj_V l G (mj_room 4 0 0) RX2 cX2_takes 5 (some .int) false 0 [some (.ref a0), some (.ref a1), some (.int x2), none, none] [] S 0 0 (mj_std G (some .int) (mj_room 4 0 0) (mj_qi Q))
abbrev V_X2_takes_122 (l : Launch) (G : mj_G) (x4 : Int32) (S : mj_S) (Q : mj_S → Int32 → Prop) : Prop := mj_V l G (mj_room 4 0 0) RX2 cX2_takes 5 (some .int) false 122 [none, none, none, none, some (.int x4)] [] S 0 0 (mj_std G (some .int) (mj_room 4 0 0) (mj_qi Q))
theorem e_X2_takes {l : Launch} {G : mj_G} {a0 : Nat} {a1 : Nat} {x2 : Int32} {S : mj_S} {Q : mj_S → Int32 → Prop} (h : V_X2_takes_0 l G a0 a1 x2 S Q) : M_X2_takes l G a0 a1 x2 S Q := mj_enter (r := 2) (ini := false) (by decide +kernel) (fun h => by cases h) (fun _ => Nat.le_of_ble_eq_true rfl) rfl h
set_option maxRecDepth 20000 in
set_option maxHeartbeats 1000000 in
theorem b_X2_takes_0 {l : Launch} {G : mj_G} {a0 : Nat} {a1 : Nat} {x2 : Int32} {S : mj_S} {Q : mj_S → Int32 → Prop} (hk_a0 : m_kd S a0 = 2) (hk_a1 : m_kd S a1 = 7) (h : ∃ b1, m_gp S a1 0 = some b1 ∧ (∃ b2, m_gp S b1 11 = some b2 ∧ (vp_in x2 (m_ln S b2) ∧ (∃ b3, m_gp S a1 1 = some b3 ∧ (vp_in x2 (m_ln S b3) ∧ (¬ (10 : Int32) = 0 ∧ (∀ v4 : Int32, v4 = ((m_gi S b2 (x2).toNatClampNeg) + ((m_gi S b3 (x2).toNatClampNeg) / (10 : Int32))) → M_X10_within l G (m_gi S a0 1) (0 : Int32) (3 : Int32) S (fun S5 r6 => ((r6 = 0) → V_X2_takes_122 l G v4 S5 Q) ∧ ((¬ (r6 = 0)) → ∃ b7, m_gp S5 a0 4 = some b7 ∧ (∃ b8, m_gp S5 b1 11 = some b8 ∧ (vp_in x2 (m_ln S5 b8) ∧ (vp_in (0 : Int32) (m_ln S5 b7) ∧ (∀ S9 : mj_S, S9 = m_si S5 b7 ((0 : Int32)).toNatClampNeg (m_gi S5 b8 (x2).toNatClampNeg) → ∃ b10, m_gp S9 a0 4 = some b10 ∧ (∃ b11, m_gp S9 a1 1 = some b11 ∧ (vp_in x2 (m_ln S9 b11) ∧ (vp_in (1 : Int32) (m_ln S9 b10) ∧ (∀ S12 : mj_S, S12 = m_si S9 b10 ((1 : Int32)).toNatClampNeg (m_gi S9 b11 (x2).toNatClampNeg) → ∃ b13, m_gp S12 a0 4 = some b13 ∧ (∃ b14, m_gp S12 b1 12 = some b14 ∧ (vp_in x2 (m_ln S12 b14) ∧ (vp_in (2 : Int32) (m_ln S12 b13) ∧ (∀ S15 : mj_S, S15 = m_si S12 b13 ((2 : Int32)).toNatClampNeg (m_gi S12 b14 (x2).toNatClampNeg) → ∃ b16, m_gp S15 a0 4 = some b16 ∧ (vp_in (3 : Int32) (m_ln S15 b16) ∧ (∀ S17 : mj_S, S17 = m_si S15 b16 ((3 : Int32)).toNatClampNeg (m_gi S15 b1 2) → ∃ b18, m_gp S17 a0 4 = some b18 ∧ (vp_in (4 : Int32) (m_ln S17 b18) ∧ (∀ S19 : mj_S, S19 = m_si S17 b18 ((4 : Int32)).toNatClampNeg (m_gi S17 a1 4) → ∃ b20, m_gp S19 a0 4 = some b20 ∧ (vp_in (5 : Int32) (m_ln S19 b20) ∧ (∀ S21 : mj_S, S21 = m_si S19 b20 ((5 : Int32)).toNatClampNeg x2 → ∃ b22, m_gp S21 a0 2 = some b22 ∧ (vp_in (m_gi S21 a0 1) (m_ln S21 b22) ∧ ∃ b23, m_gp S21 b22 ((m_gi S21 a0 1)).toNatClampNeg = some b23 ∧ (∃ b24, m_gp S21 a0 3 = some b24 ∧ (vp_in (m_gi S21 a0 1) (m_ln S21 b24) ∧ (M_X2_worthBy l G a0 b23 (m_gi S21 b24 ((m_gi S21 a0 1)).toNatClampNeg) S21 (fun S25 r26 => V_X2_takes_122 l G r26 S25 Q)))))))))))))))))))))))))))))))) : V_X2_takes_0 l G a0 a1 x2 S Q := by
  refine mj_aload_n dX2_takes_0 rfl rfl ?_
  obtain ⟨b1, eb1, h⟩ := h
  refine mj_getP dX2_takes_1 fl_X2_46_7 hk_a1 rfl ⟨b1, eb1, fun hk_b1 => ?_⟩
  refine mj_astore_n dX2_takes_4 rfl (by decide) rfl rfl ?_
  refine mj_aload_n dX2_takes_5 rfl rfl ?_
  obtain ⟨b2, eb2, h⟩ := h
  refine mj_getP dX2_takes_6 fl_X2_52_5 hk_b1 rfl ⟨b2, eb2, fun hk_b2 => ?_⟩
  refine mj_iload_n dX2_takes_9 rfl rfl ?_
  refine mj_iald dX2_takes_10 (Or.inl hk_b2) ⟨h.1, ?_⟩
  replace h := h.2
  refine mj_aload_n dX2_takes_11 rfl rfl ?_
  obtain ⟨b3, eb3, h⟩ := h
  refine mj_getP dX2_takes_12 fl_X2_57_7 hk_a1 rfl ⟨b3, eb3, fun hk_b3 => ?_⟩
  refine mj_iload_n dX2_takes_15 rfl rfl ?_
  refine mj_iald dX2_takes_16 (Or.inl hk_b3) ⟨h.1, ?_⟩
  replace h := h.2
  refine mj_bipush (v := 10) dX2_takes_17 (by decide) ?_
  refine mj_idiv dX2_takes_19 h.1 ?_
  replace h := h.2
  refine mj_iadd dX2_takes_20 ?_
  refine mj_nmi (fun v4 ev4 => ?_)
  replace h := h v4 ev4
  refine mj_istore dX2_takes_21 (by decide) rfl rfl ?_
  refine mj_aload_n dX2_takes_23 rfl rfl ?_
  refine mj_getI dX2_takes_24 fl_X2_15_2 hk_a0 rfl ?_
  refine mj_iconst (v := 0) dX2_takes_27 (by decide) ?_
  refine mj_iconst (v := 3) dX2_takes_28 (by decide) ?_
  refine mj_callNi (as := [.int (m_gi S a0 1), .int (0 : Int32), .int (3 : Int32)]) (st := []) dX2_takes_29 cal_X10_within ln_X2_36 sm_X10_within h rfl (Nat.le_of_ble_eq_true rfl) (by decide) ⟨Nat.le_of_ble_eq_true rfl, Nat.le_of_ble_eq_true rfl⟩ (fun S5 r6 h hn_r6 hp => ?_)
  have hk_a0 : m_kd S5 a0 = 2 := m_kd_pre hp hk_a0 (by decide)
  have hk_a1 : m_kd S5 a1 = 7 := m_kd_pre hp hk_a1 (by decide)
  have hk_b1 : m_kd S5 b1 = 5 := m_kd_pre hp hk_b1 (by decide)
  have hk_b2 : m_kd S5 b2 = 100 := m_kd_pre hp hk_b2 (by decide)
  have hk_b3 : m_kd S5 b3 = 100 := m_kd_pre hp hk_b3 (by decide)
  refine mj_if_eq (tgt := 122) dX2_takes_32 (by decide) ⟨fun hc => ?_, fun hc => ?_⟩
  · replace h := h.1 hc
    exact mj_lessm [false, false, false, false, true] rfl h
  · replace h := h.2 hc
    refine mj_aload_n dX2_takes_35 rfl rfl ?_
    obtain ⟨b7, eb7, h⟩ := h
    refine mj_getP dX2_takes_36 fl_X2_27_2 hk_a0 rfl ⟨b7, eb7, fun hk_b7 => ?_⟩
    refine mj_iconst (v := 0) dX2_takes_39 (by decide) ?_
    refine mj_aload_n dX2_takes_40 rfl rfl ?_
    obtain ⟨b8, eb8, h⟩ := h
    refine mj_getP dX2_takes_41 fl_X2_52_5 hk_b1 rfl ⟨b8, eb8, fun hk_b8 => ?_⟩
    refine mj_iload_n dX2_takes_44 rfl rfl ?_
    refine mj_iald dX2_takes_45 (Or.inl hk_b8) ⟨h.1, ?_⟩
    replace h := h.2
    refine mj_iast dX2_takes_46 hk_b7 ⟨h.1, ?_⟩
    replace h := h.2
    obtain ⟨S9, eS9⟩ : ∃ z, z = m_si S5 b7 ((0 : Int32)).toNatClampNeg (m_gi S5 b8 (x2).toNatClampNeg) := ⟨_, rfl⟩
    rw [← eS9]
    replace h := h S9 eS9
    have hk_a0 : m_kd S9 a0 = 2 := by rw [eS9]; exact hk_a0
    have hk_a1 : m_kd S9 a1 = 7 := by rw [eS9]; exact hk_a1
    have hk_b1 : m_kd S9 b1 = 5 := by rw [eS9]; exact hk_b1
    have hk_b2 : m_kd S9 b2 = 100 := by rw [eS9]; exact hk_b2
    have hk_b3 : m_kd S9 b3 = 100 := by rw [eS9]; exact hk_b3
    have hk_b7 : m_kd S9 b7 = 100 := by rw [eS9]; exact hk_b7
    have hk_b8 : m_kd S9 b8 = 100 := by rw [eS9]; exact hk_b8
    refine mj_aload_n dX2_takes_47 rfl rfl ?_
    obtain ⟨b10, eb10, h⟩ := h
    refine mj_getP dX2_takes_48 fl_X2_27_2 hk_a0 rfl ⟨b10, eb10, fun hk_b10 => ?_⟩
    refine mj_iconst (v := 1) dX2_takes_51 (by decide) ?_
    refine mj_aload_n dX2_takes_52 rfl rfl ?_
    obtain ⟨b11, eb11, h⟩ := h
    refine mj_getP dX2_takes_53 fl_X2_57_7 hk_a1 rfl ⟨b11, eb11, fun hk_b11 => ?_⟩
    refine mj_iload_n dX2_takes_56 rfl rfl ?_
    refine mj_iald dX2_takes_57 (Or.inl hk_b11) ⟨h.1, ?_⟩
    replace h := h.2
    refine mj_iast dX2_takes_58 hk_b10 ⟨h.1, ?_⟩
    replace h := h.2
    obtain ⟨S12, eS12⟩ : ∃ z, z = m_si S9 b10 ((1 : Int32)).toNatClampNeg (m_gi S9 b11 (x2).toNatClampNeg) := ⟨_, rfl⟩
    rw [← eS12]
    replace h := h S12 eS12
    have hk_a0 : m_kd S12 a0 = 2 := by rw [eS12]; exact hk_a0
    have hk_a1 : m_kd S12 a1 = 7 := by rw [eS12]; exact hk_a1
    have hk_b1 : m_kd S12 b1 = 5 := by rw [eS12]; exact hk_b1
    have hk_b2 : m_kd S12 b2 = 100 := by rw [eS12]; exact hk_b2
    have hk_b3 : m_kd S12 b3 = 100 := by rw [eS12]; exact hk_b3
    have hk_b7 : m_kd S12 b7 = 100 := by rw [eS12]; exact hk_b7
    have hk_b8 : m_kd S12 b8 = 100 := by rw [eS12]; exact hk_b8
    have hk_b10 : m_kd S12 b10 = 100 := by rw [eS12]; exact hk_b10
    have hk_b11 : m_kd S12 b11 = 100 := by rw [eS12]; exact hk_b11
    refine mj_aload_n dX2_takes_59 rfl rfl ?_
    obtain ⟨b13, eb13, h⟩ := h
    refine mj_getP dX2_takes_60 fl_X2_27_2 hk_a0 rfl ⟨b13, eb13, fun hk_b13 => ?_⟩
    refine mj_iconst (v := 2) dX2_takes_63 (by decide) ?_
    refine mj_aload_n dX2_takes_64 rfl rfl ?_
    obtain ⟨b14, eb14, h⟩ := h
    refine mj_getP dX2_takes_65 fl_X2_60_5 hk_b1 rfl ⟨b14, eb14, fun hk_b14 => ?_⟩
    refine mj_iload_n dX2_takes_68 rfl rfl ?_
    refine mj_iald dX2_takes_69 (Or.inl hk_b14) ⟨h.1, ?_⟩
    replace h := h.2
    refine mj_iast dX2_takes_70 hk_b13 ⟨h.1, ?_⟩
    replace h := h.2
    obtain ⟨S15, eS15⟩ : ∃ z, z = m_si S12 b13 ((2 : Int32)).toNatClampNeg (m_gi S12 b14 (x2).toNatClampNeg) := ⟨_, rfl⟩
    rw [← eS15]
    replace h := h S15 eS15
    have hk_a0 : m_kd S15 a0 = 2 := by rw [eS15]; exact hk_a0
    have hk_a1 : m_kd S15 a1 = 7 := by rw [eS15]; exact hk_a1
    have hk_b1 : m_kd S15 b1 = 5 := by rw [eS15]; exact hk_b1
    have hk_b2 : m_kd S15 b2 = 100 := by rw [eS15]; exact hk_b2
    have hk_b3 : m_kd S15 b3 = 100 := by rw [eS15]; exact hk_b3
    have hk_b7 : m_kd S15 b7 = 100 := by rw [eS15]; exact hk_b7
    have hk_b8 : m_kd S15 b8 = 100 := by rw [eS15]; exact hk_b8
    have hk_b10 : m_kd S15 b10 = 100 := by rw [eS15]; exact hk_b10
    have hk_b11 : m_kd S15 b11 = 100 := by rw [eS15]; exact hk_b11
    have hk_b13 : m_kd S15 b13 = 100 := by rw [eS15]; exact hk_b13
    have hk_b14 : m_kd S15 b14 = 100 := by rw [eS15]; exact hk_b14
    refine mj_aload_n dX2_takes_71 rfl rfl ?_
    obtain ⟨b16, eb16, h⟩ := h
    refine mj_getP dX2_takes_72 fl_X2_27_2 hk_a0 rfl ⟨b16, eb16, fun hk_b16 => ?_⟩
    refine mj_iconst (v := 3) dX2_takes_75 (by decide) ?_
    refine mj_aload_n dX2_takes_76 rfl rfl ?_
    refine mj_getI dX2_takes_77 fl_X2_63_5 hk_b1 rfl ?_
    refine mj_iast dX2_takes_80 hk_b16 ⟨h.1, ?_⟩
    replace h := h.2
    obtain ⟨S17, eS17⟩ : ∃ z, z = m_si S15 b16 ((3 : Int32)).toNatClampNeg (m_gi S15 b1 2) := ⟨_, rfl⟩
    rw [← eS17]
    replace h := h S17 eS17
    have hk_a0 : m_kd S17 a0 = 2 := by rw [eS17]; exact hk_a0
    have hk_a1 : m_kd S17 a1 = 7 := by rw [eS17]; exact hk_a1
    have hk_b1 : m_kd S17 b1 = 5 := by rw [eS17]; exact hk_b1
    have hk_b2 : m_kd S17 b2 = 100 := by rw [eS17]; exact hk_b2
    have hk_b3 : m_kd S17 b3 = 100 := by rw [eS17]; exact hk_b3
    have hk_b7 : m_kd S17 b7 = 100 := by rw [eS17]; exact hk_b7
    have hk_b8 : m_kd S17 b8 = 100 := by rw [eS17]; exact hk_b8
    have hk_b10 : m_kd S17 b10 = 100 := by rw [eS17]; exact hk_b10
    have hk_b11 : m_kd S17 b11 = 100 := by rw [eS17]; exact hk_b11
    have hk_b13 : m_kd S17 b13 = 100 := by rw [eS17]; exact hk_b13
    have hk_b14 : m_kd S17 b14 = 100 := by rw [eS17]; exact hk_b14
    have hk_b16 : m_kd S17 b16 = 100 := by rw [eS17]; exact hk_b16
    refine mj_aload_n dX2_takes_81 rfl rfl ?_
    obtain ⟨b18, eb18, h⟩ := h
    refine mj_getP dX2_takes_82 fl_X2_27_2 hk_a0 rfl ⟨b18, eb18, fun hk_b18 => ?_⟩
    refine mj_iconst (v := 4) dX2_takes_85 (by decide) ?_
    refine mj_aload_n dX2_takes_86 rfl rfl ?_
    refine mj_getI dX2_takes_87 fl_X2_66_7 hk_a1 rfl ?_
    refine mj_iast dX2_takes_90 hk_b18 ⟨h.1, ?_⟩
    replace h := h.2
    obtain ⟨S19, eS19⟩ : ∃ z, z = m_si S17 b18 ((4 : Int32)).toNatClampNeg (m_gi S17 a1 4) := ⟨_, rfl⟩
    rw [← eS19]
    replace h := h S19 eS19
    have hk_a0 : m_kd S19 a0 = 2 := by rw [eS19]; exact hk_a0
    have hk_a1 : m_kd S19 a1 = 7 := by rw [eS19]; exact hk_a1
    have hk_b1 : m_kd S19 b1 = 5 := by rw [eS19]; exact hk_b1
    have hk_b2 : m_kd S19 b2 = 100 := by rw [eS19]; exact hk_b2
    have hk_b3 : m_kd S19 b3 = 100 := by rw [eS19]; exact hk_b3
    have hk_b7 : m_kd S19 b7 = 100 := by rw [eS19]; exact hk_b7
    have hk_b8 : m_kd S19 b8 = 100 := by rw [eS19]; exact hk_b8
    have hk_b10 : m_kd S19 b10 = 100 := by rw [eS19]; exact hk_b10
    have hk_b11 : m_kd S19 b11 = 100 := by rw [eS19]; exact hk_b11
    have hk_b13 : m_kd S19 b13 = 100 := by rw [eS19]; exact hk_b13
    have hk_b14 : m_kd S19 b14 = 100 := by rw [eS19]; exact hk_b14
    have hk_b16 : m_kd S19 b16 = 100 := by rw [eS19]; exact hk_b16
    have hk_b18 : m_kd S19 b18 = 100 := by rw [eS19]; exact hk_b18
    refine mj_aload_n dX2_takes_91 rfl rfl ?_
    obtain ⟨b20, eb20, h⟩ := h
    refine mj_getP dX2_takes_92 fl_X2_27_2 hk_a0 rfl ⟨b20, eb20, fun hk_b20 => ?_⟩
    refine mj_iconst (v := 5) dX2_takes_95 (by decide) ?_
    refine mj_iload_n dX2_takes_96 rfl rfl ?_
    refine mj_iast dX2_takes_97 hk_b20 ⟨h.1, ?_⟩
    replace h := h.2
    obtain ⟨S21, eS21⟩ : ∃ z, z = m_si S19 b20 ((5 : Int32)).toNatClampNeg x2 := ⟨_, rfl⟩
    rw [← eS21]
    replace h := h S21 eS21
    have hk_a0 : m_kd S21 a0 = 2 := by rw [eS21]; exact hk_a0
    have hk_a1 : m_kd S21 a1 = 7 := by rw [eS21]; exact hk_a1
    have hk_b1 : m_kd S21 b1 = 5 := by rw [eS21]; exact hk_b1
    have hk_b2 : m_kd S21 b2 = 100 := by rw [eS21]; exact hk_b2
    have hk_b3 : m_kd S21 b3 = 100 := by rw [eS21]; exact hk_b3
    have hk_b7 : m_kd S21 b7 = 100 := by rw [eS21]; exact hk_b7
    have hk_b8 : m_kd S21 b8 = 100 := by rw [eS21]; exact hk_b8
    have hk_b10 : m_kd S21 b10 = 100 := by rw [eS21]; exact hk_b10
    have hk_b11 : m_kd S21 b11 = 100 := by rw [eS21]; exact hk_b11
    have hk_b13 : m_kd S21 b13 = 100 := by rw [eS21]; exact hk_b13
    have hk_b14 : m_kd S21 b14 = 100 := by rw [eS21]; exact hk_b14
    have hk_b16 : m_kd S21 b16 = 100 := by rw [eS21]; exact hk_b16
    have hk_b18 : m_kd S21 b18 = 100 := by rw [eS21]; exact hk_b18
    have hk_b20 : m_kd S21 b20 = 100 := by rw [eS21]; exact hk_b20
    refine mj_aload_n dX2_takes_98 rfl rfl ?_
    refine mj_aload_n dX2_takes_99 rfl rfl ?_
    obtain ⟨b22, eb22, h⟩ := h
    refine mj_getP dX2_takes_100 fl_X2_20_2 hk_a0 rfl ⟨b22, eb22, fun hk_b22 => ?_⟩
    refine mj_aload_n dX2_takes_103 rfl rfl ?_
    refine mj_getI dX2_takes_104 fl_X2_15_2 hk_a0 rfl ?_
    obtain ⟨hin, b23, eb23, h⟩ := h
    refine mj_aald dX2_takes_107 hk_b22 ⟨hin, b23, eb23, fun hk_b23 => ?_⟩
    refine mj_aload_n dX2_takes_108 rfl rfl ?_
    obtain ⟨b24, eb24, h⟩ := h
    refine mj_getP dX2_takes_109 fl_X2_23_2 hk_a0 rfl ⟨b24, eb24, fun hk_b24 => ?_⟩
    refine mj_aload_n dX2_takes_112 rfl rfl ?_
    refine mj_getI dX2_takes_113 fl_X2_15_2 hk_a0 rfl ?_
    refine mj_iald dX2_takes_116 (Or.inl hk_b24) ⟨h.1, ?_⟩
    replace h := h.2
    refine mj_callVi (as := [.ref b23, .int (m_gi S21 b24 ((m_gi S21 a0 1)).toNatClampNeg)]) (st := []) dX2_takes_117 cal_X2_worthBy lk_X2_69 im_X2_worthBy se_X2_worthBy (ci := 2) rfl (by decide) hk_a0 h rfl (Nat.le_of_ble_eq_true rfl) (by decide) ⟨Nat.le_of_ble_eq_true rfl, Nat.le_of_ble_eq_true rfl⟩ (fun S25 r26 h hn_r26 hp => ?_)
    have hk_a0 : m_kd S25 a0 = 2 := m_kd_pre hp hk_a0 (by decide)
    have hk_a1 : m_kd S25 a1 = 7 := m_kd_pre hp hk_a1 (by decide)
    have hk_b1 : m_kd S25 b1 = 5 := m_kd_pre hp hk_b1 (by decide)
    have hk_b2 : m_kd S25 b2 = 100 := m_kd_pre hp hk_b2 (by decide)
    have hk_b3 : m_kd S25 b3 = 100 := m_kd_pre hp hk_b3 (by decide)
    have hk_b7 : m_kd S25 b7 = 100 := m_kd_pre hp hk_b7 (by decide)
    have hk_b8 : m_kd S25 b8 = 100 := m_kd_pre hp hk_b8 (by decide)
    have hk_b10 : m_kd S25 b10 = 100 := m_kd_pre hp hk_b10 (by decide)
    have hk_b11 : m_kd S25 b11 = 100 := m_kd_pre hp hk_b11 (by decide)
    have hk_b13 : m_kd S25 b13 = 100 := m_kd_pre hp hk_b13 (by decide)
    have hk_b14 : m_kd S25 b14 = 100 := m_kd_pre hp hk_b14 (by decide)
    have hk_b16 : m_kd S25 b16 = 100 := m_kd_pre hp hk_b16 (by decide)
    have hk_b18 : m_kd S25 b18 = 100 := m_kd_pre hp hk_b18 (by decide)
    have hk_b20 : m_kd S25 b20 = 100 := m_kd_pre hp hk_b20 (by decide)
    have hk_b22 : m_kd S25 b22 = 103 := m_kd_pre hp hk_b22 (by decide)
    have hk_b23 : m_kd S25 b23 = 100 := m_kd_pre hp hk_b23 (by decide)
    have hk_b24 : m_kd S25 b24 = 100 := m_kd_pre hp hk_b24 (by decide)
    refine mj_istore dX2_takes_120 (by decide) rfl rfl ?_
    exact mj_lessm [false, false, false, false, true] rfl h
set_option maxRecDepth 20000 in
set_option maxHeartbeats 1000000 in
theorem b_X2_takes_122 {l : Launch} {G : mj_G} {x4 : Int32} {S : mj_S} {Q : mj_S → Int32 → Prop} (h : M_J9_min_7cf53 l G (99 : Int32) x4 S (fun S1 r2 => M_J9_max_7cf53 l G (1 : Int32) r2 S1 (fun S3 r4 => Q S3 r4))) : V_X2_takes_122 l G x4 S Q := by
  refine mj_iconst (v := 1) dX2_takes_122 (by decide) ?_
  refine mj_bipush (v := 99) dX2_takes_123 (by decide) ?_
  refine mj_iload dX2_takes_125 rfl ?_
  refine mj_callSi (as := [.int (99 : Int32), .int x4]) (st := [.int (1 : Int32)]) dX2_takes_127 cal_J9_min_7cf53 lk_X2_73 sm_J9_min_7cf53 h rfl (Nat.le_of_ble_eq_true rfl) (by decide) ⟨Nat.le_of_ble_eq_true rfl, Nat.le_of_ble_eq_true rfl⟩ (fun S1 r2 h hn_r2 hp => ?_)
  refine mj_callSi (as := [.int (1 : Int32), .int r2]) (st := []) dX2_takes_130 cal_J9_max_7cf53 lk_X2_79 sm_J9_max_7cf53 h rfl (Nat.le_of_ble_eq_true rfl) (by decide) ⟨Nat.le_of_ble_eq_true rfl, Nat.le_of_ble_eq_true rfl⟩ (fun S3 r4 h hn_r4 hp => ?_)
  exact mj_reti dX2_takes_133 rfl ⟨Nat.le_of_ble_eq_true rfl, Nat.le_of_ble_eq_true rfl⟩ h
abbrev V_X2_worthBy_0 (l : Launch) (G : mj_G) (a0 : Nat) (a1 : Nat) (x2 : Int32) (S : mj_S) (Q : mj_S → Int32 → Prop) : Prop := mj_V l G (mj_room 3 0 0) RX2 cX2_worthBy 8 (some .int) false 0 [some (.ref a0), some (.ref a1), some (.int x2), none, none, none, none, none] [] S 0 0 (mj_std G (some .int) (mj_room 3 0 0) (mj_qi Q))
abbrev V_X2_worthBy_10 (l : Launch) (G : mj_G) (a0 : Nat) (a1 : Nat) (x2 : Int32) (x3 : Int32) (x4 : Int32) (S : mj_S) (Q : mj_S → Int32 → Prop) : Prop := mj_V l G (mj_room 3 0 0) RX2 cX2_worthBy 8 (some .int) false 10 [some (.ref a0), some (.ref a1), some (.int x2), some (.int x3), some (.int x4), none, none, none] [] S 0 0 (mj_std G (some .int) (mj_room 3 0 0) (mj_qi Q))
abbrev V_X2_worthBy_120 (l : Launch) (G : mj_G) (a0 : Nat) (a1 : Nat) (x2 : Int32) (x3 : Int32) (x4 : Int32) (c0 : Nat) (s1 : Int32) (S : mj_S) (Q : mj_S → Int32 → Prop) : Prop := mj_V l G (mj_room 3 0 0) RX2 cX2_worthBy 8 (some .int) false 120 [some (.ref a0), some (.ref a1), some (.int x2), some (.int x3), some (.int x4), none, none, none] [.int s1, .ref c0] S 0 0 (mj_std G (some .int) (mj_room 3 0 0) (mj_qi Q))
theorem e_X2_worthBy {l : Launch} {G : mj_G} {a0 : Nat} {a1 : Nat} {x2 : Int32} {S : mj_S} {Q : mj_S → Int32 → Prop} (h : V_X2_worthBy_0 l G a0 a1 x2 S Q) : M_X2_worthBy l G a0 a1 x2 S Q := mj_enter (r := 5) (ini := false) (by decide +kernel) (fun h => by cases h) (fun _ => Nat.le_of_ble_eq_true rfl) rfl h
set_option maxRecDepth 20000 in
set_option maxHeartbeats 1000000 in
theorem b_X2_worthBy_0 {l : Launch} {G : mj_G} {a0 : Nat} {a1 : Nat} {x2 : Int32} {S : mj_S} {Q : mj_S → Int32 → Prop} (hk_a0 : m_kd S a0 = 2) (hk_a1 : m_kd S a1 = 100) (h : ∀ S1 : mj_S, S1 = m_si S a0 6 (0 : Int32) → V_X2_worthBy_10 l G a0 a1 x2 (0 : Int32) (0 : Int32) S1 Q) : V_X2_worthBy_0 l G a0 a1 x2 S Q := by
  refine mj_aload_n dX2_worthBy_0 rfl rfl ?_
  refine mj_iconst (v := 0) dX2_worthBy_1 (by decide) ?_
  refine mj_putI dX2_worthBy_2 fl_X2_33_2 hk_a0 (Or.inl rfl) rfl rfl rfl ?_
  obtain ⟨S1, eS1⟩ : ∃ z, z = m_si S a0 6 (0 : Int32) := ⟨_, rfl⟩
  rw [← eS1]
  replace h := h S1 eS1
  have hk_a0 : m_kd S1 a0 = 2 := by rw [eS1]; exact hk_a0
  have hk_a1 : m_kd S1 a1 = 100 := by rw [eS1]; exact hk_a1
  refine mj_iconst (v := 0) dX2_worthBy_5 (by decide) ?_
  refine mj_istore_n dX2_worthBy_6 rfl (by decide) rfl rfl ?_
  refine mj_iconst (v := 0) dX2_worthBy_7 (by decide) ?_
  refine mj_istore dX2_worthBy_8 (by decide) rfl rfl ?_
  exact h
set_option maxRecDepth 20000 in
set_option maxHeartbeats 1000000 in
theorem b_X2_worthBy_10 {l : Launch} {G : mj_G} {a0 : Nat} {a1 : Nat} {x2 : Int32} {x3 : Int32} {x4 : Int32} {S : mj_S} {Q : mj_S → Int32 → Prop} (hk_a0 : m_kd S a0 = 2) (hk_a1 : m_kd S a1 = 100) (h : ((x2 ≤ x4) → Q S (0 : Int32)) ∧ ((¬ (x2 ≤ x4)) → ((x2 ≤ x3) → Q S (0 : Int32)) ∧ ((¬ (x2 ≤ x3)) → vp_in x3 (m_ln S a1) ∧ (∀ v1 : Int32, v1 = ((m_gi S a1 (x3).toNatClampNeg) >>> ((16 : Int32) &&& 31)) → vp_in x3 (m_ln S a1) ∧ (∀ v2 : Int32, v2 = ((m_gi S a1 (x3).toNatClampNeg) &&& (65535 : Int32)) → ∀ v3 : Int32, v3 = x3 + (1 : Int32) → (v1.toInt = 1 → M_X2_push l G a0 v2 S (fun S4 => ∀ v5 : Int32, v5 = x4 + (1 : Int32) → V_X2_worthBy_10 l G a0 a1 x2 v3 v5 S4 Q)) ∧ (v1.toInt = 2 → (((6 : Int32) ≤ v2) → V_X2_worthBy_120 l G a0 a1 x2 v3 x4 a0 (0 : Int32) S Q) ∧ ((¬ ((6 : Int32) ≤ v2)) → ∃ b6, m_gp S a0 4 = some b6 ∧ (vp_in v2 (m_ln S b6) ∧ (V_X2_worthBy_120 l G a0 a1 x2 v3 x4 a0 (m_gi S b6 (v2).toNatClampNeg) S Q)))) ∧ (v1.toInt = 3 → M_X2_pop l G a0 S (fun S7 r8 => ((¬ r8 = 0) → ∀ v9 : Int32, v9 = x4 + (1 : Int32) → V_X2_worthBy_10 l G a0 a1 x2 v3 v9 S7 Q) ∧ ((r8 = 0) → ∀ v10 : Int32, v10 = x4 + (1 : Int32) → V_X2_worthBy_10 l G a0 a1 x2 v2 v10 S7 Q))) ∧ (v1.toInt = 4 → M_X2_pop l G a0 S (fun S11 r12 => Q S11 r12)) ∧ (v1.toInt = 33 → M_X2_pop l G a0 S (fun S13 r14 => M_X2_push l G a0 ((1 : Int32) - r14) S13 (fun S15 => ∀ v16 : Int32, v16 = x4 + (1 : Int32) → V_X2_worthBy_10 l G a0 a1 x2 v3 v16 S15 Q))) ∧ (¬ v1.toInt = 1 ∧ ¬ v1.toInt = 2 ∧ ¬ v1.toInt = 3 ∧ ¬ v1.toInt = 4 ∧ ¬ v1.toInt = 33 → M_X2_pop l G a0 S (fun S17 r18 => M_X2_pop l G a0 S17 (fun S19 r20 => M_X2_put l G v1 r20 r18 S19 (fun S21 r22 => M_X2_push l G a0 r22 S21 (fun S23 => ∀ v24 : Int32, v24 = x4 + (1 : Int32) → V_X2_worthBy_10 l G a0 a1 x2 v3 v24 S23 Q)))))))))) : V_X2_worthBy_10 l G a0 a1 x2 x3 x4 S Q := by
  refine mj_iload dX2_worthBy_10 rfl ?_
  refine mj_iload_n dX2_worthBy_12 rfl rfl ?_
  refine mj_icmp_ge (tgt := 188) dX2_worthBy_13 (by decide) ⟨fun hc => ?_, fun hc => ?_⟩
  · replace h := h.1 hc
    refine mj_iconst (v := 0) dX2_worthBy_188 (by decide) ?_
    exact mj_reti dX2_worthBy_189 rfl ⟨Nat.le_of_ble_eq_true rfl, Nat.le_of_ble_eq_true rfl⟩ h
  · replace h := h.2 hc
    refine mj_iload_n dX2_worthBy_16 rfl rfl ?_
    refine mj_iload_n dX2_worthBy_17 rfl rfl ?_
    refine mj_icmp_ge (tgt := 188) dX2_worthBy_18 (by decide) ⟨fun hc => ?_, fun hc => ?_⟩
    · replace h := h.1 hc
      refine mj_iconst (v := 0) dX2_worthBy_188 (by decide) ?_
      exact mj_reti dX2_worthBy_189 rfl ⟨Nat.le_of_ble_eq_true rfl, Nat.le_of_ble_eq_true rfl⟩ h
    · replace h := h.2 hc
      refine mj_aload_n dX2_worthBy_21 rfl rfl ?_
      refine mj_iload_n dX2_worthBy_22 rfl rfl ?_
      refine mj_iald dX2_worthBy_23 (Or.inl hk_a1) ⟨h.1, ?_⟩
      replace h := h.2
      refine mj_bipush (v := 16) dX2_worthBy_24 (by decide) ?_
      refine mj_ishr dX2_worthBy_26 ?_
      refine mj_nmi (fun v1 ev1 => ?_)
      replace h := h v1 ev1
      refine mj_istore dX2_worthBy_27 (by decide) rfl rfl ?_
      refine mj_aload_n dX2_worthBy_29 rfl rfl ?_
      refine mj_iload_n dX2_worthBy_30 rfl rfl ?_
      refine mj_iald dX2_worthBy_31 (Or.inl hk_a1) ⟨h.1, ?_⟩
      replace h := h.2
      refine mj_ldc dX2_worthBy_32 co_X2_82 ?_
      refine mj_iand dX2_worthBy_34 ?_
      refine mj_nmi (fun v2 ev2 => ?_)
      replace h := h v2 ev2
      refine mj_istore dX2_worthBy_35 (by decide) rfl rfl ?_
      obtain ⟨v3, ev3⟩ : ∃ z : Int32, z = x3 + (1 : Int32) := ⟨_, rfl⟩
      refine mj_iinc (v := v3) dX2_worthBy_37 rfl (by rw [ev3]; rfl) (by decide) rfl rfl ?_
      replace h := h v3 ev3
      refine mj_iload dX2_worthBy_40 rfl ?_
      by_cases e0 : v1.toInt = 1
      · replace h := h.1 e0
        refine mj_look (tgt := 92) (off := 50) dX2_worthBy_42 (by decide) (by rw [e0]; rfl) (by decide) ?_
        refine mj_aload_n dX2_worthBy_92 rfl rfl ?_
        refine mj_iload dX2_worthBy_93 rfl ?_
        refine mj_callVv (as := [.int v2]) (st := []) dX2_worthBy_95 cal_X2_push lk_X2_83 im_X2_push se_X2_push (ci := 2) rfl (by decide) hk_a0 h rfl (Nat.le_of_ble_eq_true rfl) (by decide) ⟨Nat.le_of_ble_eq_true rfl, Nat.le_of_ble_eq_true rfl⟩ (fun S4 h hp => ?_)
        have hk_a0 : m_kd S4 a0 = 2 := m_kd_pre hp hk_a0 (by decide)
        have hk_a1 : m_kd S4 a1 = 100 := m_kd_pre hp hk_a1 (by decide)
        refine mj_goto (tgt := 182) dX2_worthBy_98 (by decide) ?_
        obtain ⟨v5, ev5⟩ : ∃ z : Int32, z = x4 + (1 : Int32) := ⟨_, rfl⟩
        refine mj_iinc (v := v5) dX2_worthBy_182 rfl (by rw [ev5]; rfl) (by decide) rfl rfl ?_
        replace h := h v5 ev5
        refine mj_goto (tgt := 10) dX2_worthBy_185 (by decide) ?_
        exact mj_lessm [true, true, true, true, true, false, false, false] rfl h
      · skip
        by_cases e1 : v1.toInt = 2
        · replace h := h.2.1 e1
          refine mj_look (tgt := 101) (off := 59) dX2_worthBy_42 (by decide) (by rw [e1]; rfl) (by decide) ?_
          refine mj_aload_n dX2_worthBy_101 rfl rfl ?_
          refine mj_iload dX2_worthBy_102 rfl ?_
          refine mj_bipush (v := 6) dX2_worthBy_104 (by decide) ?_
          refine mj_icmp_ge (tgt := 119) dX2_worthBy_106 (by decide) ⟨fun hc => ?_, fun hc => ?_⟩
          · replace h := h.1 hc
            refine mj_iconst (v := 0) dX2_worthBy_119 (by decide) ?_
            exact mj_lessm [true, true, true, true, true, false, false, false] rfl h
          · replace h := h.2 hc
            refine mj_aload_n dX2_worthBy_109 rfl rfl ?_
            obtain ⟨b6, eb6, h⟩ := h
            refine mj_getP dX2_worthBy_110 fl_X2_27_2 hk_a0 rfl ⟨b6, eb6, fun hk_b6 => ?_⟩
            refine mj_iload dX2_worthBy_113 rfl ?_
            refine mj_iald dX2_worthBy_115 (Or.inl hk_b6) ⟨h.1, ?_⟩
            replace h := h.2
            refine mj_goto (tgt := 120) dX2_worthBy_116 (by decide) ?_
            exact mj_lessm [true, true, true, true, true, false, false, false] rfl h
        · skip
          by_cases e2 : v1.toInt = 3
          · replace h := h.2.2.1 e2
            refine mj_look (tgt := 126) (off := 84) dX2_worthBy_42 (by decide) (by rw [e2]; rfl) (by decide) ?_
            refine mj_aload_n dX2_worthBy_126 rfl rfl ?_
            refine mj_callVi (as := []) (st := []) dX2_worthBy_127 cal_X2_pop lk_X2_87 im_X2_pop se_X2_pop (ci := 2) rfl (by decide) hk_a0 h rfl (Nat.le_of_ble_eq_true rfl) (by decide) ⟨Nat.le_of_ble_eq_true rfl, Nat.le_of_ble_eq_true rfl⟩ (fun S7 r8 h hn_r8 hp => ?_)
            have hk_a0 : m_kd S7 a0 = 2 := m_kd_pre hp hk_a0 (by decide)
            have hk_a1 : m_kd S7 a1 = 100 := m_kd_pre hp hk_a1 (by decide)
            refine mj_if_ne (tgt := 138) dX2_worthBy_130 (by decide) ⟨fun hc => ?_, fun hc => ?_⟩
            · replace h := h.1 hc
              refine mj_iload_n dX2_worthBy_138 rfl rfl ?_
              refine mj_istore_n dX2_worthBy_139 rfl (by decide) rfl rfl ?_
              refine mj_goto (tgt := 182) dX2_worthBy_140 (by decide) ?_
              obtain ⟨v9, ev9⟩ : ∃ z : Int32, z = x4 + (1 : Int32) := ⟨_, rfl⟩
              refine mj_iinc (v := v9) dX2_worthBy_182 rfl (by rw [ev9]; rfl) (by decide) rfl rfl ?_
              replace h := h v9 ev9
              refine mj_goto (tgt := 10) dX2_worthBy_185 (by decide) ?_
              exact mj_lessm [true, true, true, true, true, false, false, false] rfl h
            · replace h := h.2 hc
              refine mj_iload dX2_worthBy_133 rfl ?_
              refine mj_goto (tgt := 139) dX2_worthBy_135 (by decide) ?_
              refine mj_istore_n dX2_worthBy_139 rfl (by decide) rfl rfl ?_
              refine mj_goto (tgt := 182) dX2_worthBy_140 (by decide) ?_
              obtain ⟨v10, ev10⟩ : ∃ z : Int32, z = x4 + (1 : Int32) := ⟨_, rfl⟩
              refine mj_iinc (v := v10) dX2_worthBy_182 rfl (by rw [ev10]; rfl) (by decide) rfl rfl ?_
              replace h := h v10 ev10
              refine mj_goto (tgt := 10) dX2_worthBy_185 (by decide) ?_
              exact mj_lessm [true, true, true, true, true, false, false, false] rfl h
          · skip
            by_cases e3 : v1.toInt = 4
            · replace h := h.2.2.2.1 e3
              refine mj_look (tgt := 143) (off := 101) dX2_worthBy_42 (by decide) (by rw [e3]; rfl) (by decide) ?_
              refine mj_aload_n dX2_worthBy_143 rfl rfl ?_
              refine mj_callVi (as := []) (st := []) dX2_worthBy_144 cal_X2_pop lk_X2_87 im_X2_pop se_X2_pop (ci := 2) rfl (by decide) hk_a0 h rfl (Nat.le_of_ble_eq_true rfl) (by decide) ⟨Nat.le_of_ble_eq_true rfl, Nat.le_of_ble_eq_true rfl⟩ (fun S11 r12 h hn_r12 hp => ?_)
              have hk_a0 : m_kd S11 a0 = 2 := m_kd_pre hp hk_a0 (by decide)
              have hk_a1 : m_kd S11 a1 = 100 := m_kd_pre hp hk_a1 (by decide)
              exact mj_reti dX2_worthBy_147 rfl ⟨Nat.le_of_ble_eq_true rfl, Nat.le_of_ble_eq_true rfl⟩ h
            · skip
              by_cases e4 : v1.toInt = 33
              · replace h := h.2.2.2.2.1 e4
                refine mj_look (tgt := 148) (off := 106) dX2_worthBy_42 (by decide) (by rw [e4]; rfl) (by decide) ?_
                refine mj_aload_n dX2_worthBy_148 rfl rfl ?_
                refine mj_iconst (v := 1) dX2_worthBy_149 (by decide) ?_
                refine mj_aload_n dX2_worthBy_150 rfl rfl ?_
                refine mj_callVi (as := []) (st := [.int (1 : Int32), .ref a0]) dX2_worthBy_151 cal_X2_pop lk_X2_87 im_X2_pop se_X2_pop (ci := 2) rfl (by decide) hk_a0 h rfl (Nat.le_of_ble_eq_true rfl) (by decide) ⟨Nat.le_of_ble_eq_true rfl, Nat.le_of_ble_eq_true rfl⟩ (fun S13 r14 h hn_r14 hp => ?_)
                have hk_a0 : m_kd S13 a0 = 2 := m_kd_pre hp hk_a0 (by decide)
                have hk_a1 : m_kd S13 a1 = 100 := m_kd_pre hp hk_a1 (by decide)
                refine mj_isub dX2_worthBy_154 ?_
                refine mj_callVv (as := [.int ((1 : Int32) - r14)]) (st := []) dX2_worthBy_155 cal_X2_push lk_X2_83 im_X2_push se_X2_push (ci := 2) rfl (by decide) hk_a0 h rfl (Nat.le_of_ble_eq_true rfl) (by decide) ⟨Nat.le_of_ble_eq_true rfl, Nat.le_of_ble_eq_true rfl⟩ (fun S15 h hp => ?_)
                have hk_a0 : m_kd S15 a0 = 2 := m_kd_pre hp hk_a0 (by decide)
                have hk_a1 : m_kd S15 a1 = 100 := m_kd_pre hp hk_a1 (by decide)
                refine mj_goto (tgt := 182) dX2_worthBy_158 (by decide) ?_
                obtain ⟨v16, ev16⟩ : ∃ z : Int32, z = x4 + (1 : Int32) := ⟨_, rfl⟩
                refine mj_iinc (v := v16) dX2_worthBy_182 rfl (by rw [ev16]; rfl) (by decide) rfl rfl ?_
                replace h := h v16 ev16
                refine mj_goto (tgt := 10) dX2_worthBy_185 (by decide) ?_
                exact mj_lessm [true, true, true, true, true, false, false, false] rfl h
              · skip
                replace h := h.2.2.2.2.2 ⟨e0, e1, e2, e3, e4⟩
                refine mj_look (tgt := 161) (off := 119) dX2_worthBy_42 (by decide) (by simp [Op.lookupswitch.offset_cons, Op.lookupswitch.offset, Ne.symm e0, e0, Ne.symm e1, e1, Ne.symm e2, e2, Ne.symm e3, e3, Ne.symm e4, e4]) (by decide) ?_
                refine mj_aload_n dX2_worthBy_161 rfl rfl ?_
                refine mj_callVi (as := []) (st := []) dX2_worthBy_162 cal_X2_pop lk_X2_87 im_X2_pop se_X2_pop (ci := 2) rfl (by decide) hk_a0 h rfl (Nat.le_of_ble_eq_true rfl) (by decide) ⟨Nat.le_of_ble_eq_true rfl, Nat.le_of_ble_eq_true rfl⟩ (fun S17 r18 h hn_r18 hp => ?_)
                have hk_a0 : m_kd S17 a0 = 2 := m_kd_pre hp hk_a0 (by decide)
                have hk_a1 : m_kd S17 a1 = 100 := m_kd_pre hp hk_a1 (by decide)
                refine mj_istore dX2_worthBy_165 (by decide) rfl rfl ?_
                refine mj_aload_n dX2_worthBy_167 rfl rfl ?_
                refine mj_iload dX2_worthBy_168 rfl ?_
                refine mj_aload_n dX2_worthBy_170 rfl rfl ?_
                refine mj_callVi (as := []) (st := [.int v1, .ref a0]) dX2_worthBy_171 cal_X2_pop lk_X2_87 im_X2_pop se_X2_pop (ci := 2) rfl (by decide) hk_a0 h rfl (Nat.le_of_ble_eq_true rfl) (by decide) ⟨Nat.le_of_ble_eq_true rfl, Nat.le_of_ble_eq_true rfl⟩ (fun S19 r20 h hn_r20 hp => ?_)
                have hk_a0 : m_kd S19 a0 = 2 := m_kd_pre hp hk_a0 (by decide)
                have hk_a1 : m_kd S19 a1 = 100 := m_kd_pre hp hk_a1 (by decide)
                refine mj_iload dX2_worthBy_174 rfl ?_
                refine mj_callSi (as := [.int v1, .int r20, .int r18]) (st := [.ref a0]) dX2_worthBy_176 cal_X2_put lk_X2_91 sm_X2_put h rfl (Nat.le_of_ble_eq_true rfl) (by decide) ⟨Nat.le_of_ble_eq_true rfl, Nat.le_of_ble_eq_true rfl⟩ (fun S21 r22 h hn_r22 hp => ?_)
                have hk_a0 : m_kd S21 a0 = 2 := m_kd_pre hp hk_a0 (by decide)
                have hk_a1 : m_kd S21 a1 = 100 := m_kd_pre hp hk_a1 (by decide)
                refine mj_callVv (as := [.int r22]) (st := []) dX2_worthBy_179 cal_X2_push lk_X2_83 im_X2_push se_X2_push (ci := 2) rfl (by decide) hk_a0 h rfl (Nat.le_of_ble_eq_true rfl) (by decide) ⟨Nat.le_of_ble_eq_true rfl, Nat.le_of_ble_eq_true rfl⟩ (fun S23 h hp => ?_)
                have hk_a0 : m_kd S23 a0 = 2 := m_kd_pre hp hk_a0 (by decide)
                have hk_a1 : m_kd S23 a1 = 100 := m_kd_pre hp hk_a1 (by decide)
                obtain ⟨v24, ev24⟩ : ∃ z : Int32, z = x4 + (1 : Int32) := ⟨_, rfl⟩
                refine mj_iinc (v := v24) dX2_worthBy_182 rfl (by rw [ev24]; rfl) (by decide) rfl rfl ?_
                replace h := h v24 ev24
                refine mj_goto (tgt := 10) dX2_worthBy_185 (by decide) ?_
                exact mj_lessm [true, true, true, true, true, false, false, false] rfl h
set_option maxRecDepth 20000 in
set_option maxHeartbeats 1000000 in
theorem b_X2_worthBy_120 {l : Launch} {G : mj_G} {a0 : Nat} {a1 : Nat} {x2 : Int32} {x3 : Int32} {x4 : Int32} {c0 : Nat} {s1 : Int32} {S : mj_S} {Q : mj_S → Int32 → Prop} (hk_a0 : m_kd S a0 = 2) (hk_a1 : m_kd S a1 = 100) (hk_c0 : m_kd S c0 = 2) (h : M_X2_push l G c0 s1 S (fun S1 => ∀ v2 : Int32, v2 = x4 + (1 : Int32) → V_X2_worthBy_10 l G a0 a1 x2 x3 v2 S1 Q)) : V_X2_worthBy_120 l G a0 a1 x2 x3 x4 c0 s1 S Q := by
  refine mj_callVv (as := [.int s1]) (st := []) dX2_worthBy_120 cal_X2_push lk_X2_83 im_X2_push se_X2_push (ci := 2) rfl (by decide) hk_c0 h rfl (Nat.le_of_ble_eq_true rfl) (by decide) ⟨Nat.le_of_ble_eq_true rfl, Nat.le_of_ble_eq_true rfl⟩ (fun S1 h hp => ?_)
  have hk_a0 : m_kd S1 a0 = 2 := m_kd_pre hp hk_a0 (by decide)
  have hk_a1 : m_kd S1 a1 = 100 := m_kd_pre hp hk_a1 (by decide)
  have hk_c0 : m_kd S1 c0 = 2 := m_kd_pre hp hk_c0 (by decide)
  refine mj_goto (tgt := 182) dX2_worthBy_123 (by decide) ?_
  obtain ⟨v2, ev2⟩ : ∃ z : Int32, z = x4 + (1 : Int32) := ⟨_, rfl⟩
  refine mj_iinc (v := v2) dX2_worthBy_182 rfl (by rw [ev2]; rfl) (by decide) rfl rfl ?_
  replace h := h v2 ev2
  refine mj_goto (tgt := 10) dX2_worthBy_185 (by decide) ?_
  exact h
abbrev V_X2_put_0 (l : Launch) (G : mj_G) (x0 : Int32) (x1 : Int32) (x2 : Int32) (S : mj_S) (Q : mj_S → Int32 → Prop) : Prop := mj_V l G (mj_room 2 0 0) RX2 cX2_put 3 (some .int) false 0 [some (.int x0), some (.int x1), some (.int x2)] [] S 0 0 (mj_std G (some .int) (mj_room 2 0 0) (mj_qi Q))
theorem e_X2_put {l : Launch} {G : mj_G} {x0 : Int32} {x1 : Int32} {x2 : Int32} {S : mj_S} {Q : mj_S → Int32 → Prop} (h : V_X2_put_0 l G x0 x1 x2 S Q) : M_X2_put l G x0 x1 x2 S Q := mj_enter (r := 0) (ini := false) (by decide +kernel) (fun h => by cases h) (fun _ => Nat.le_of_ble_eq_true rfl) rfl h
set_option maxRecDepth 20000 in
set_option maxHeartbeats 1000000 in
theorem b_X2_put_0 {l : Launch} {G : mj_G} {x0 : Int32} {x1 : Int32} {x2 : Int32} {S : mj_S} {Q : mj_S → Int32 → Prop} (h : (x0.toInt = 38 → Q S (x1 &&& x2)) ∧ (x0.toInt = 42 → M_X2_held l G ((x1).toInt64 * (x2).toInt64) S (fun S1 r2 => Q S1 r2)) ∧ (x0.toInt = 43 → M_X2_held l G ((x1).toInt64 + (x2).toInt64) S (fun S3 r4 => Q S3 r4)) ∧ (x0.toInt = 45 → M_X2_held l G ((x1).toInt64 - (x2).toInt64) S (fun S5 r6 => Q S5 r6)) ∧ (x0.toInt = 60 → ((x2 ≤ x1) → Q S (0 : Int32)) ∧ ((¬ (x2 ≤ x1)) → Q S (1 : Int32))) ∧ (x0.toInt = 61 → ((¬ x1 = x2) → Q S (0 : Int32)) ∧ ((x1 = x2) → Q S (1 : Int32))) ∧ (x0.toInt = 62 → ((x1 ≤ x2) → Q S (0 : Int32)) ∧ ((¬ (x1 ≤ x2)) → Q S (1 : Int32))) ∧ (x0.toInt = 124 → Q S (x1 ||| x2)) ∧ (¬ x0.toInt = 38 ∧ ¬ x0.toInt = 42 ∧ ¬ x0.toInt = 43 ∧ ¬ x0.toInt = 45 ∧ ¬ x0.toInt = 60 ∧ ¬ x0.toInt = 61 ∧ ¬ x0.toInt = 62 ∧ ¬ x0.toInt = 124 → ((¬ x2 = 0) → ¬ x2 = 0 ∧ (M_X2_held l G (((x1 / x2)).toInt64) S (fun S7 r8 => Q S7 r8))) ∧ ((x2 = 0) → Q S (0 : Int32)))) : V_X2_put_0 l G x0 x1 x2 S Q := by
  refine mj_iload_n dX2_put_0 rfl rfl ?_
  by_cases e0 : x0.toInt = 38
  · replace h := h.1 e0
    refine mj_look (tgt := 80) (off := 79) dX2_put_1 (by decide) (by rw [e0]; rfl) (by decide) ?_
    refine mj_iload_n dX2_put_80 rfl rfl ?_
    refine mj_iload_n dX2_put_81 rfl rfl ?_
    refine mj_iand dX2_put_82 ?_
    exact mj_reti dX2_put_83 rfl ⟨Nat.le_of_ble_eq_true rfl, Nat.le_of_ble_eq_true rfl⟩ h
  · skip
    by_cases e1 : x0.toInt = 42
    · replace h := h.2.1 e1
      refine mj_look (tgt := 135) (off := 134) dX2_put_1 (by decide) (by rw [e1]; rfl) (by decide) ?_
      refine mj_iload_n dX2_put_135 rfl rfl ?_
      refine mj_i2l dX2_put_136 ?_
      refine mj_iload_n dX2_put_137 rfl rfl ?_
      refine mj_i2l dX2_put_138 ?_
      refine mj_lmul dX2_put_139 ?_
      refine mj_callSi (as := [.long ((x1).toInt64 * (x2).toInt64)]) (st := []) dX2_put_140 cal_X2_held lk_X2_95 sm_X2_held h rfl (Nat.le_of_ble_eq_true rfl) (by decide) ⟨Nat.le_of_ble_eq_true rfl, Nat.le_of_ble_eq_true rfl⟩ (fun S1 r2 h hn_r2 hp => ?_)
      exact mj_reti dX2_put_143 rfl ⟨Nat.le_of_ble_eq_true rfl, Nat.le_of_ble_eq_true rfl⟩ h
    · skip
      by_cases e2 : x0.toInt = 43
      · replace h := h.2.2.1 e2
        refine mj_look (tgt := 117) (off := 116) dX2_put_1 (by decide) (by rw [e2]; rfl) (by decide) ?_
        refine mj_iload_n dX2_put_117 rfl rfl ?_
        refine mj_i2l dX2_put_118 ?_
        refine mj_iload_n dX2_put_119 rfl rfl ?_
        refine mj_i2l dX2_put_120 ?_
        refine mj_ladd dX2_put_121 ?_
        refine mj_callSi (as := [.long ((x1).toInt64 + (x2).toInt64)]) (st := []) dX2_put_122 cal_X2_held lk_X2_95 sm_X2_held h rfl (Nat.le_of_ble_eq_true rfl) (by decide) ⟨Nat.le_of_ble_eq_true rfl, Nat.le_of_ble_eq_true rfl⟩ (fun S3 r4 h hn_r4 hp => ?_)
        exact mj_reti dX2_put_125 rfl ⟨Nat.le_of_ble_eq_true rfl, Nat.le_of_ble_eq_true rfl⟩ h
      · skip
        by_cases e3 : x0.toInt = 45
        · replace h := h.2.2.2.1 e3
          refine mj_look (tgt := 126) (off := 125) dX2_put_1 (by decide) (by rw [e3]; rfl) (by decide) ?_
          refine mj_iload_n dX2_put_126 rfl rfl ?_
          refine mj_i2l dX2_put_127 ?_
          refine mj_iload_n dX2_put_128 rfl rfl ?_
          refine mj_i2l dX2_put_129 ?_
          refine mj_lsub dX2_put_130 ?_
          refine mj_callSi (as := [.long ((x1).toInt64 - (x2).toInt64)]) (st := []) dX2_put_131 cal_X2_held lk_X2_95 sm_X2_held h rfl (Nat.le_of_ble_eq_true rfl) (by decide) ⟨Nat.le_of_ble_eq_true rfl, Nat.le_of_ble_eq_true rfl⟩ (fun S5 r6 h hn_r6 hp => ?_)
          exact mj_reti dX2_put_134 rfl ⟨Nat.le_of_ble_eq_true rfl, Nat.le_of_ble_eq_true rfl⟩ h
        · skip
          by_cases e4 : x0.toInt = 60
          · replace h := h.2.2.2.2.1 e4
            refine mj_look (tgt := 95) (off := 94) dX2_put_1 (by decide) (by rw [e4]; rfl) (by decide) ?_
            refine mj_iload_n dX2_put_95 rfl rfl ?_
            refine mj_iload_n dX2_put_96 rfl rfl ?_
            refine mj_icmp_ge (tgt := 104) dX2_put_97 (by decide) ⟨fun hc => ?_, fun hc => ?_⟩
            · replace h := h.1 hc
              refine mj_iconst (v := 0) dX2_put_104 (by decide) ?_
              exact mj_reti dX2_put_105 rfl ⟨Nat.le_of_ble_eq_true rfl, Nat.le_of_ble_eq_true rfl⟩ h
            · replace h := h.2 hc
              refine mj_iconst (v := 1) dX2_put_100 (by decide) ?_
              refine mj_goto (tgt := 105) dX2_put_101 (by decide) ?_
              exact mj_reti dX2_put_105 rfl ⟨Nat.le_of_ble_eq_true rfl, Nat.le_of_ble_eq_true rfl⟩ h
          · skip
            by_cases e5 : x0.toInt = 61
            · replace h := h.2.2.2.2.2.1 e5
              refine mj_look (tgt := 84) (off := 83) dX2_put_1 (by decide) (by rw [e5]; rfl) (by decide) ?_
              refine mj_iload_n dX2_put_84 rfl rfl ?_
              refine mj_iload_n dX2_put_85 rfl rfl ?_
              refine mj_icmp_ne (tgt := 93) dX2_put_86 (by decide) ⟨fun hc => ?_, fun hc => ?_⟩
              · replace h := h.1 hc
                refine mj_iconst (v := 0) dX2_put_93 (by decide) ?_
                exact mj_reti dX2_put_94 rfl ⟨Nat.le_of_ble_eq_true rfl, Nat.le_of_ble_eq_true rfl⟩ h
              · replace h := h.2 hc
                refine mj_iconst (v := 1) dX2_put_89 (by decide) ?_
                refine mj_goto (tgt := 94) dX2_put_90 (by decide) ?_
                exact mj_reti dX2_put_94 rfl ⟨Nat.le_of_ble_eq_true rfl, Nat.le_of_ble_eq_true rfl⟩ h
            · skip
              by_cases e6 : x0.toInt = 62
              · replace h := h.2.2.2.2.2.2.1 e6
                refine mj_look (tgt := 106) (off := 105) dX2_put_1 (by decide) (by rw [e6]; rfl) (by decide) ?_
                refine mj_iload_n dX2_put_106 rfl rfl ?_
                refine mj_iload_n dX2_put_107 rfl rfl ?_
                refine mj_icmp_le (tgt := 115) dX2_put_108 (by decide) ⟨fun hc => ?_, fun hc => ?_⟩
                · replace h := h.1 hc
                  refine mj_iconst (v := 0) dX2_put_115 (by decide) ?_
                  exact mj_reti dX2_put_116 rfl ⟨Nat.le_of_ble_eq_true rfl, Nat.le_of_ble_eq_true rfl⟩ h
                · replace h := h.2 hc
                  refine mj_iconst (v := 1) dX2_put_111 (by decide) ?_
                  refine mj_goto (tgt := 116) dX2_put_112 (by decide) ?_
                  exact mj_reti dX2_put_116 rfl ⟨Nat.le_of_ble_eq_true rfl, Nat.le_of_ble_eq_true rfl⟩ h
              · skip
                by_cases e7 : x0.toInt = 124
                · replace h := h.2.2.2.2.2.2.2.1 e7
                  refine mj_look (tgt := 76) (off := 75) dX2_put_1 (by decide) (by rw [e7]; rfl) (by decide) ?_
                  refine mj_iload_n dX2_put_76 rfl rfl ?_
                  refine mj_iload_n dX2_put_77 rfl rfl ?_
                  refine mj_ior dX2_put_78 ?_
                  exact mj_reti dX2_put_79 rfl ⟨Nat.le_of_ble_eq_true rfl, Nat.le_of_ble_eq_true rfl⟩ h
                · skip
                  replace h := h.2.2.2.2.2.2.2.2 ⟨e0, e1, e2, e3, e4, e5, e6, e7⟩
                  refine mj_look (tgt := 144) (off := 143) dX2_put_1 (by decide) (by simp [Op.lookupswitch.offset_cons, Op.lookupswitch.offset, Ne.symm e0, e0, Ne.symm e1, e1, Ne.symm e2, e2, Ne.symm e3, e3, Ne.symm e4, e4, Ne.symm e5, e5, Ne.symm e6, e6, Ne.symm e7, e7]) (by decide) ?_
                  refine mj_iload_n dX2_put_144 rfl rfl ?_
                  refine mj_if_ne (tgt := 152) dX2_put_145 (by decide) ⟨fun hc => ?_, fun hc => ?_⟩
                  · replace h := h.1 hc
                    refine mj_iload_n dX2_put_152 rfl rfl ?_
                    refine mj_iload_n dX2_put_153 rfl rfl ?_
                    refine mj_idiv dX2_put_154 h.1 ?_
                    replace h := h.2
                    refine mj_i2l dX2_put_155 ?_
                    refine mj_callSi (as := [.long (((x1 / x2)).toInt64)]) (st := []) dX2_put_156 cal_X2_held lk_X2_95 sm_X2_held h rfl (Nat.le_of_ble_eq_true rfl) (by decide) ⟨Nat.le_of_ble_eq_true rfl, Nat.le_of_ble_eq_true rfl⟩ (fun S7 r8 h hn_r8 hp => ?_)
                    exact mj_reti dX2_put_159 rfl ⟨Nat.le_of_ble_eq_true rfl, Nat.le_of_ble_eq_true rfl⟩ h
                  · replace h := h.2 hc
                    refine mj_iconst (v := 0) dX2_put_148 (by decide) ?_
                    refine mj_goto (tgt := 159) dX2_put_149 (by decide) ?_
                    exact mj_reti dX2_put_159 rfl ⟨Nat.le_of_ble_eq_true rfl, Nat.le_of_ble_eq_true rfl⟩ h
abbrev V_X2_held_0 (l : Launch) (G : mj_G) (y0 : Int64) (S : mj_S) (Q : mj_S → Int32 → Prop) : Prop := mj_V l G (mj_room 1 0 0) RX2 cX2_held 2 (some .int) false 0 [some (.long y0), none] [] S 0 0 (mj_std G (some .int) (mj_room 1 0 0) (mj_qi Q))
theorem e_X2_held {l : Launch} {G : mj_G} {y0 : Int64} {S : mj_S} {Q : mj_S → Int32 → Prop} (h : V_X2_held_0 l G y0 S Q) : M_X2_held l G y0 S Q := mj_enter (r := 0) (ini := false) (by decide +kernel) (fun h => by cases h) (fun _ => Nat.le_of_ble_eq_true rfl) rfl h
set_option maxRecDepth 20000 in
set_option maxHeartbeats 1000000 in
theorem b_X2_held_0 {l : Launch} {G : mj_G} {y0 : Int64} {S : mj_S} {Q : mj_S → Int32 → Prop} (h : (((lg_cmp y0 (1000000 : Int64)) ≤ 0) → ((0 ≤ (lg_cmp y0 (-1000000 : Int64))) → Q S ((y0).toInt32)) ∧ ((¬ (0 ≤ (lg_cmp y0 (-1000000 : Int64)))) → Q S (-1000000 : Int32))) ∧ ((¬ ((lg_cmp y0 (1000000 : Int64)) ≤ 0)) → Q S (1000000 : Int32))) : V_X2_held_0 l G y0 S Q := by
  refine mj_lload_n dX2_held_0 rfl rfl ?_
  refine mj_ldc2 dX2_held_1 cl_X2_99 ?_
  refine mj_lcmp dX2_held_4 ?_
  refine mj_if_le (tgt := 11) dX2_held_5 (by decide) ⟨fun hc => ?_, fun hc => ?_⟩
  · replace h := h.1 hc
    refine mj_lload_n dX2_held_11 rfl rfl ?_
    refine mj_ldc2 dX2_held_12 cl_X2_102 ?_
    refine mj_lcmp dX2_held_15 ?_
    refine mj_if_ge (tgt := 24) dX2_held_16 (by decide) ⟨fun hc => ?_, fun hc => ?_⟩
    · replace h := h.1 hc
      refine mj_lload_n dX2_held_24 rfl rfl ?_
      refine mj_l2i dX2_held_25 ?_
      exact mj_reti dX2_held_26 rfl ⟨Nat.le_of_ble_eq_true rfl, Nat.le_of_ble_eq_true rfl⟩ h
    · replace h := h.2 hc
      refine mj_ldc dX2_held_19 co_X2_104 ?_
      refine mj_goto (tgt := 26) dX2_held_21 (by decide) ?_
      exact mj_reti dX2_held_26 rfl ⟨Nat.le_of_ble_eq_true rfl, Nat.le_of_ble_eq_true rfl⟩ h
  · replace h := h.2 hc
    refine mj_ldc dX2_held_8 co_X2_101 ?_
    exact mj_reti dX2_held_10 rfl ⟨Nat.le_of_ble_eq_true rfl, Nat.le_of_ble_eq_true rfl⟩ h
abbrev V_X2_push_0 (l : Launch) (G : mj_G) (a0 : Nat) (x1 : Int32) (S : mj_S) (Q : mj_S → Prop) : Prop := mj_V l G (mj_room 1 0 0) RX2 cX2_push 2 none false 0 [some (.ref a0), some (.int x1)] [] S 0 0 (mj_std G none (mj_room 1 0 0) (mj_qv Q))
theorem e_X2_push {l : Launch} {G : mj_G} {a0 : Nat} {x1 : Int32} {S : mj_S} {Q : mj_S → Prop} (h : V_X2_push_0 l G a0 x1 S Q) : M_X2_push l G a0 x1 S Q := mj_enter (r := 0) (ini := false) (by decide +kernel) (fun h => by cases h) (fun _ => Nat.le_of_ble_eq_true rfl) rfl h
set_option maxRecDepth 20000 in
set_option maxHeartbeats 1000000 in
theorem b_X2_push_0 {l : Launch} {G : mj_G} {a0 : Nat} {x1 : Int32} {S : mj_S} {Q : mj_S → Prop} (hk_a0 : m_kd S a0 = 2) (h : (((32 : Int32) ≤ (m_gi S a0 6)) → Q S) ∧ ((¬ ((32 : Int32) ≤ (m_gi S a0 6))) → ∃ b1, m_gp S a0 5 = some b1 ∧ (vp_in (m_gi S a0 6) (m_ln S b1) ∧ (∀ S2 : mj_S, S2 = m_si S b1 ((m_gi S a0 6)).toNatClampNeg x1 → ∀ S3 : mj_S, S3 = m_si S2 a0 6 ((m_gi S2 a0 6) + (1 : Int32)) → Q S3)))) : V_X2_push_0 l G a0 x1 S Q := by
  refine mj_aload_n dX2_push_0 rfl rfl ?_
  refine mj_getI dX2_push_1 fl_X2_33_2 hk_a0 rfl ?_
  refine mj_bipush (v := 32) dX2_push_4 (by decide) ?_
  refine mj_icmp_ge (tgt := 29) dX2_push_6 (by decide) ⟨fun hc => ?_, fun hc => ?_⟩
  · replace h := h.1 hc
    exact mj_retv dX2_push_29 rfl ⟨Nat.le_of_ble_eq_true rfl, Nat.le_of_ble_eq_true rfl⟩ h
  · replace h := h.2 hc
    refine mj_aload_n dX2_push_9 rfl rfl ?_
    obtain ⟨b1, eb1, h⟩ := h
    refine mj_getP dX2_push_10 fl_X2_30_2 hk_a0 rfl ⟨b1, eb1, fun hk_b1 => ?_⟩
    refine mj_aload_n dX2_push_13 rfl rfl ?_
    refine mj_getI dX2_push_14 fl_X2_33_2 hk_a0 rfl ?_
    refine mj_iload_n dX2_push_17 rfl rfl ?_
    refine mj_iast dX2_push_18 hk_b1 ⟨h.1, ?_⟩
    replace h := h.2
    obtain ⟨S2, eS2⟩ : ∃ z, z = m_si S b1 ((m_gi S a0 6)).toNatClampNeg x1 := ⟨_, rfl⟩
    rw [← eS2]
    replace h := h S2 eS2
    have hk_a0 : m_kd S2 a0 = 2 := by rw [eS2]; exact hk_a0
    have hk_b1 : m_kd S2 b1 = 100 := by rw [eS2]; exact hk_b1
    refine mj_aload_n dX2_push_19 rfl rfl ?_
    refine mj_dup dX2_push_20 rfl ?_
    refine mj_getI dX2_push_21 fl_X2_33_2 hk_a0 rfl ?_
    refine mj_iconst (v := 1) dX2_push_24 (by decide) ?_
    refine mj_iadd dX2_push_25 ?_
    refine mj_putI dX2_push_26 fl_X2_33_2 hk_a0 (Or.inl rfl) rfl rfl rfl ?_
    obtain ⟨S3, eS3⟩ : ∃ z, z = m_si S2 a0 6 ((m_gi S2 a0 6) + (1 : Int32)) := ⟨_, rfl⟩
    rw [← eS3]
    replace h := h S3 eS3
    have hk_a0 : m_kd S3 a0 = 2 := by rw [eS3]; exact hk_a0
    have hk_b1 : m_kd S3 b1 = 100 := by rw [eS3]; exact hk_b1
    exact mj_retv dX2_push_29 rfl ⟨Nat.le_of_ble_eq_true rfl, Nat.le_of_ble_eq_true rfl⟩ h
abbrev V_X2_pop_0 (l : Launch) (G : mj_G) (a0 : Nat) (S : mj_S) (Q : mj_S → Int32 → Prop) : Prop := mj_V l G (mj_room 1 0 0) RX2 cX2_pop 1 (some .int) false 0 [some (.ref a0)] [] S 0 0 (mj_std G (some .int) (mj_room 1 0 0) (mj_qi Q))
theorem e_X2_pop {l : Launch} {G : mj_G} {a0 : Nat} {S : mj_S} {Q : mj_S → Int32 → Prop} (h : V_X2_pop_0 l G a0 S Q) : M_X2_pop l G a0 S Q := mj_enter (r := 0) (ini := false) (by decide +kernel) (fun h => by cases h) (fun _ => Nat.le_of_ble_eq_true rfl) rfl h
set_option maxRecDepth 20000 in
set_option maxHeartbeats 1000000 in
theorem b_X2_pop_0 {l : Launch} {G : mj_G} {a0 : Nat} {S : mj_S} {Q : mj_S → Int32 → Prop} (hk_a0 : m_kd S a0 = 2) (h : ((¬ (m_gi S a0 6) = 0) → ∀ S1 : mj_S, S1 = m_si S a0 6 ((m_gi S a0 6) - (1 : Int32)) → ∃ b2, m_gp S1 a0 5 = some b2 ∧ (vp_in (m_gi S1 a0 6) (m_ln S1 b2) ∧ (Q S1 (m_gi S1 b2 ((m_gi S1 a0 6)).toNatClampNeg)))) ∧ (((m_gi S a0 6) = 0) → Q S (0 : Int32))) : V_X2_pop_0 l G a0 S Q := by
  refine mj_aload_n dX2_pop_0 rfl rfl ?_
  refine mj_getI dX2_pop_1 fl_X2_33_2 hk_a0 rfl ?_
  refine mj_if_ne (tgt := 9) dX2_pop_4 (by decide) ⟨fun hc => ?_, fun hc => ?_⟩
  · replace h := h.1 hc
    refine mj_aload_n dX2_pop_9 rfl rfl ?_
    refine mj_dup dX2_pop_10 rfl ?_
    refine mj_getI dX2_pop_11 fl_X2_33_2 hk_a0 rfl ?_
    refine mj_iconst (v := 1) dX2_pop_14 (by decide) ?_
    refine mj_isub dX2_pop_15 ?_
    refine mj_putI dX2_pop_16 fl_X2_33_2 hk_a0 (Or.inl rfl) rfl rfl rfl ?_
    obtain ⟨S1, eS1⟩ : ∃ z, z = m_si S a0 6 ((m_gi S a0 6) - (1 : Int32)) := ⟨_, rfl⟩
    rw [← eS1]
    replace h := h S1 eS1
    have hk_a0 : m_kd S1 a0 = 2 := by rw [eS1]; exact hk_a0
    refine mj_aload_n dX2_pop_19 rfl rfl ?_
    obtain ⟨b2, eb2, h⟩ := h
    refine mj_getP dX2_pop_20 fl_X2_30_2 hk_a0 rfl ⟨b2, eb2, fun hk_b2 => ?_⟩
    refine mj_aload_n dX2_pop_23 rfl rfl ?_
    refine mj_getI dX2_pop_24 fl_X2_33_2 hk_a0 rfl ?_
    refine mj_iald dX2_pop_27 (Or.inl hk_b2) ⟨h.1, ?_⟩
    replace h := h.2
    exact mj_reti dX2_pop_28 rfl ⟨Nat.le_of_ble_eq_true rfl, Nat.le_of_ble_eq_true rfl⟩ h
  · replace h := h.2 hc
    refine mj_iconst (v := 0) dX2_pop_7 (by decide) ?_
    exact mj_reti dX2_pop_8 rfl ⟨Nat.le_of_ble_eq_true rfl, Nat.le_of_ble_eq_true rfl⟩ h
