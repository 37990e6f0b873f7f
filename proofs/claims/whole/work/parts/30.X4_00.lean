abbrev V_X4_init_0 (l : Launch) (G : mj_G) (a0 : Nat) (S : mj_S) (Q : mj_S → Prop) : Prop := mj_V l G (mj_room 1 4 1338) RX4 cX4_init 1 none true 0 [some (.ref a0)] [] S 0 0 (mj_std G none (mj_room 1 4 1338) (mj_qv Q))
theorem e_X4_init {l : Launch} {G : mj_G} {a0 : Nat} {S : mj_S} {Q : mj_S → Prop} (h : V_X4_init_0 l G a0 S Q) : M_X4_init l G a0 S Q := mj_enter (r := 0) (ini := true) (by decide +kernel) (fun _ => rfl) (fun _ => Nat.le_of_ble_eq_true rfl) rfl h
set_option maxRecDepth 20000 in
set_option maxHeartbeats 1000000 in
theorem b_X4_init_0 {l : Launch} {G : mj_G} {a0 : Nat} {S : mj_S} {Q : mj_S → Prop} (hk_a0 : m_kd S a0 = 4) (h : ∀ S1 : mj_S, S1 = m_si S a0 0 (0 : Int32) → ∀ S2 : mj_S, S2 = m_si S1 a0 1 (0 : Int32) → ∀ q3 : Nat, q3 = S2.1.length → ∀ S4 : mj_S, S4 = m_nw S2 100 720 → ∀ S5 : mj_S, S5 = m_sp S4 a0 2 (some q3) → ∀ q6 : Nat, q6 = S5.1.length → ∀ S7 : mj_S, S7 = m_nw S5 100 300 → ∀ S8 : mj_S, S8 = m_sp S7 a0 3 (some q6) → ∀ S9 : mj_S, S9 = m_si S8 a0 4 (0 : Int32) → ∀ q10 : Nat, q10 = S9.1.length → ∀ S11 : mj_S, S11 = m_nw S9 100 18 → ∀ S12 : mj_S, S12 = m_sp S11 a0 5 (some q10) → ∀ q13 : Nat, q13 = S12.1.length → ∀ S14 : mj_S, S14 = m_nw S12 100 300 → ∀ S15 : mj_S, S15 = m_sp S14 a0 6 (some q13) → Q S15) : V_X4_init_0 l G a0 S Q := by
  refine mj_aload_n dX4_init_0 rfl rfl ?_
  refine mj_objInit (st := []) dX4_init_1 oi_X4_3 oi_im oi_co (by decide) (Nat.le_of_ble_eq_true rfl) ?_
  refine mj_aload_n dX4_init_4 rfl rfl ?_
  refine mj_iconst (v := 0) dX4_init_5 (by decide) ?_
  refine mj_putI dX4_init_6 fl_X4_9_4 hk_a0 (Or.inl rfl) rfl rfl rfl ?_
  obtain ⟨S1, eS1⟩ : ∃ z, z = m_si S a0 0 (0 : Int32) := ⟨_, rfl⟩
  rw [← eS1]
  replace h := h S1 eS1
  have hk_a0 : m_kd S1 a0 = 4 := by rw [eS1]; exact hk_a0
  refine mj_aload_n dX4_init_9 rfl rfl ?_
  refine mj_iconst (v := 0) dX4_init_10 (by decide) ?_
  refine mj_putI dX4_init_11 fl_X4_15_4 hk_a0 (Or.inl rfl) rfl rfl rfl ?_
  obtain ⟨S2, eS2⟩ : ∃ z, z = m_si S1 a0 1 (0 : Int32) := ⟨_, rfl⟩
  rw [← eS2]
  replace h := h S2 eS2
  have hk_a0 : m_kd S2 a0 = 4 := by rw [eS2]; exact hk_a0
  refine mj_aload_n dX4_init_14 rfl rfl ?_
  refine mj_sipush (v := 720) dX4_init_15 (by decide) ?_
  refine mj_newI (N := 720) dX4_init_18 ar_int (by decide) (by decide) (by decide) (Nat.le_of_ble_eq_true rfl) (Nat.le_of_ble_eq_true rfl) ?_
  obtain ⟨q3, eq3⟩ : ∃ z, z = S2.1.length := ⟨_, rfl⟩
  rw [← eq3]
  obtain ⟨S4, eS4⟩ : ∃ z, z = m_nw S2 100 720 := ⟨_, rfl⟩
  rw [← eS4]
  replace h := h q3 eq3 S4 eS4
  have hp : S2.1 <+: S4.1 := by rw [eS4]; exact List.prefix_append _ _
  have hk_q3 : m_kd S4 q3 = 100 := by rw [eS4, eq3]; exact m_kd_nwl
  have hk_a0 : m_kd S4 a0 = 4 := m_kd_pre hp hk_a0 (by decide)
  refine mj_putP dX4_init_20 fl_X4_18_4 hk_a0 (Or.inr ⟨rfl, rfl⟩) rfl hk_q3 (fun _ => rfl) (fun _ => rfl) ?_
  obtain ⟨S5, eS5⟩ : ∃ z, z = m_sp S4 a0 2 (some q3) := ⟨_, rfl⟩
  rw [← eS5]
  replace h := h S5 eS5
  have hk_a0 : m_kd S5 a0 = 4 := by rw [eS5]; exact hk_a0
  have hk_q3 : m_kd S5 q3 = 100 := by rw [eS5]; exact hk_q3
  refine mj_aload_n dX4_init_23 rfl rfl ?_
  refine mj_sipush (v := 300) dX4_init_24 (by decide) ?_
  refine mj_newI (N := 300) dX4_init_27 ar_int (by decide) (by decide) (by decide) (Nat.le_of_ble_eq_true rfl) (Nat.le_of_ble_eq_true rfl) ?_
  obtain ⟨q6, eq6⟩ : ∃ z, z = S5.1.length := ⟨_, rfl⟩
  rw [← eq6]
  obtain ⟨S7, eS7⟩ : ∃ z, z = m_nw S5 100 300 := ⟨_, rfl⟩
  rw [← eS7]
  replace h := h q6 eq6 S7 eS7
  have hp : S5.1 <+: S7.1 := by rw [eS7]; exact List.prefix_append _ _
  have hk_q6 : m_kd S7 q6 = 100 := by rw [eS7, eq6]; exact m_kd_nwl
  have hk_a0 : m_kd S7 a0 = 4 := m_kd_pre hp hk_a0 (by decide)
  have hk_q3 : m_kd S7 q3 = 100 := m_kd_pre hp hk_q3 (by decide)
  refine mj_putP dX4_init_29 fl_X4_22_4 hk_a0 (Or.inr ⟨rfl, rfl⟩) rfl hk_q6 (fun _ => rfl) (fun _ => rfl) ?_
  obtain ⟨S8, eS8⟩ : ∃ z, z = m_sp S7 a0 3 (some q6) := ⟨_, rfl⟩
  rw [← eS8]
  replace h := h S8 eS8
  have hk_a0 : m_kd S8 a0 = 4 := by rw [eS8]; exact hk_a0
  have hk_q3 : m_kd S8 q3 = 100 := by rw [eS8]; exact hk_q3
  have hk_q6 : m_kd S8 q6 = 100 := by rw [eS8]; exact hk_q6
  refine mj_aload_n dX4_init_32 rfl rfl ?_
  refine mj_iconst (v := 0) dX4_init_33 (by decide) ?_
  refine mj_putI dX4_init_34 fl_X4_25_4 hk_a0 (Or.inl rfl) rfl rfl rfl ?_
  obtain ⟨S9, eS9⟩ : ∃ z, z = m_si S8 a0 4 (0 : Int32) := ⟨_, rfl⟩
  rw [← eS9]
  replace h := h S9 eS9
  have hk_a0 : m_kd S9 a0 = 4 := by rw [eS9]; exact hk_a0
  have hk_q3 : m_kd S9 q3 = 100 := by rw [eS9]; exact hk_q3
  have hk_q6 : m_kd S9 q6 = 100 := by rw [eS9]; exact hk_q6
  refine mj_aload_n dX4_init_37 rfl rfl ?_
  refine mj_bipush (v := 18) dX4_init_38 (by decide) ?_
  refine mj_newI (N := 18) dX4_init_40 ar_int (by decide) (by decide) (by decide) (Nat.le_of_ble_eq_true rfl) (Nat.le_of_ble_eq_true rfl) ?_
  obtain ⟨q10, eq10⟩ : ∃ z, z = S9.1.length := ⟨_, rfl⟩
  rw [← eq10]
  obtain ⟨S11, eS11⟩ : ∃ z, z = m_nw S9 100 18 := ⟨_, rfl⟩
  rw [← eS11]
  replace h := h q10 eq10 S11 eS11
  have hp : S9.1 <+: S11.1 := by rw [eS11]; exact List.prefix_append _ _
  have hk_q10 : m_kd S11 q10 = 100 := by rw [eS11, eq10]; exact m_kd_nwl
  have hk_a0 : m_kd S11 a0 = 4 := m_kd_pre hp hk_a0 (by decide)
  have hk_q3 : m_kd S11 q3 = 100 := m_kd_pre hp hk_q3 (by decide)
  have hk_q6 : m_kd S11 q6 = 100 := m_kd_pre hp hk_q6 (by decide)
  refine mj_putP dX4_init_42 fl_X4_29_4 hk_a0 (Or.inr ⟨rfl, rfl⟩) rfl hk_q10 (fun _ => rfl) (fun _ => rfl) ?_
  obtain ⟨S12, eS12⟩ : ∃ z, z = m_sp S11 a0 5 (some q10) := ⟨_, rfl⟩
  rw [← eS12]
  replace h := h S12 eS12
  have hk_a0 : m_kd S12 a0 = 4 := by rw [eS12]; exact hk_a0
  have hk_q3 : m_kd S12 q3 = 100 := by rw [eS12]; exact hk_q3
  have hk_q6 : m_kd S12 q6 = 100 := by rw [eS12]; exact hk_q6
  have hk_q10 : m_kd S12 q10 = 100 := by rw [eS12]; exact hk_q10
  refine mj_aload_n dX4_init_45 rfl rfl ?_
  refine mj_sipush (v := 300) dX4_init_46 (by decide) ?_
  refine mj_newI (N := 300) dX4_init_49 ar_int (by decide) (by decide) (by decide) (Nat.le_of_ble_eq_true rfl) (Nat.le_of_ble_eq_true rfl) ?_
  obtain ⟨q13, eq13⟩ : ∃ z, z = S12.1.length := ⟨_, rfl⟩
  rw [← eq13]
  obtain ⟨S14, eS14⟩ : ∃ z, z = m_nw S12 100 300 := ⟨_, rfl⟩
  rw [← eS14]
  replace h := h q13 eq13 S14 eS14
  have hp : S12.1 <+: S14.1 := by rw [eS14]; exact List.prefix_append _ _
  have hk_q13 : m_kd S14 q13 = 100 := by rw [eS14, eq13]; exact m_kd_nwl
  have hk_a0 : m_kd S14 a0 = 4 := m_kd_pre hp hk_a0 (by decide)
  have hk_q3 : m_kd S14 q3 = 100 := m_kd_pre hp hk_q3 (by decide)
  have hk_q6 : m_kd S14 q6 = 100 := m_kd_pre hp hk_q6 (by decide)
  have hk_q10 : m_kd S14 q10 = 100 := m_kd_pre hp hk_q10 (by decide)
  refine mj_putP dX4_init_51 fl_X4_32_4 hk_a0 (Or.inr ⟨rfl, rfl⟩) rfl hk_q13 (fun _ => rfl) (fun _ => rfl) ?_
  obtain ⟨S15, eS15⟩ : ∃ z, z = m_sp S14 a0 6 (some q13) := ⟨_, rfl⟩
  rw [← eS15]
  replace h := h S15 eS15
  have hk_a0 : m_kd S15 a0 = 4 := by rw [eS15]; exact hk_a0
  have hk_q3 : m_kd S15 q3 = 100 := by rw [eS15]; exact hk_q3
  have hk_q6 : m_kd S15 q6 = 100 := by rw [eS15]; exact hk_q6
  have hk_q10 : m_kd S15 q10 = 100 := by rw [eS15]; exact hk_q10
  have hk_q13 : m_kd S15 q13 = 100 := by rw [eS15]; exact hk_q13
  exact mj_retv dX4_init_54 rfl ⟨Nat.le_of_ble_eq_true rfl, Nat.le_of_ble_eq_true rfl⟩ h
abbrev V_X4_forget_0 (l : Launch) (G : mj_G) (a0 : Nat) (S : mj_S) (Q : mj_S → Prop) : Prop := mj_V l G (mj_room 1 0 0) RX4 cX4_forget 1 none false 0 [some (.ref a0)] [] S 0 0 (mj_std G none (mj_room 1 0 0) (mj_qv Q))
theorem e_X4_forget {l : Launch} {G : mj_G} {a0 : Nat} {S : mj_S} {Q : mj_S → Prop} (h : V_X4_forget_0 l G a0 S Q) : M_X4_forget l G a0 S Q := mj_enter (r := 0) (ini := false) (by decide +kernel) (fun h => by cases h) (fun _ => Nat.le_of_ble_eq_true rfl) rfl h
set_option maxRecDepth 20000 in
set_option maxHeartbeats 1000000 in
theorem b_X4_forget_0 {l : Launch} {G : mj_G} {a0 : Nat} {S : mj_S} {Q : mj_S → Prop} (hk_a0 : m_kd S a0 = 4) (h : ∀ S1 : mj_S, S1 = m_si S a0 0 (0 : Int32) → ∀ S2 : mj_S, S2 = m_si S1 a0 4 (0 : Int32) → Q S2) : V_X4_forget_0 l G a0 S Q := by
  refine mj_aload_n dX4_forget_0 rfl rfl ?_
  refine mj_iconst (v := 0) dX4_forget_1 (by decide) ?_
  refine mj_putI dX4_forget_2 fl_X4_9_4 hk_a0 (Or.inl rfl) rfl rfl rfl ?_
  obtain ⟨S1, eS1⟩ : ∃ z, z = m_si S a0 0 (0 : Int32) := ⟨_, rfl⟩
  rw [← eS1]
  replace h := h S1 eS1
  have hk_a0 : m_kd S1 a0 = 4 := by rw [eS1]; exact hk_a0
  refine mj_aload_n dX4_forget_5 rfl rfl ?_
  refine mj_iconst (v := 0) dX4_forget_6 (by decide) ?_
  refine mj_putI dX4_forget_7 fl_X4_25_4 hk_a0 (Or.inl rfl) rfl rfl rfl ?_
  obtain ⟨S2, eS2⟩ : ∃ z, z = m_si S1 a0 4 (0 : Int32) := ⟨_, rfl⟩
  rw [← eS2]
  replace h := h S2 eS2
  have hk_a0 : m_kd S2 a0 = 4 := by rw [eS2]; exact hk_a0
  exact mj_retv dX4_forget_10 rfl ⟨Nat.le_of_ble_eq_true rfl, Nat.le_of_ble_eq_true rfl⟩ h
abbrev V_X4_remember_0 (l : Launch) (G : mj_G) (a0 : Nat) (a1 : Nat) (S : mj_S) (Q : mj_S → Prop) : Prop := mj_V l G (mj_room 3 0 0) RX4 cX4_remember 2 none false 0 [some (.ref a0), some (.ref a1)] [] S 0 0 (mj_std G none (mj_room 3 0 0) (mj_qv Q))
abbrev V_X4_remember_37 (l : Launch) (G : mj_G) (a0 : Nat) (c0 : Nat) (s1 : Int32) (S : mj_S) (Q : mj_S → Prop) : Prop := mj_V l G (mj_room 3 0 0) RX4 cX4_remember 2 none false 37 [some (.ref a0), none] [.int s1, .ref c0] S 0 0 (mj_std G none (mj_room 3 0 0) (mj_qv Q))
theorem e_X4_remember {l : Launch} {G : mj_G} {a0 : Nat} {a1 : Nat} {S : mj_S} {Q : mj_S → Prop} (h : V_X4_remember_0 l G a0 a1 S Q) : M_X4_remember l G a0 a1 S Q := mj_enter (r := 0) (ini := false) (by decide +kernel) (fun h => by cases h) (fun _ => Nat.le_of_ble_eq_true rfl) rfl h
set_option maxRecDepth 20000 in
set_option maxHeartbeats 1000000 in
theorem b_X4_remember_0 {l : Launch} {G : mj_G} {a0 : Nat} {a1 : Nat} {S : mj_S} {Q : mj_S → Prop} (hk_a0 : m_kd S a0 = 4) (hk_a1 : m_kd S a1 = 7) (h : ∃ b1, m_gp S a0 2 = some b1 ∧ (M_X8_save l G a1 b1 ((m_gi S a0 1) * (18 : Int32)) S (fun S2 => (((40 : Int32) ≤ ((m_gi S2 a0 1) + (1 : Int32))) → V_X4_remember_37 l G a0 a0 (0 : Int32) S2 Q) ∧ ((¬ ((40 : Int32) ≤ ((m_gi S2 a0 1) + (1 : Int32)))) → V_X4_remember_37 l G a0 a0 ((m_gi S2 a0 1) + (1 : Int32)) S2 Q)))) : V_X4_remember_0 l G a0 a1 S Q := by
  refine mj_aload_n dX4_remember_0 rfl rfl ?_
  refine mj_aload_n dX4_remember_1 rfl rfl ?_
  obtain ⟨b1, eb1, h⟩ := h
  refine mj_getP dX4_remember_2 fl_X4_18_4 hk_a0 rfl ⟨b1, eb1, fun hk_b1 => ?_⟩
  refine mj_aload_n dX4_remember_5 rfl rfl ?_
  refine mj_getI dX4_remember_6 fl_X4_15_4 hk_a0 rfl ?_
  refine mj_bipush (v := 18) dX4_remember_9 (by decide) ?_
  refine mj_imul dX4_remember_11 ?_
  refine mj_callVv (as := [.ref b1, .int ((m_gi S a0 1) * (18 : Int32))]) (st := []) dX4_remember_12 cal_X8_save lk_X4_35 im_X8_save se_X8_save (ci := 7) rfl (by decide) hk_a1 h rfl (Nat.le_of_ble_eq_true rfl) (by decide) ⟨Nat.le_of_ble_eq_true rfl, Nat.le_of_ble_eq_true rfl⟩ (fun S2 h hp => ?_)
  have hk_a0 : m_kd S2 a0 = 4 := m_kd_pre hp hk_a0 (by decide)
  have hk_a1 : m_kd S2 a1 = 7 := m_kd_pre hp hk_a1 (by decide)
  have hk_b1 : m_kd S2 b1 = 100 := m_kd_pre hp hk_b1 (by decide)
  refine mj_aload_n dX4_remember_15 rfl rfl ?_
  refine mj_aload_n dX4_remember_16 rfl rfl ?_
  refine mj_getI dX4_remember_17 fl_X4_15_4 hk_a0 rfl ?_
  refine mj_iconst (v := 1) dX4_remember_20 (by decide) ?_
  refine mj_iadd dX4_remember_21 ?_
  refine mj_bipush (v := 40) dX4_remember_22 (by decide) ?_
  refine mj_icmp_ge (tgt := 36) dX4_remember_24 (by decide) ⟨fun hc => ?_, fun hc => ?_⟩
  · replace h := h.1 hc
    refine mj_iconst (v := 0) dX4_remember_36 (by decide) ?_
    exact mj_lessm [true, false] rfl h
  · replace h := h.2 hc
    refine mj_aload_n dX4_remember_27 rfl rfl ?_
    refine mj_getI dX4_remember_28 fl_X4_15_4 hk_a0 rfl ?_
    refine mj_iconst (v := 1) dX4_remember_31 (by decide) ?_
    refine mj_iadd dX4_remember_32 ?_
    refine mj_goto (tgt := 37) dX4_remember_33 (by decide) ?_
    exact mj_lessm [true, false] rfl h
set_option maxRecDepth 20000 in
set_option maxHeartbeats 1000000 in
theorem b_X4_remember_37 {l : Launch} {G : mj_G} {a0 : Nat} {c0 : Nat} {s1 : Int32} {S : mj_S} {Q : mj_S → Prop} (hk_a0 : m_kd S a0 = 4) (hk_c0 : m_kd S c0 = 4) (h : ∀ S1 : mj_S, S1 = m_si S c0 1 s1 → M_J9_min_7cf53 l G (40 : Int32) ((m_gi S1 a0 0) + (1 : Int32)) S1 (fun S2 r3 => ∀ S4 : mj_S, S4 = m_si S2 a0 0 r3 → Q S4)) : V_X4_remember_37 l G a0 c0 s1 S Q := by
  refine mj_putI dX4_remember_37 fl_X4_15_4 hk_c0 (Or.inl rfl) rfl rfl rfl ?_
  obtain ⟨S1, eS1⟩ : ∃ z, z = m_si S c0 1 s1 := ⟨_, rfl⟩
  rw [← eS1]
  replace h := h S1 eS1
  have hk_a0 : m_kd S1 a0 = 4 := by rw [eS1]; exact hk_a0
  have hk_c0 : m_kd S1 c0 = 4 := by rw [eS1]; exact hk_c0
  refine mj_aload_n dX4_remember_40 rfl rfl ?_
  refine mj_bipush (v := 40) dX4_remember_41 (by decide) ?_
  refine mj_aload_n dX4_remember_43 rfl rfl ?_
  refine mj_getI dX4_remember_44 fl_X4_9_4 hk_a0 rfl ?_
  refine mj_iconst (v := 1) dX4_remember_47 (by decide) ?_
  refine mj_iadd dX4_remember_48 ?_
  refine mj_callSi (as := [.int (40 : Int32), .int ((m_gi S1 a0 0) + (1 : Int32))]) (st := [.ref a0]) dX4_remember_49 cal_J9_min_7cf53 lk_X4_41 sm_J9_min_7cf53 h rfl (Nat.le_of_ble_eq_true rfl) (by decide) ⟨Nat.le_of_ble_eq_true rfl, Nat.le_of_ble_eq_true rfl⟩ (fun S2 r3 h hn_r3 hp => ?_)
  have hk_a0 : m_kd S2 a0 = 4 := m_kd_pre hp hk_a0 (by decide)
  have hk_c0 : m_kd S2 c0 = 4 := m_kd_pre hp hk_c0 (by decide)
  refine mj_putI dX4_remember_52 fl_X4_9_4 hk_a0 (Or.inl rfl) rfl rfl rfl ?_
  obtain ⟨S4, eS4⟩ : ∃ z, z = m_si S2 a0 0 r3 := ⟨_, rfl⟩
  rw [← eS4]
  replace h := h S4 eS4
  have hk_a0 : m_kd S4 a0 = 4 := by rw [eS4]; exact hk_a0
  have hk_c0 : m_kd S4 c0 = 4 := by rw [eS4]; exact hk_c0
  exact mj_retv dX4_remember_55 rfl ⟨Nat.le_of_ble_eq_true rfl, Nat.le_of_ble_eq_true rfl⟩ h
abbrev V_X4_recall_0 (l : Launch) (G : mj_G) (a0 : Nat) (a1 : Nat) (S : mj_S) (Q : mj_S → Prop) : Prop := mj_V l G (mj_room 3 0 0) RX4 cX4_recall 2 none false 0 [some (.ref a0), some (.ref a1)] [] S 0 0 (mj_std G none (mj_room 3 0 0) (mj_qv Q))
abbrev V_X4_recall_37 (l : Launch) (G : mj_G) (a0 : Nat) (a1 : Nat) (c0 : Nat) (s1 : Int32) (S : mj_S) (Q : mj_S → Prop) : Prop := mj_V l G (mj_room 3 0 0) RX4 cX4_recall 2 none false 37 [some (.ref a0), some (.ref a1)] [.int s1, .ref c0] S 0 0 (mj_std G none (mj_room 3 0 0) (mj_qv Q))
theorem e_X4_recall {l : Launch} {G : mj_G} {a0 : Nat} {a1 : Nat} {S : mj_S} {Q : mj_S → Prop} (h : V_X4_recall_0 l G a0 a1 S Q) : M_X4_recall l G a0 a1 S Q := mj_enter (r := 0) (ini := false) (by decide +kernel) (fun h => by cases h) (fun _ => Nat.le_of_ble_eq_true rfl) rfl h
set_option maxRecDepth 20000 in
set_option maxHeartbeats 1000000 in
theorem b_X4_recall_0 {l : Launch} {G : mj_G} {a0 : Nat} {a1 : Nat} {S : mj_S} {Q : mj_S → Prop} (hk_a0 : m_kd S a0 = 4) (hk_a1 : m_kd S a1 = 7) (h : ((¬ (m_gi S a0 0) = 0) → ∀ S1 : mj_S, S1 = m_si S a0 0 ((m_gi S a0 0) - (1 : Int32)) → (((m_gi S1 a0 1) ≤ 0) → V_X4_recall_37 l G a0 a1 a0 (39 : Int32) S1 Q) ∧ ((¬ ((m_gi S1 a0 1) ≤ 0)) → V_X4_recall_37 l G a0 a1 a0 ((m_gi S1 a0 1) - (1 : Int32)) S1 Q)) ∧ (((m_gi S a0 0) = 0) → Q S)) : V_X4_recall_0 l G a0 a1 S Q := by
  refine mj_aload_n dX4_recall_0 rfl rfl ?_
  refine mj_getI dX4_recall_1 fl_X4_9_4 hk_a0 rfl ?_
  refine mj_if_ne (tgt := 8) dX4_recall_4 (by decide) ⟨fun hc => ?_, fun hc => ?_⟩
  · replace h := h.1 hc
    refine mj_aload_n dX4_recall_8 rfl rfl ?_
    refine mj_dup dX4_recall_9 rfl ?_
    refine mj_getI dX4_recall_10 fl_X4_9_4 hk_a0 rfl ?_
    refine mj_iconst (v := 1) dX4_recall_13 (by decide) ?_
    refine mj_isub dX4_recall_14 ?_
    refine mj_putI dX4_recall_15 fl_X4_9_4 hk_a0 (Or.inl rfl) rfl rfl rfl ?_
    obtain ⟨S1, eS1⟩ : ∃ z, z = m_si S a0 0 ((m_gi S a0 0) - (1 : Int32)) := ⟨_, rfl⟩
    rw [← eS1]
    replace h := h S1 eS1
    have hk_a0 : m_kd S1 a0 = 4 := by rw [eS1]; exact hk_a0
    have hk_a1 : m_kd S1 a1 = 7 := by rw [eS1]; exact hk_a1
    refine mj_aload_n dX4_recall_18 rfl rfl ?_
    refine mj_aload_n dX4_recall_19 rfl rfl ?_
    refine mj_getI dX4_recall_20 fl_X4_15_4 hk_a0 rfl ?_
    refine mj_if_le (tgt := 35) dX4_recall_23 (by decide) ⟨fun hc => ?_, fun hc => ?_⟩
    · replace h := h.1 hc
      refine mj_bipush (v := 39) dX4_recall_35 (by decide) ?_
      exact h
    · replace h := h.2 hc
      refine mj_aload_n dX4_recall_26 rfl rfl ?_
      refine mj_getI dX4_recall_27 fl_X4_15_4 hk_a0 rfl ?_
      refine mj_iconst (v := 1) dX4_recall_30 (by decide) ?_
      refine mj_isub dX4_recall_31 ?_
      refine mj_goto (tgt := 37) dX4_recall_32 (by decide) ?_
      exact h
  · replace h := h.2 hc
    exact mj_retv dX4_recall_7 rfl ⟨Nat.le_of_ble_eq_true rfl, Nat.le_of_ble_eq_true rfl⟩ h
set_option maxRecDepth 20000 in
set_option maxHeartbeats 1000000 in
theorem b_X4_recall_37 {l : Launch} {G : mj_G} {a0 : Nat} {a1 : Nat} {c0 : Nat} {s1 : Int32} {S : mj_S} {Q : mj_S → Prop} (hk_a0 : m_kd S a0 = 4) (hk_a1 : m_kd S a1 = 7) (hk_c0 : m_kd S c0 = 4) (h : ∀ S1 : mj_S, S1 = m_si S c0 1 s1 → ∃ b2, m_gp S1 a0 2 = some b2 ∧ (M_X8_load l G a1 b2 ((m_gi S1 a0 1) * (18 : Int32)) S1 (fun S3 => Q S3))) : V_X4_recall_37 l G a0 a1 c0 s1 S Q := by
  refine mj_putI dX4_recall_37 fl_X4_15_4 hk_c0 (Or.inl rfl) rfl rfl rfl ?_
  obtain ⟨S1, eS1⟩ : ∃ z, z = m_si S c0 1 s1 := ⟨_, rfl⟩
  rw [← eS1]
  replace h := h S1 eS1
  have hk_a0 : m_kd S1 a0 = 4 := by rw [eS1]; exact hk_a0
  have hk_a1 : m_kd S1 a1 = 7 := by rw [eS1]; exact hk_a1
  have hk_c0 : m_kd S1 c0 = 4 := by rw [eS1]; exact hk_c0
  refine mj_aload_n dX4_recall_40 rfl rfl ?_
  refine mj_aload_n dX4_recall_41 rfl rfl ?_
  obtain ⟨b2, eb2, h⟩ := h
  refine mj_getP dX4_recall_42 fl_X4_18_4 hk_a0 rfl ⟨b2, eb2, fun hk_b2 => ?_⟩
  refine mj_aload_n dX4_recall_45 rfl rfl ?_
  refine mj_getI dX4_recall_46 fl_X4_15_4 hk_a0 rfl ?_
  refine mj_bipush (v := 18) dX4_recall_49 (by decide) ?_
  refine mj_imul dX4_recall_51 ?_
  refine mj_callVv (as := [.ref b2, .int ((m_gi S1 a0 1) * (18 : Int32))]) (st := []) dX4_recall_52 cal_X8_load lk_X4_47 im_X8_load se_X8_load (ci := 7) rfl (by decide) hk_a1 h rfl (Nat.le_of_ble_eq_true rfl) (by decide) ⟨Nat.le_of_ble_eq_true rfl, Nat.le_of_ble_eq_true rfl⟩ (fun S3 h hp => ?_)
  have hk_a0 : m_kd S3 a0 = 4 := m_kd_pre hp hk_a0 (by decide)
  have hk_a1 : m_kd S3 a1 = 7 := m_kd_pre hp hk_a1 (by decide)
  have hk_c0 : m_kd S3 c0 = 4 := m_kd_pre hp hk_c0 (by decide)
  have hk_b2 : m_kd S3 b2 = 100 := m_kd_pre hp hk_b2 (by decide)
  exact mj_retv dX4_recall_55 rfl ⟨Nat.le_of_ble_eq_true rfl, Nat.le_of_ble_eq_true rfl⟩ h
abbrev V_X4_note_0 (l : Launch) (G : mj_G) (a0 : Nat) (x1 : Int32) (x2 : Int32) (x3 : Int32) (x4 : Int32) (S : mj_S) (Q : mj_S → Prop) : Prop := mj_V l G (mj_room 3 0 0) RX4 cX4_note 6 none false 0 [some (.ref a0), some (.int x1), some (.int x2), some (.int x3), some (.int x4), none] [] S 0 0 (mj_std G none (mj_room 3 0 0) (mj_qv Q))
theorem e_X4_note {l : Launch} {G : mj_G} {a0 : Nat} {x1 : Int32} {x2 : Int32} {x3 : Int32} {x4 : Int32} {S : mj_S} {Q : mj_S → Prop} (h : V_X4_note_0 l G a0 x1 x2 x3 x4 S Q) : M_X4_note l G a0 x1 x2 x3 x4 S Q := mj_enter (r := 1) (ini := false) (by decide +kernel) (fun h => by cases h) (fun _ => Nat.le_of_ble_eq_true rfl) rfl h
set_option maxRecDepth 20000 in
set_option maxHeartbeats 1000000 in
theorem b_X4_note_0 {l : Launch} {G : mj_G} {a0 : Nat} {x1 : Int32} {x2 : Int32} {x3 : Int32} {x4 : Int32} {S : mj_S} {Q : mj_S → Prop} (hk_a0 : m_kd S a0 = 4) (h : M_X4_rowOf l G x1 S (fun S1 r2 => ∃ b3, m_gp S1 a0 3 = some b3 ∧ (vp_in r2 (m_ln S1 b3) ∧ (∀ S4 : mj_S, S4 = m_si S1 b3 (r2).toNatClampNeg x2 → ∃ b5, m_gp S4 a0 3 = some b5 ∧ (vp_in (r2 + (1 : Int32)) (m_ln S4 b5) ∧ (∀ S6 : mj_S, S6 = m_si S4 b5 ((r2 + (1 : Int32))).toNatClampNeg x3 → ∃ b7, m_gp S6 a0 3 = some b7 ∧ (vp_in (r2 + (2 : Int32)) (m_ln S6 b7) ∧ (∀ S8 : mj_S, S8 = m_si S6 b7 ((r2 + (2 : Int32))).toNatClampNeg x4 → Q S8)))))))) : V_X4_note_0 l G a0 x1 x2 x3 x4 S Q := by
  refine mj_iload_n dX4_note_0 rfl rfl ?_
  refine mj_callSi (as := [.int x1]) (st := []) dX4_note_1 cal_X4_rowOf lk_X4_50 sm_X4_rowOf h rfl (Nat.le_of_ble_eq_true rfl) (by decide) ⟨Nat.le_of_ble_eq_true rfl, Nat.le_of_ble_eq_true rfl⟩ (fun S1 r2 h hn_r2 hp => ?_)
  have hk_a0 : m_kd S1 a0 = 4 := m_kd_pre hp hk_a0 (by decide)
  refine mj_istore dX4_note_4 (by decide) rfl rfl ?_
  refine mj_aload_n dX4_note_6 rfl rfl ?_
  obtain ⟨b3, eb3, h⟩ := h
  refine mj_getP dX4_note_7 fl_X4_22_4 hk_a0 rfl ⟨b3, eb3, fun hk_b3 => ?_⟩
  refine mj_iload dX4_note_10 rfl ?_
  refine mj_iload_n dX4_note_12 rfl rfl ?_
  refine mj_iast dX4_note_13 hk_b3 ⟨h.1, ?_⟩
  replace h := h.2
  obtain ⟨S4, eS4⟩ : ∃ z, z = m_si S1 b3 (r2).toNatClampNeg x2 := ⟨_, rfl⟩
  rw [← eS4]
  replace h := h S4 eS4
  have hk_a0 : m_kd S4 a0 = 4 := by rw [eS4]; exact hk_a0
  have hk_b3 : m_kd S4 b3 = 100 := by rw [eS4]; exact hk_b3
  refine mj_aload_n dX4_note_14 rfl rfl ?_
  obtain ⟨b5, eb5, h⟩ := h
  refine mj_getP dX4_note_15 fl_X4_22_4 hk_a0 rfl ⟨b5, eb5, fun hk_b5 => ?_⟩
  refine mj_iload dX4_note_18 rfl ?_
  refine mj_iconst (v := 1) dX4_note_20 (by decide) ?_
  refine mj_iadd dX4_note_21 ?_
  refine mj_iload_n dX4_note_22 rfl rfl ?_
  refine mj_iast dX4_note_23 hk_b5 ⟨h.1, ?_⟩
  replace h := h.2
  obtain ⟨S6, eS6⟩ : ∃ z, z = m_si S4 b5 ((r2 + (1 : Int32))).toNatClampNeg x3 := ⟨_, rfl⟩
  rw [← eS6]
  replace h := h S6 eS6
  have hk_a0 : m_kd S6 a0 = 4 := by rw [eS6]; exact hk_a0
  have hk_b3 : m_kd S6 b3 = 100 := by rw [eS6]; exact hk_b3
  have hk_b5 : m_kd S6 b5 = 100 := by rw [eS6]; exact hk_b5
  refine mj_aload_n dX4_note_24 rfl rfl ?_
  obtain ⟨b7, eb7, h⟩ := h
  refine mj_getP dX4_note_25 fl_X4_22_4 hk_a0 rfl ⟨b7, eb7, fun hk_b7 => ?_⟩
  refine mj_iload dX4_note_28 rfl ?_
  refine mj_iconst (v := 2) dX4_note_30 (by decide) ?_
  refine mj_iadd dX4_note_31 ?_
  refine mj_iload dX4_note_32 rfl ?_
  refine mj_iast dX4_note_34 hk_b7 ⟨h.1, ?_⟩
  replace h := h.2
  obtain ⟨S8, eS8⟩ : ∃ z, z = m_si S6 b7 ((r2 + (2 : Int32))).toNatClampNeg x4 := ⟨_, rfl⟩
  rw [← eS8]
  replace h := h S8 eS8
  have hk_a0 : m_kd S8 a0 = 4 := by rw [eS8]; exact hk_a0
  have hk_b3 : m_kd S8 b3 = 100 := by rw [eS8]; exact hk_b3
  have hk_b5 : m_kd S8 b5 = 100 := by rw [eS8]; exact hk_b5
  have hk_b7 : m_kd S8 b7 = 100 := by rw [eS8]; exact hk_b7
  exact mj_retv dX4_note_35 rfl ⟨Nat.le_of_ble_eq_true rfl, Nat.le_of_ble_eq_true rfl⟩ h
abbrev V_X4_noted_0 (l : Launch) (G : mj_G) (a0 : Nat) (x1 : Int32) (x2 : Int32) (S : mj_S) (Q : mj_S → Int32 → Prop) : Prop := mj_V l G (mj_room 3 0 0) RX4 cX4_noted 3 (some .int) false 0 [some (.ref a0), some (.int x1), some (.int x2)] [] S 0 0 (mj_std G (some .int) (mj_room 3 0 0) (mj_qi Q))
theorem e_X4_noted {l : Launch} {G : mj_G} {a0 : Nat} {x1 : Int32} {x2 : Int32} {S : mj_S} {Q : mj_S → Int32 → Prop} (h : V_X4_noted_0 l G a0 x1 x2 S Q) : M_X4_noted l G a0 x1 x2 S Q := mj_enter (r := 0) (ini := false) (by decide +kernel) (fun h => by cases h) (fun _ => Nat.le_of_ble_eq_true rfl) rfl h
set_option maxRecDepth 20000 in
set_option maxHeartbeats 1000000 in
theorem b_X4_noted_0 {l : Launch} {G : mj_G} {a0 : Nat} {x1 : Int32} {x2 : Int32} {S : mj_S} {Q : mj_S → Int32 → Prop} (hk_a0 : m_kd S a0 = 4) (h : M_X10_within l G x2 (0 : Int32) (2 : Int32) S (fun S1 r2 => ((r2 = 0) → Q S1 (-1 : Int32)) ∧ ((¬ (r2 = 0)) → ∃ b3, m_gp S1 a0 3 = some b3 ∧ (M_X4_rowOf l G x1 S1 (fun S4 r5 => vp_in (r5 + x2) (m_ln S4 b3) ∧ (Q S4 (m_gi S4 b3 ((r5 + x2)).toNatClampNeg))))))) : V_X4_noted_0 l G a0 x1 x2 S Q := by
  refine mj_iload_n dX4_noted_0 rfl rfl ?_
  refine mj_iconst (v := 0) dX4_noted_1 (by decide) ?_
  refine mj_iconst (v := 2) dX4_noted_2 (by decide) ?_
  refine mj_callNi (as := [.int x2, .int (0 : Int32), .int (2 : Int32)]) (st := []) dX4_noted_3 cal_X10_within ln_X4_54 sm_X10_within h rfl (Nat.le_of_ble_eq_true rfl) (by decide) ⟨Nat.le_of_ble_eq_true rfl, Nat.le_of_ble_eq_true rfl⟩ (fun S1 r2 h hn_r2 hp => ?_)
  have hk_a0 : m_kd S1 a0 = 4 := m_kd_pre hp hk_a0 (by decide)
  refine mj_if_eq (tgt := 23) dX4_noted_6 (by decide) ⟨fun hc => ?_, fun hc => ?_⟩
  · replace h := h.1 hc
    refine mj_iconst (v := (-1)) dX4_noted_23 (by decide) ?_
    exact mj_reti dX4_noted_24 rfl ⟨Nat.le_of_ble_eq_true rfl, Nat.le_of_ble_eq_true rfl⟩ h
  · replace h := h.2 hc
    refine mj_aload_n dX4_noted_9 rfl rfl ?_
    obtain ⟨b3, eb3, h⟩ := h
    refine mj_getP dX4_noted_10 fl_X4_22_4 hk_a0 rfl ⟨b3, eb3, fun hk_b3 => ?_⟩
    refine mj_iload_n dX4_noted_13 rfl rfl ?_
    refine mj_callSi (as := [.int x1]) (st := [.ref b3]) dX4_noted_14 cal_X4_rowOf lk_X4_50 sm_X4_rowOf h rfl (Nat.le_of_ble_eq_true rfl) (by decide) ⟨Nat.le_of_ble_eq_true rfl, Nat.le_of_ble_eq_true rfl⟩ (fun S4 r5 h hn_r5 hp => ?_)
    have hk_a0 : m_kd S4 a0 = 4 := m_kd_pre hp hk_a0 (by decide)
    have hk_b3 : m_kd S4 b3 = 100 := m_kd_pre hp hk_b3 (by decide)
    refine mj_iload_n dX4_noted_17 rfl rfl ?_
    refine mj_iadd dX4_noted_18 ?_
    refine mj_iald dX4_noted_19 (Or.inl hk_b3) ⟨h.1, ?_⟩
    replace h := h.2
    refine mj_goto (tgt := 24) dX4_noted_20 (by decide) ?_
    exact mj_reti dX4_noted_24 rfl ⟨Nat.le_of_ble_eq_true rfl, Nat.le_of_ble_eq_true rfl⟩ h
abbrev V_X4_rowOf_0 (l : Launch) (G : mj_G) (x0 : Int32) (S : mj_S) (Q : mj_S → Int32 → Prop) : Prop := mj_V l G (mj_room 2 0 0) RX4 cX4_rowOf 1 (some .int) false 0 [some (.int x0)] [] S 0 0 (mj_std G (some .int) (mj_room 2 0 0) (mj_qi Q))
theorem e_X4_rowOf {l : Launch} {G : mj_G} {x0 : Int32} {S : mj_S} {Q : mj_S → Int32 → Prop} (h : V_X4_rowOf_0 l G x0 S Q) : M_X4_rowOf l G x0 S Q := mj_enter (r := 0) (ini := false) (by decide +kernel) (fun h => by cases h) (fun _ => Nat.le_of_ble_eq_true rfl) rfl h
set_option maxRecDepth 20000 in
set_option maxHeartbeats 1000000 in
theorem b_X4_rowOf_0 {l : Launch} {G : mj_G} {x0 : Int32} {S : mj_S} {Q : mj_S → Int32 → Prop} (h : M_J9_floorMod_7cf53 l G x0 (100 : Int32) S (fun S1 r2 => Q S1 (r2 * (3 : Int32)))) : V_X4_rowOf_0 l G x0 S Q := by
  refine mj_iload_n dX4_rowOf_0 rfl rfl ?_
  refine mj_bipush (v := 100) dX4_rowOf_1 (by decide) ?_
  refine mj_callSi (as := [.int x0, .int (100 : Int32)]) (st := []) dX4_rowOf_3 cal_J9_floorMod_7cf53 lk_X4_58 sm_J9_floorMod_7cf53 h rfl (Nat.le_of_ble_eq_true rfl) (by decide) ⟨Nat.le_of_ble_eq_true rfl, Nat.le_of_ble_eq_true rfl⟩ (fun S1 r2 h hn_r2 hp => ?_)
  refine mj_iconst (v := 3) dX4_rowOf_6 (by decide) ?_
  refine mj_imul dX4_rowOf_7 ?_
  exact mj_reti dX4_rowOf_8 rfl ⟨Nat.le_of_ble_eq_true rfl, Nat.le_of_ble_eq_true rfl⟩ h
abbrev V_X4_keepImage_0 (l : Launch) (G : mj_G) (a0 : Nat) (a1 : Nat) (S : mj_S) (Q : mj_S → Prop) : Prop := mj_V l G (mj_room 3 0 0) RX4 cX4_keepImage 2 none false 0 [some (.ref a0), some (.ref a1)] [] S 0 0 (mj_std G none (mj_room 3 0 0) (mj_qv Q))
theorem e_X4_keepImage {l : Launch} {G : mj_G} {a0 : Nat} {a1 : Nat} {S : mj_S} {Q : mj_S → Prop} (h : V_X4_keepImage_0 l G a0 a1 S Q) : M_X4_keepImage l G a0 a1 S Q := mj_enter (r := 0) (ini := false) (by decide +kernel) (fun h => by cases h) (fun _ => Nat.le_of_ble_eq_true rfl) rfl h
set_option maxRecDepth 20000 in
set_option maxHeartbeats 1000000 in
theorem b_X4_keepImage_0 {l : Launch} {G : mj_G} {a0 : Nat} {a1 : Nat} {S : mj_S} {Q : mj_S → Prop} (hk_a0 : m_kd S a0 = 4) (hk_a1 : m_kd S a1 = 7) (h : ∃ b1, m_gp S a0 5 = some b1 ∧ (M_X8_save l G a1 b1 (0 : Int32) S (fun S2 => ∃ b3, m_gp S2 a0 3 = some b3 ∧ (∃ b4, m_gp S2 a0 6 = some b4 ∧ (∃ b5, m_gp S2 a0 3 = some b5 ∧ ((¬ (0 : Int32) < 0 ∧ ¬ (0 : Int32) < 0 ∧ ¬ (Int32.ofNat (m_ln S2 b5)) < 0 ∧ ((0 : Int32)).toNatClampNeg + ((Int32.ofNat (m_ln S2 b5))).toNatClampNeg ≤ m_ln S2 b3 ∧ ((0 : Int32)).toNatClampNeg + ((Int32.ofNat (m_ln S2 b5))).toNatClampNeg ≤ m_ln S2 b4) ∧ (∀ S6 : mj_S, S6 = m_row S2 b4 (va_cpy (m_gi S2 b3) (m_gi S2 b4) ((0 : Int32)).toNatClampNeg ((0 : Int32)).toNatClampNeg ((Int32.ofNat (m_ln S2 b5))).toNatClampNeg) → ∀ S7 : mj_S, S7 = m_si S6 a0 4 (1 : Int32) → Q S7))))))) : V_X4_keepImage_0 l G a0 a1 S Q := by
  refine mj_aload_n dX4_keepImage_0 rfl rfl ?_
  refine mj_aload_n dX4_keepImage_1 rfl rfl ?_
  obtain ⟨b1, eb1, h⟩ := h
  refine mj_getP dX4_keepImage_2 fl_X4_29_4 hk_a0 rfl ⟨b1, eb1, fun hk_b1 => ?_⟩
  refine mj_iconst (v := 0) dX4_keepImage_5 (by decide) ?_
  refine mj_callVv (as := [.ref b1, .int (0 : Int32)]) (st := []) dX4_keepImage_6 cal_X8_save lk_X4_35 im_X8_save se_X8_save (ci := 7) rfl (by decide) hk_a1 h rfl (Nat.le_of_ble_eq_true rfl) (by decide) ⟨Nat.le_of_ble_eq_true rfl, Nat.le_of_ble_eq_true rfl⟩ (fun S2 h hp => ?_)
  have hk_a0 : m_kd S2 a0 = 4 := m_kd_pre hp hk_a0 (by decide)
  have hk_a1 : m_kd S2 a1 = 7 := m_kd_pre hp hk_a1 (by decide)
  have hk_b1 : m_kd S2 b1 = 100 := m_kd_pre hp hk_b1 (by decide)
  refine mj_aload_n dX4_keepImage_9 rfl rfl ?_
  obtain ⟨b3, eb3, h⟩ := h
  refine mj_getP dX4_keepImage_10 fl_X4_22_4 hk_a0 rfl ⟨b3, eb3, fun hk_b3 => ?_⟩
  refine mj_iconst (v := 0) dX4_keepImage_13 (by decide) ?_
  refine mj_aload_n dX4_keepImage_14 rfl rfl ?_
  obtain ⟨b4, eb4, h⟩ := h
  refine mj_getP dX4_keepImage_15 fl_X4_32_4 hk_a0 rfl ⟨b4, eb4, fun hk_b4 => ?_⟩
  refine mj_iconst (v := 0) dX4_keepImage_18 (by decide) ?_
  refine mj_aload_n dX4_keepImage_19 rfl rfl ?_
  obtain ⟨b5, eb5, h⟩ := h
  refine mj_getP dX4_keepImage_20 fl_X4_22_4 hk_a0 rfl ⟨b5, eb5, fun hk_b5 => ?_⟩
  refine mj_alen dX4_keepImage_23 (Or.inl hk_b5) ?_
  refine mj_copy (st := []) dX4_keepImage_24 ac_X4_61 (Or.inl hk_b3) hk_b4 h.1 (by decide) (Nat.le_of_ble_eq_true rfl) ?_
  replace h := h.2
  obtain ⟨S6, eS6⟩ : ∃ z, z = m_row S2 b4 (va_cpy (m_gi S2 b3) (m_gi S2 b4) ((0 : Int32)).toNatClampNeg ((0 : Int32)).toNatClampNeg ((Int32.ofNat (m_ln S2 b5))).toNatClampNeg) := ⟨_, rfl⟩
  rw [← eS6]
  replace h := h S6 eS6
  have hk_a0 : m_kd S6 a0 = 4 := by rw [eS6]; exact hk_a0
  have hk_a1 : m_kd S6 a1 = 7 := by rw [eS6]; exact hk_a1
  have hk_b1 : m_kd S6 b1 = 100 := by rw [eS6]; exact hk_b1
  have hk_b3 : m_kd S6 b3 = 100 := by rw [eS6]; exact hk_b3
  have hk_b4 : m_kd S6 b4 = 100 := by rw [eS6]; exact hk_b4
  have hk_b5 : m_kd S6 b5 = 100 := by rw [eS6]; exact hk_b5
  refine mj_aload_n dX4_keepImage_27 rfl rfl ?_
  refine mj_iconst (v := 1) dX4_keepImage_28 (by decide) ?_
  refine mj_putI dX4_keepImage_29 fl_X4_25_4 hk_a0 (Or.inl rfl) rfl rfl rfl ?_
  obtain ⟨S7, eS7⟩ : ∃ z, z = m_si S6 a0 4 (1 : Int32) := ⟨_, rfl⟩
  rw [← eS7]
  replace h := h S7 eS7
  have hk_a0 : m_kd S7 a0 = 4 := by rw [eS7]; exact hk_a0
  have hk_a1 : m_kd S7 a1 = 7 := by rw [eS7]; exact hk_a1
  have hk_b1 : m_kd S7 b1 = 100 := by rw [eS7]; exact hk_b1
  have hk_b3 : m_kd S7 b3 = 100 := by rw [eS7]; exact hk_b3
  have hk_b4 : m_kd S7 b4 = 100 := by rw [eS7]; exact hk_b4
  have hk_b5 : m_kd S7 b5 = 100 := by rw [eS7]; exact hk_b5
  exact mj_retv dX4_keepImage_32 rfl ⟨Nat.le_of_ble_eq_true rfl, Nat.le_of_ble_eq_true rfl⟩ h
abbrev V_X4_returnTo_0 (l : Launch) (G : mj_G) (a0 : Nat) (a1 : Nat) (S : mj_S) (Q : mj_S → Prop) : Prop := mj_V l G (mj_room 3 0 0) RX4 cX4_returnTo 2 none false 0 [some (.ref a0), some (.ref a1)] [] S 0 0 (mj_std G none (mj_room 3 0 0) (mj_qv Q))
theorem e_X4_returnTo {l : Launch} {G : mj_G} {a0 : Nat} {a1 : Nat} {S : mj_S} {Q : mj_S → Prop} (h : V_X4_returnTo_0 l G a0 a1 S Q) : M_X4_returnTo l G a0 a1 S Q := mj_enter (r := 0) (ini := false) (by decide +kernel) (fun h => by cases h) (fun _ => Nat.le_of_ble_eq_true rfl) rfl h
set_option maxRecDepth 20000 in
set_option maxHeartbeats 1000000 in
theorem b_X4_returnTo_0 {l : Launch} {G : mj_G} {a0 : Nat} {a1 : Nat} {S : mj_S} {Q : mj_S → Prop} (hk_a0 : m_kd S a0 = 4) (hk_a1 : m_kd S a1 = 7) (h : ∃ b1, m_gp S a0 5 = some b1 ∧ (M_X8_load l G a1 b1 (0 : Int32) S (fun S2 => ∃ b3, m_gp S2 a0 6 = some b3 ∧ (∃ b4, m_gp S2 a0 3 = some b4 ∧ (∃ b5, m_gp S2 a0 3 = some b5 ∧ ((¬ (0 : Int32) < 0 ∧ ¬ (0 : Int32) < 0 ∧ ¬ (Int32.ofNat (m_ln S2 b5)) < 0 ∧ ((0 : Int32)).toNatClampNeg + ((Int32.ofNat (m_ln S2 b5))).toNatClampNeg ≤ m_ln S2 b3 ∧ ((0 : Int32)).toNatClampNeg + ((Int32.ofNat (m_ln S2 b5))).toNatClampNeg ≤ m_ln S2 b4) ∧ (∀ S6 : mj_S, S6 = m_row S2 b4 (va_cpy (m_gi S2 b3) (m_gi S2 b4) ((0 : Int32)).toNatClampNeg ((0 : Int32)).toNatClampNeg ((Int32.ofNat (m_ln S2 b5))).toNatClampNeg) → ∀ S7 : mj_S, S7 = m_si S6 a0 0 (0 : Int32) → Q S7))))))) : V_X4_returnTo_0 l G a0 a1 S Q := by
  refine mj_aload_n dX4_returnTo_0 rfl rfl ?_
  refine mj_aload_n dX4_returnTo_1 rfl rfl ?_
  obtain ⟨b1, eb1, h⟩ := h
  refine mj_getP dX4_returnTo_2 fl_X4_29_4 hk_a0 rfl ⟨b1, eb1, fun hk_b1 => ?_⟩
  refine mj_iconst (v := 0) dX4_returnTo_5 (by decide) ?_
  refine mj_callVv (as := [.ref b1, .int (0 : Int32)]) (st := []) dX4_returnTo_6 cal_X8_load lk_X4_47 im_X8_load se_X8_load (ci := 7) rfl (by decide) hk_a1 h rfl (Nat.le_of_ble_eq_true rfl) (by decide) ⟨Nat.le_of_ble_eq_true rfl, Nat.le_of_ble_eq_true rfl⟩ (fun S2 h hp => ?_)
  have hk_a0 : m_kd S2 a0 = 4 := m_kd_pre hp hk_a0 (by decide)
  have hk_a1 : m_kd S2 a1 = 7 := m_kd_pre hp hk_a1 (by decide)
  have hk_b1 : m_kd S2 b1 = 100 := m_kd_pre hp hk_b1 (by decide)
  refine mj_aload_n dX4_returnTo_9 rfl rfl ?_
  obtain ⟨b3, eb3, h⟩ := h
  refine mj_getP dX4_returnTo_10 fl_X4_32_4 hk_a0 rfl ⟨b3, eb3, fun hk_b3 => ?_⟩
  refine mj_iconst (v := 0) dX4_returnTo_13 (by decide) ?_
  refine mj_aload_n dX4_returnTo_14 rfl rfl ?_
  obtain ⟨b4, eb4, h⟩ := h
  refine mj_getP dX4_returnTo_15 fl_X4_22_4 hk_a0 rfl ⟨b4, eb4, fun hk_b4 => ?_⟩
  refine mj_iconst (v := 0) dX4_returnTo_18 (by decide) ?_
  refine mj_aload_n dX4_returnTo_19 rfl rfl ?_
  obtain ⟨b5, eb5, h⟩ := h
  refine mj_getP dX4_returnTo_20 fl_X4_22_4 hk_a0 rfl ⟨b5, eb5, fun hk_b5 => ?_⟩
  refine mj_alen dX4_returnTo_23 (Or.inl hk_b5) ?_
  refine mj_copy (st := []) dX4_returnTo_24 ac_X4_61 (Or.inl hk_b3) hk_b4 h.1 (by decide) (Nat.le_of_ble_eq_true rfl) ?_
  replace h := h.2
  obtain ⟨S6, eS6⟩ : ∃ z, z = m_row S2 b4 (va_cpy (m_gi S2 b3) (m_gi S2 b4) ((0 : Int32)).toNatClampNeg ((0 : Int32)).toNatClampNeg ((Int32.ofNat (m_ln S2 b5))).toNatClampNeg) := ⟨_, rfl⟩
  rw [← eS6]
  replace h := h S6 eS6
  have hk_a0 : m_kd S6 a0 = 4 := by rw [eS6]; exact hk_a0
  have hk_a1 : m_kd S6 a1 = 7 := by rw [eS6]; exact hk_a1
  have hk_b1 : m_kd S6 b1 = 100 := by rw [eS6]; exact hk_b1
  have hk_b3 : m_kd S6 b3 = 100 := by rw [eS6]; exact hk_b3
  have hk_b4 : m_kd S6 b4 = 100 := by rw [eS6]; exact hk_b4
  have hk_b5 : m_kd S6 b5 = 100 := by rw [eS6]; exact hk_b5
  refine mj_aload_n dX4_returnTo_27 rfl rfl ?_
  refine mj_iconst (v := 0) dX4_returnTo_28 (by decide) ?_
  refine mj_putI dX4_returnTo_29 fl_X4_9_4 hk_a0 (Or.inl rfl) rfl rfl rfl ?_
  obtain ⟨S7, eS7⟩ : ∃ z, z = m_si S6 a0 0 (0 : Int32) := ⟨_, rfl⟩
  rw [← eS7]
  replace h := h S7 eS7
  have hk_a0 : m_kd S7 a0 = 4 := by rw [eS7]; exact hk_a0
  have hk_a1 : m_kd S7 a1 = 7 := by rw [eS7]; exact hk_a1
  have hk_b1 : m_kd S7 b1 = 100 := by rw [eS7]; exact hk_b1
  have hk_b3 : m_kd S7 b3 = 100 := by rw [eS7]; exact hk_b3
  have hk_b4 : m_kd S7 b4 = 100 := by rw [eS7]; exact hk_b4
  have hk_b5 : m_kd S7 b5 = 100 := by rw [eS7]; exact hk_b5
  exact mj_retv dX4_returnTo_32 rfl ⟨Nat.le_of_ble_eq_true rfl, Nat.le_of_ble_eq_true rfl⟩ h
