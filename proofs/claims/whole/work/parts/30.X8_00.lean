abbrev V_X8_init_0 (l : Launch) (G : mj_G) (a0 : Nat) (S : mj_S) (Q : mj_S → Prop) : Prop := mj_V l G (mj_room 2 11 106) RX8 cX8_init 1 none true 0 [some (.ref a0)] [] S 0 0 (mj_std G none (mj_room 2 11 106) (mj_qv Q))
theorem e_X8_init {l : Launch} {G : mj_G} {a0 : Nat} {S : mj_S} {Q : mj_S → Prop} (h : V_X8_init_0 l G a0 S Q) : M_X8_init l G a0 S Q := mj_enter (r := 0) (ini := true) (by decide +kernel) (fun _ => rfl) (fun _ => Nat.le_of_ble_eq_true rfl) rfl h
set_option maxRecDepth 20000 in
set_option maxHeartbeats 1000000 in
theorem b_X8_init_0 {l : Launch} {G : mj_G} {a0 : Nat} {S : mj_S} {Q : mj_S → Prop} (hk_a0 : m_kd S a0 = 7) (h : ∀ q1 : Nat, q1 = S.1.length → ∀ S2 : mj_S, S2 = m_nw S 5 (mj_nf 5) → M_X6_init l G q1 S2 (fun S3 => ∀ S4 : mj_S, S4 = m_sp S3 a0 0 (some q1) → ∀ q5 : Nat, q5 = S4.1.length → ∀ S6 : mj_S, S6 = m_nw S4 100 10 → ∀ S7 : mj_S, S7 = m_sp S6 a0 1 (some q5) → ∀ q8 : Nat, q8 = S7.1.length → ∀ S9 : mj_S, S9 = m_nw S7 100 6 → ∀ S10 : mj_S, S10 = m_sp S9 a0 2 (some q8) → ∀ S11 : mj_S, S11 = m_si S10 a0 3 (0 : Int32) → ∀ S12 : mj_S, S12 = m_si S11 a0 4 (0 : Int32) → Q S12)) : V_X8_init_0 l G a0 S Q := by
  refine mj_aload_n dX8_init_0 rfl rfl ?_
  refine mj_objInit (st := []) dX8_init_1 oi_X8_3 oi_im oi_co (by decide) (Nat.le_of_ble_eq_true rfl) ?_
  refine mj_aload_n dX8_init_4 rfl rfl ?_
  refine mj_new dX8_init_5 cn_X8_9 (Nat.le_of_ble_eq_true rfl) (Nat.le_of_ble_eq_true rfl) ?_
  obtain ⟨q1, eq1⟩ : ∃ z, z = S.1.length := ⟨_, rfl⟩
  rw [← eq1]
  obtain ⟨S2, eS2⟩ : ∃ z, z = m_nw S 5 (mj_nf 5) := ⟨_, rfl⟩
  rw [← eS2]
  replace h := h q1 eq1 S2 eS2
  have hp : S.1 <+: S2.1 := by rw [eS2]; exact List.prefix_append _ _
  have hk_q1 : m_kd S2 q1 = 5 := by rw [eS2, eq1]; exact m_kd_nwl
  have hk_a0 : m_kd S2 a0 = 7 := m_kd_pre hp hk_a0 (by decide)
  refine mj_dup dX8_init_8 rfl ?_
  refine mj_callIN (st := [.ref q1, .ref a0]) dX8_init_9 cal_X6_init ln_X8_11 im_X6_init rfl h (Nat.le_of_ble_eq_true rfl) (by decide) ⟨Nat.le_of_ble_eq_true rfl, Nat.le_of_ble_eq_true rfl⟩ (fun S3 h hp => ?_)
  have hk_a0 : m_kd S3 a0 = 7 := m_kd_pre hp hk_a0 (by decide)
  have hk_q1 : m_kd S3 q1 = 5 := m_kd_pre hp hk_q1 (by decide)
  refine mj_putP dX8_init_12 fl_X8_12_7 hk_a0 (Or.inl rfl) rfl hk_q1 (fun _ => rfl) (fun _ => rfl) ?_
  obtain ⟨S4, eS4⟩ : ∃ z, z = m_sp S3 a0 0 (some q1) := ⟨_, rfl⟩
  rw [← eS4]
  replace h := h S4 eS4
  have hk_a0 : m_kd S4 a0 = 7 := by rw [eS4]; exact hk_a0
  have hk_q1 : m_kd S4 q1 = 5 := by rw [eS4]; exact hk_q1
  refine mj_aload_n dX8_init_15 rfl rfl ?_
  refine mj_bipush (v := 10) dX8_init_16 (by decide) ?_
  refine mj_newI (N := 10) dX8_init_18 ar_int (by decide) (by decide) (by decide) (Nat.le_of_ble_eq_true rfl) (Nat.le_of_ble_eq_true rfl) ?_
  obtain ⟨q5, eq5⟩ : ∃ z, z = S4.1.length := ⟨_, rfl⟩
  rw [← eq5]
  obtain ⟨S6, eS6⟩ : ∃ z, z = m_nw S4 100 10 := ⟨_, rfl⟩
  rw [← eS6]
  replace h := h q5 eq5 S6 eS6
  have hp : S4.1 <+: S6.1 := by rw [eS6]; exact List.prefix_append _ _
  have hk_q5 : m_kd S6 q5 = 100 := by rw [eS6, eq5]; exact m_kd_nwl
  have hk_a0 : m_kd S6 a0 = 7 := m_kd_pre hp hk_a0 (by decide)
  have hk_q1 : m_kd S6 q1 = 5 := m_kd_pre hp hk_q1 (by decide)
  refine mj_putP dX8_init_20 fl_X8_18_7 hk_a0 (Or.inr ⟨rfl, rfl⟩) rfl hk_q5 (fun _ => rfl) (fun _ => rfl) ?_
  obtain ⟨S7, eS7⟩ : ∃ z, z = m_sp S6 a0 1 (some q5) := ⟨_, rfl⟩
  rw [← eS7]
  replace h := h S7 eS7
  have hk_a0 : m_kd S7 a0 = 7 := by rw [eS7]; exact hk_a0
  have hk_q1 : m_kd S7 q1 = 5 := by rw [eS7]; exact hk_q1
  have hk_q5 : m_kd S7 q5 = 100 := by rw [eS7]; exact hk_q5
  refine mj_aload_n dX8_init_23 rfl rfl ?_
  refine mj_bipush (v := 6) dX8_init_24 (by decide) ?_
  refine mj_newI (N := 6) dX8_init_26 ar_int (by decide) (by decide) (by decide) (Nat.le_of_ble_eq_true rfl) (Nat.le_of_ble_eq_true rfl) ?_
  obtain ⟨q8, eq8⟩ : ∃ z, z = S7.1.length := ⟨_, rfl⟩
  rw [← eq8]
  obtain ⟨S9, eS9⟩ : ∃ z, z = m_nw S7 100 6 := ⟨_, rfl⟩
  rw [← eS9]
  replace h := h q8 eq8 S9 eS9
  have hp : S7.1 <+: S9.1 := by rw [eS9]; exact List.prefix_append _ _
  have hk_q8 : m_kd S9 q8 = 100 := by rw [eS9, eq8]; exact m_kd_nwl
  have hk_a0 : m_kd S9 a0 = 7 := m_kd_pre hp hk_a0 (by decide)
  have hk_q1 : m_kd S9 q1 = 5 := m_kd_pre hp hk_q1 (by decide)
  have hk_q5 : m_kd S9 q5 = 100 := m_kd_pre hp hk_q5 (by decide)
  refine mj_putP dX8_init_28 fl_X8_22_7 hk_a0 (Or.inr ⟨rfl, rfl⟩) rfl hk_q8 (fun _ => rfl) (fun _ => rfl) ?_
  obtain ⟨S10, eS10⟩ : ∃ z, z = m_sp S9 a0 2 (some q8) := ⟨_, rfl⟩
  rw [← eS10]
  replace h := h S10 eS10
  have hk_a0 : m_kd S10 a0 = 7 := by rw [eS10]; exact hk_a0
  have hk_q1 : m_kd S10 q1 = 5 := by rw [eS10]; exact hk_q1
  have hk_q5 : m_kd S10 q5 = 100 := by rw [eS10]; exact hk_q5
  have hk_q8 : m_kd S10 q8 = 100 := by rw [eS10]; exact hk_q8
  refine mj_aload_n dX8_init_31 rfl rfl ?_
  refine mj_iconst (v := 0) dX8_init_32 (by decide) ?_
  refine mj_putI dX8_init_33 fl_X8_25_7 hk_a0 (Or.inl rfl) rfl rfl rfl ?_
  obtain ⟨S11, eS11⟩ : ∃ z, z = m_si S10 a0 3 (0 : Int32) := ⟨_, rfl⟩
  rw [← eS11]
  replace h := h S11 eS11
  have hk_a0 : m_kd S11 a0 = 7 := by rw [eS11]; exact hk_a0
  have hk_q1 : m_kd S11 q1 = 5 := by rw [eS11]; exact hk_q1
  have hk_q5 : m_kd S11 q5 = 100 := by rw [eS11]; exact hk_q5
  have hk_q8 : m_kd S11 q8 = 100 := by rw [eS11]; exact hk_q8
  refine mj_aload_n dX8_init_36 rfl rfl ?_
  refine mj_iconst (v := 0) dX8_init_37 (by decide) ?_
  refine mj_putI dX8_init_38 fl_X8_29_7 hk_a0 (Or.inl rfl) rfl rfl rfl ?_
  obtain ⟨S12, eS12⟩ : ∃ z, z = m_si S11 a0 4 (0 : Int32) := ⟨_, rfl⟩
  rw [← eS12]
  replace h := h S12 eS12
  have hk_a0 : m_kd S12 a0 = 7 := by rw [eS12]; exact hk_a0
  have hk_q1 : m_kd S12 q1 = 5 := by rw [eS12]; exact hk_q1
  have hk_q5 : m_kd S12 q5 = 100 := by rw [eS12]; exact hk_q5
  have hk_q8 : m_kd S12 q8 = 100 := by rw [eS12]; exact hk_q8
  exact mj_retv dX8_init_41 rfl ⟨Nat.le_of_ble_eq_true rfl, Nat.le_of_ble_eq_true rfl⟩ h
abbrev V_X8_enter_0 (l : Launch) (G : mj_G) (a0 : Nat) (a1 : Nat) (S : mj_S) (Q : mj_S → Prop) : Prop := mj_V l G (mj_room 1 0 0) RX8 cX8_enter 2 none false 0 [some (.ref a0), some (.ref a1)] [] S 0 0 (mj_std G none (mj_room 1 0 0) (mj_qv Q))
theorem e_X8_enter {l : Launch} {G : mj_G} {a0 : Nat} {a1 : Nat} {S : mj_S} {Q : mj_S → Prop} (h : V_X8_enter_0 l G a0 a1 S Q) : M_X8_enter l G a0 a1 S Q := mj_enter (r := 0) (ini := false) (by decide +kernel) (fun h => by cases h) (fun _ => Nat.le_of_ble_eq_true rfl) rfl h
set_option maxRecDepth 20000 in
set_option maxHeartbeats 1000000 in
theorem b_X8_enter_0 {l : Launch} {G : mj_G} {a0 : Nat} {a1 : Nat} {S : mj_S} {Q : mj_S → Prop} (hk_a0 : m_kd S a0 = 7) (hk_a1 : m_kd S a1 = 5) (h : ∀ S1 : mj_S, S1 = m_sp S a0 0 (some a1) → ∃ b2, m_gp S1 a0 0 = some b2 ∧ (∃ b3, m_gp S1 b2 13 = some b3 ∧ (∃ b4, m_gp S1 a0 1 = some b4 ∧ ((¬ (0 : Int32) < 0 ∧ ¬ (0 : Int32) < 0 ∧ ¬ (10 : Int32) < 0 ∧ ((0 : Int32)).toNatClampNeg + ((10 : Int32)).toNatClampNeg ≤ m_ln S1 b3 ∧ ((0 : Int32)).toNatClampNeg + ((10 : Int32)).toNatClampNeg ≤ m_ln S1 b4) ∧ (∀ S5 : mj_S, S5 = m_row S1 b4 (va_cpy (m_gi S1 b3) (m_gi S1 b4) ((0 : Int32)).toNatClampNeg ((0 : Int32)).toNatClampNeg ((10 : Int32)).toNatClampNeg) → ∃ b6, m_gp S5 a0 0 = some b6 ∧ (∃ b7, m_gp S5 b6 17 = some b7 ∧ (∃ b8, m_gp S5 a0 2 = some b8 ∧ ((¬ (0 : Int32) < 0 ∧ ¬ (0 : Int32) < 0 ∧ ¬ (6 : Int32) < 0 ∧ ((0 : Int32)).toNatClampNeg + ((6 : Int32)).toNatClampNeg ≤ m_ln S5 b7 ∧ ((0 : Int32)).toNatClampNeg + ((6 : Int32)).toNatClampNeg ≤ m_ln S5 b8) ∧ (∀ S9 : mj_S, S9 = m_row S5 b8 (va_cpy (m_gi S5 b7) (m_gi S5 b8) ((0 : Int32)).toNatClampNeg ((0 : Int32)).toNatClampNeg ((6 : Int32)).toNatClampNeg) → ∃ b10, m_gp S9 a0 0 = some b10 ∧ (∀ S11 : mj_S, S11 = m_si S9 a0 3 (m_gi S9 b10 14) → ∀ S12 : mj_S, S12 = m_si S11 a0 4 (0 : Int32) → Q S12)))))))))) : V_X8_enter_0 l G a0 a1 S Q := by
  refine mj_aload_n dX8_enter_0 rfl rfl ?_
  refine mj_aload_n dX8_enter_1 rfl rfl ?_
  refine mj_putP dX8_enter_2 fl_X8_12_7 hk_a0 (Or.inl rfl) rfl hk_a1 (fun _ => rfl) (fun _ => rfl) ?_
  obtain ⟨S1, eS1⟩ : ∃ z, z = m_sp S a0 0 (some a1) := ⟨_, rfl⟩
  rw [← eS1]
  replace h := h S1 eS1
  have hk_a0 : m_kd S1 a0 = 7 := by rw [eS1]; exact hk_a0
  have hk_a1 : m_kd S1 a1 = 5 := by rw [eS1]; exact hk_a1
  refine mj_aload_n dX8_enter_5 rfl rfl ?_
  obtain ⟨b2, eb2, h⟩ := h
  refine mj_getP dX8_enter_6 fl_X8_12_7 hk_a0 rfl ⟨b2, eb2, fun hk_b2 => ?_⟩
  obtain ⟨b3, eb3, h⟩ := h
  refine mj_getP dX8_enter_9 fl_X8_32_5 hk_b2 rfl ⟨b3, eb3, fun hk_b3 => ?_⟩
  refine mj_iconst (v := 0) dX8_enter_12 (by decide) ?_
  refine mj_aload_n dX8_enter_13 rfl rfl ?_
  obtain ⟨b4, eb4, h⟩ := h
  refine mj_getP dX8_enter_14 fl_X8_18_7 hk_a0 rfl ⟨b4, eb4, fun hk_b4 => ?_⟩
  refine mj_iconst (v := 0) dX8_enter_17 (by decide) ?_
  refine mj_bipush (v := 10) dX8_enter_18 (by decide) ?_
  refine mj_copy (st := []) dX8_enter_20 ac_X8_35 (Or.inl hk_b3) hk_b4 h.1 (by decide) (Nat.le_of_ble_eq_true rfl) ?_
  replace h := h.2
  obtain ⟨S5, eS5⟩ : ∃ z, z = m_row S1 b4 (va_cpy (m_gi S1 b3) (m_gi S1 b4) ((0 : Int32)).toNatClampNeg ((0 : Int32)).toNatClampNeg ((10 : Int32)).toNatClampNeg) := ⟨_, rfl⟩
  rw [← eS5]
  replace h := h S5 eS5
  have hk_a0 : m_kd S5 a0 = 7 := by rw [eS5]; exact hk_a0
  have hk_a1 : m_kd S5 a1 = 5 := by rw [eS5]; exact hk_a1
  have hk_b2 : m_kd S5 b2 = 5 := by rw [eS5]; exact hk_b2
  have hk_b3 : m_kd S5 b3 = 100 := by rw [eS5]; exact hk_b3
  have hk_b4 : m_kd S5 b4 = 100 := by rw [eS5]; exact hk_b4
  refine mj_aload_n dX8_enter_23 rfl rfl ?_
  obtain ⟨b6, eb6, h⟩ := h
  refine mj_getP dX8_enter_24 fl_X8_12_7 hk_a0 rfl ⟨b6, eb6, fun hk_b6 => ?_⟩
  obtain ⟨b7, eb7, h⟩ := h
  refine mj_getP dX8_enter_27 fl_X8_41_5 hk_b6 rfl ⟨b7, eb7, fun hk_b7 => ?_⟩
  refine mj_iconst (v := 0) dX8_enter_30 (by decide) ?_
  refine mj_aload_n dX8_enter_31 rfl rfl ?_
  obtain ⟨b8, eb8, h⟩ := h
  refine mj_getP dX8_enter_32 fl_X8_22_7 hk_a0 rfl ⟨b8, eb8, fun hk_b8 => ?_⟩
  refine mj_iconst (v := 0) dX8_enter_35 (by decide) ?_
  refine mj_bipush (v := 6) dX8_enter_36 (by decide) ?_
  refine mj_copy (st := []) dX8_enter_38 ac_X8_35 (Or.inl hk_b7) hk_b8 h.1 (by decide) (Nat.le_of_ble_eq_true rfl) ?_
  replace h := h.2
  obtain ⟨S9, eS9⟩ : ∃ z, z = m_row S5 b8 (va_cpy (m_gi S5 b7) (m_gi S5 b8) ((0 : Int32)).toNatClampNeg ((0 : Int32)).toNatClampNeg ((6 : Int32)).toNatClampNeg) := ⟨_, rfl⟩
  rw [← eS9]
  replace h := h S9 eS9
  have hk_a0 : m_kd S9 a0 = 7 := by rw [eS9]; exact hk_a0
  have hk_a1 : m_kd S9 a1 = 5 := by rw [eS9]; exact hk_a1
  have hk_b2 : m_kd S9 b2 = 5 := by rw [eS9]; exact hk_b2
  have hk_b3 : m_kd S9 b3 = 100 := by rw [eS9]; exact hk_b3
  have hk_b4 : m_kd S9 b4 = 100 := by rw [eS9]; exact hk_b4
  have hk_b6 : m_kd S9 b6 = 5 := by rw [eS9]; exact hk_b6
  have hk_b7 : m_kd S9 b7 = 100 := by rw [eS9]; exact hk_b7
  have hk_b8 : m_kd S9 b8 = 100 := by rw [eS9]; exact hk_b8
  refine mj_aload_n dX8_enter_41 rfl rfl ?_
  refine mj_aload_n dX8_enter_42 rfl rfl ?_
  obtain ⟨b10, eb10, h⟩ := h
  refine mj_getP dX8_enter_43 fl_X8_12_7 hk_a0 rfl ⟨b10, eb10, fun hk_b10 => ?_⟩
  refine mj_getI dX8_enter_46 fl_X8_44_5 hk_b10 rfl ?_
  refine mj_putI dX8_enter_49 fl_X8_25_7 hk_a0 (Or.inl rfl) rfl rfl rfl ?_
  obtain ⟨S11, eS11⟩ : ∃ z, z = m_si S9 a0 3 (m_gi S9 b10 14) := ⟨_, rfl⟩
  rw [← eS11]
  replace h := h S11 eS11
  have hk_a0 : m_kd S11 a0 = 7 := by rw [eS11]; exact hk_a0
  have hk_a1 : m_kd S11 a1 = 5 := by rw [eS11]; exact hk_a1
  have hk_b2 : m_kd S11 b2 = 5 := by rw [eS11]; exact hk_b2
  have hk_b3 : m_kd S11 b3 = 100 := by rw [eS11]; exact hk_b3
  have hk_b4 : m_kd S11 b4 = 100 := by rw [eS11]; exact hk_b4
  have hk_b6 : m_kd S11 b6 = 5 := by rw [eS11]; exact hk_b6
  have hk_b7 : m_kd S11 b7 = 100 := by rw [eS11]; exact hk_b7
  have hk_b8 : m_kd S11 b8 = 100 := by rw [eS11]; exact hk_b8
  have hk_b10 : m_kd S11 b10 = 5 := by rw [eS11]; exact hk_b10
  refine mj_aload_n dX8_enter_52 rfl rfl ?_
  refine mj_iconst (v := 0) dX8_enter_53 (by decide) ?_
  refine mj_putI dX8_enter_54 fl_X8_29_7 hk_a0 (Or.inl rfl) rfl rfl rfl ?_
  obtain ⟨S12, eS12⟩ : ∃ z, z = m_si S11 a0 4 (0 : Int32) := ⟨_, rfl⟩
  rw [← eS12]
  replace h := h S12 eS12
  have hk_a0 : m_kd S12 a0 = 7 := by rw [eS12]; exact hk_a0
  have hk_a1 : m_kd S12 a1 = 5 := by rw [eS12]; exact hk_a1
  have hk_b2 : m_kd S12 b2 = 5 := by rw [eS12]; exact hk_b2
  have hk_b3 : m_kd S12 b3 = 100 := by rw [eS12]; exact hk_b3
  have hk_b4 : m_kd S12 b4 = 100 := by rw [eS12]; exact hk_b4
  have hk_b6 : m_kd S12 b6 = 5 := by rw [eS12]; exact hk_b6
  have hk_b7 : m_kd S12 b7 = 100 := by rw [eS12]; exact hk_b7
  have hk_b8 : m_kd S12 b8 = 100 := by rw [eS12]; exact hk_b8
  have hk_b10 : m_kd S12 b10 = 5 := by rw [eS12]; exact hk_b10
  exact mj_retv dX8_enter_57 rfl ⟨Nat.le_of_ble_eq_true rfl, Nat.le_of_ble_eq_true rfl⟩ h
abbrev V_X8_follow_0 (l : Launch) (G : mj_G) (a0 : Nat) (a1 : Nat) (S : mj_S) (Q : mj_S → Prop) : Prop := mj_V l G (mj_room 1 0 0) RX8 cX8_follow 2 none false 0 [some (.ref a0), some (.ref a1)] [] S 0 0 (mj_std G none (mj_room 1 0 0) (mj_qv Q))
theorem e_X8_follow {l : Launch} {G : mj_G} {a0 : Nat} {a1 : Nat} {S : mj_S} {Q : mj_S → Prop} (h : V_X8_follow_0 l G a0 a1 S Q) : M_X8_follow l G a0 a1 S Q := mj_enter (r := 0) (ini := false) (by decide +kernel) (fun h => by cases h) (fun _ => Nat.le_of_ble_eq_true rfl) rfl h
set_option maxRecDepth 20000 in
set_option maxHeartbeats 1000000 in
theorem b_X8_follow_0 {l : Launch} {G : mj_G} {a0 : Nat} {a1 : Nat} {S : mj_S} {Q : mj_S → Prop} (hk_a0 : m_kd S a0 = 7) (hk_a1 : m_kd S a1 = 7) (h : ∃ b1, m_gp S a1 0 = some b1 ∧ (∀ S2 : mj_S, S2 = m_sp S a0 0 (some b1) → ∃ b3, m_gp S2 a1 1 = some b3 ∧ (∃ b4, m_gp S2 a0 1 = some b4 ∧ ((¬ (0 : Int32) < 0 ∧ ¬ (0 : Int32) < 0 ∧ ¬ (10 : Int32) < 0 ∧ ((0 : Int32)).toNatClampNeg + ((10 : Int32)).toNatClampNeg ≤ m_ln S2 b3 ∧ ((0 : Int32)).toNatClampNeg + ((10 : Int32)).toNatClampNeg ≤ m_ln S2 b4) ∧ (∀ S5 : mj_S, S5 = m_row S2 b4 (va_cpy (m_gi S2 b3) (m_gi S2 b4) ((0 : Int32)).toNatClampNeg ((0 : Int32)).toNatClampNeg ((10 : Int32)).toNatClampNeg) → ∃ b6, m_gp S5 a1 2 = some b6 ∧ (∃ b7, m_gp S5 a0 2 = some b7 ∧ ((¬ (0 : Int32) < 0 ∧ ¬ (0 : Int32) < 0 ∧ ¬ (6 : Int32) < 0 ∧ ((0 : Int32)).toNatClampNeg + ((6 : Int32)).toNatClampNeg ≤ m_ln S5 b6 ∧ ((0 : Int32)).toNatClampNeg + ((6 : Int32)).toNatClampNeg ≤ m_ln S5 b7) ∧ (∀ S8 : mj_S, S8 = m_row S5 b7 (va_cpy (m_gi S5 b6) (m_gi S5 b7) ((0 : Int32)).toNatClampNeg ((0 : Int32)).toNatClampNeg ((6 : Int32)).toNatClampNeg) → ∀ S9 : mj_S, S9 = m_si S8 a0 3 (m_gi S8 a1 3) → ∀ S10 : mj_S, S10 = m_si S9 a0 4 (m_gi S9 a1 4) → Q S10)))))))) : V_X8_follow_0 l G a0 a1 S Q := by
  refine mj_aload_n dX8_follow_0 rfl rfl ?_
  refine mj_aload_n dX8_follow_1 rfl rfl ?_
  obtain ⟨b1, eb1, h⟩ := h
  refine mj_getP dX8_follow_2 fl_X8_12_7 hk_a1 rfl ⟨b1, eb1, fun hk_b1 => ?_⟩
  refine mj_putP dX8_follow_5 fl_X8_12_7 hk_a0 (Or.inl rfl) rfl hk_b1 (fun _ => rfl) (fun _ => rfl) ?_
  obtain ⟨S2, eS2⟩ : ∃ z, z = m_sp S a0 0 (some b1) := ⟨_, rfl⟩
  rw [← eS2]
  replace h := h S2 eS2
  have hk_a0 : m_kd S2 a0 = 7 := by rw [eS2]; exact hk_a0
  have hk_a1 : m_kd S2 a1 = 7 := by rw [eS2]; exact hk_a1
  have hk_b1 : m_kd S2 b1 = 5 := by rw [eS2]; exact hk_b1
  refine mj_aload_n dX8_follow_8 rfl rfl ?_
  obtain ⟨b3, eb3, h⟩ := h
  refine mj_getP dX8_follow_9 fl_X8_18_7 hk_a1 rfl ⟨b3, eb3, fun hk_b3 => ?_⟩
  refine mj_iconst (v := 0) dX8_follow_12 (by decide) ?_
  refine mj_aload_n dX8_follow_13 rfl rfl ?_
  obtain ⟨b4, eb4, h⟩ := h
  refine mj_getP dX8_follow_14 fl_X8_18_7 hk_a0 rfl ⟨b4, eb4, fun hk_b4 => ?_⟩
  refine mj_iconst (v := 0) dX8_follow_17 (by decide) ?_
  refine mj_bipush (v := 10) dX8_follow_18 (by decide) ?_
  refine mj_copy (st := []) dX8_follow_20 ac_X8_35 (Or.inl hk_b3) hk_b4 h.1 (by decide) (Nat.le_of_ble_eq_true rfl) ?_
  replace h := h.2
  obtain ⟨S5, eS5⟩ : ∃ z, z = m_row S2 b4 (va_cpy (m_gi S2 b3) (m_gi S2 b4) ((0 : Int32)).toNatClampNeg ((0 : Int32)).toNatClampNeg ((10 : Int32)).toNatClampNeg) := ⟨_, rfl⟩
  rw [← eS5]
  replace h := h S5 eS5
  have hk_a0 : m_kd S5 a0 = 7 := by rw [eS5]; exact hk_a0
  have hk_a1 : m_kd S5 a1 = 7 := by rw [eS5]; exact hk_a1
  have hk_b1 : m_kd S5 b1 = 5 := by rw [eS5]; exact hk_b1
  have hk_b3 : m_kd S5 b3 = 100 := by rw [eS5]; exact hk_b3
  have hk_b4 : m_kd S5 b4 = 100 := by rw [eS5]; exact hk_b4
  refine mj_aload_n dX8_follow_23 rfl rfl ?_
  obtain ⟨b6, eb6, h⟩ := h
  refine mj_getP dX8_follow_24 fl_X8_22_7 hk_a1 rfl ⟨b6, eb6, fun hk_b6 => ?_⟩
  refine mj_iconst (v := 0) dX8_follow_27 (by decide) ?_
  refine mj_aload_n dX8_follow_28 rfl rfl ?_
  obtain ⟨b7, eb7, h⟩ := h
  refine mj_getP dX8_follow_29 fl_X8_22_7 hk_a0 rfl ⟨b7, eb7, fun hk_b7 => ?_⟩
  refine mj_iconst (v := 0) dX8_follow_32 (by decide) ?_
  refine mj_bipush (v := 6) dX8_follow_33 (by decide) ?_
  refine mj_copy (st := []) dX8_follow_35 ac_X8_35 (Or.inl hk_b6) hk_b7 h.1 (by decide) (Nat.le_of_ble_eq_true rfl) ?_
  replace h := h.2
  obtain ⟨S8, eS8⟩ : ∃ z, z = m_row S5 b7 (va_cpy (m_gi S5 b6) (m_gi S5 b7) ((0 : Int32)).toNatClampNeg ((0 : Int32)).toNatClampNeg ((6 : Int32)).toNatClampNeg) := ⟨_, rfl⟩
  rw [← eS8]
  replace h := h S8 eS8
  have hk_a0 : m_kd S8 a0 = 7 := by rw [eS8]; exact hk_a0
  have hk_a1 : m_kd S8 a1 = 7 := by rw [eS8]; exact hk_a1
  have hk_b1 : m_kd S8 b1 = 5 := by rw [eS8]; exact hk_b1
  have hk_b3 : m_kd S8 b3 = 100 := by rw [eS8]; exact hk_b3
  have hk_b4 : m_kd S8 b4 = 100 := by rw [eS8]; exact hk_b4
  have hk_b6 : m_kd S8 b6 = 100 := by rw [eS8]; exact hk_b6
  have hk_b7 : m_kd S8 b7 = 100 := by rw [eS8]; exact hk_b7
  refine mj_aload_n dX8_follow_38 rfl rfl ?_
  refine mj_aload_n dX8_follow_39 rfl rfl ?_
  refine mj_getI dX8_follow_40 fl_X8_25_7 hk_a1 rfl ?_
  refine mj_putI dX8_follow_43 fl_X8_25_7 hk_a0 (Or.inl rfl) rfl rfl rfl ?_
  obtain ⟨S9, eS9⟩ : ∃ z, z = m_si S8 a0 3 (m_gi S8 a1 3) := ⟨_, rfl⟩
  rw [← eS9]
  replace h := h S9 eS9
  have hk_a0 : m_kd S9 a0 = 7 := by rw [eS9]; exact hk_a0
  have hk_a1 : m_kd S9 a1 = 7 := by rw [eS9]; exact hk_a1
  have hk_b1 : m_kd S9 b1 = 5 := by rw [eS9]; exact hk_b1
  have hk_b3 : m_kd S9 b3 = 100 := by rw [eS9]; exact hk_b3
  have hk_b4 : m_kd S9 b4 = 100 := by rw [eS9]; exact hk_b4
  have hk_b6 : m_kd S9 b6 = 100 := by rw [eS9]; exact hk_b6
  have hk_b7 : m_kd S9 b7 = 100 := by rw [eS9]; exact hk_b7
  refine mj_aload_n dX8_follow_46 rfl rfl ?_
  refine mj_aload_n dX8_follow_47 rfl rfl ?_
  refine mj_getI dX8_follow_48 fl_X8_29_7 hk_a1 rfl ?_
  refine mj_putI dX8_follow_51 fl_X8_29_7 hk_a0 (Or.inl rfl) rfl rfl rfl ?_
  obtain ⟨S10, eS10⟩ : ∃ z, z = m_si S9 a0 4 (m_gi S9 a1 4) := ⟨_, rfl⟩
  rw [← eS10]
  replace h := h S10 eS10
  have hk_a0 : m_kd S10 a0 = 7 := by rw [eS10]; exact hk_a0
  have hk_a1 : m_kd S10 a1 = 7 := by rw [eS10]; exact hk_a1
  have hk_b1 : m_kd S10 b1 = 5 := by rw [eS10]; exact hk_b1
  have hk_b3 : m_kd S10 b3 = 100 := by rw [eS10]; exact hk_b3
  have hk_b4 : m_kd S10 b4 = 100 := by rw [eS10]; exact hk_b4
  have hk_b6 : m_kd S10 b6 = 100 := by rw [eS10]; exact hk_b6
  have hk_b7 : m_kd S10 b7 = 100 := by rw [eS10]; exact hk_b7
  exact mj_retv dX8_follow_54 rfl ⟨Nat.le_of_ble_eq_true rfl, Nat.le_of_ble_eq_true rfl⟩ h
abbrev V_X8_save_0 (l : Launch) (G : mj_G) (a0 : Nat) (a1 : Nat) (x2 : Int32) (S : mj_S) (Q : mj_S → Prop) : Prop := mj_V l G (mj_room 2 0 0) RX8 cX8_save 3 none false 0 [some (.ref a0), some (.ref a1), some (.int x2)] [] S 0 0 (mj_std G none (mj_room 2 0 0) (mj_qv Q))
theorem e_X8_save {l : Launch} {G : mj_G} {a0 : Nat} {a1 : Nat} {x2 : Int32} {S : mj_S} {Q : mj_S → Prop} (h : V_X8_save_0 l G a0 a1 x2 S Q) : M_X8_save l G a0 a1 x2 S Q := mj_enter (r := 0) (ini := false) (by decide +kernel) (fun h => by cases h) (fun _ => Nat.le_of_ble_eq_true rfl) rfl h
set_option maxRecDepth 20000 in
set_option maxHeartbeats 1000000 in
theorem b_X8_save_0 {l : Launch} {G : mj_G} {a0 : Nat} {a1 : Nat} {x2 : Int32} {S : mj_S} {Q : mj_S → Prop} (hk_a0 : m_kd S a0 = 7) (hk_a1 : m_kd S a1 = 100) (h : M_X10_within l G x2 (0 : Int32) ((Int32.ofNat (m_ln S a1)) - (18 : Int32)) S (fun S1 r2 => ((¬ r2 = 0) → ∃ b3, m_gp S1 a0 1 = some b3 ∧ ((¬ (0 : Int32) < 0 ∧ ¬ x2 < 0 ∧ ¬ (10 : Int32) < 0 ∧ ((0 : Int32)).toNatClampNeg + ((10 : Int32)).toNatClampNeg ≤ m_ln S1 b3 ∧ (x2).toNatClampNeg + ((10 : Int32)).toNatClampNeg ≤ m_ln S1 a1) ∧ (∀ S4 : mj_S, S4 = m_row S1 a1 (va_cpy (m_gi S1 b3) (m_gi S1 a1) ((0 : Int32)).toNatClampNeg (x2).toNatClampNeg ((10 : Int32)).toNatClampNeg) → ∃ b5, m_gp S4 a0 2 = some b5 ∧ ((¬ (0 : Int32) < 0 ∧ ¬ (x2 + (10 : Int32)) < 0 ∧ ¬ (6 : Int32) < 0 ∧ ((0 : Int32)).toNatClampNeg + ((6 : Int32)).toNatClampNeg ≤ m_ln S4 b5 ∧ ((x2 + (10 : Int32))).toNatClampNeg + ((6 : Int32)).toNatClampNeg ≤ m_ln S4 a1) ∧ (∀ S6 : mj_S, S6 = m_row S4 a1 (va_cpy (m_gi S4 b5) (m_gi S4 a1) ((0 : Int32)).toNatClampNeg ((x2 + (10 : Int32))).toNatClampNeg ((6 : Int32)).toNatClampNeg) → vp_in ((x2 + (18 : Int32)) - (2 : Int32)) (m_ln S6 a1) ∧ (∀ S7 : mj_S, S7 = m_si S6 a1 (((x2 + (18 : Int32)) - (2 : Int32))).toNatClampNeg (m_gi S6 a0 3) → vp_in ((x2 + (18 : Int32)) - (1 : Int32)) (m_ln S7 a1) ∧ (∀ S8 : mj_S, S8 = m_si S7 a1 (((x2 + (18 : Int32)) - (1 : Int32))).toNatClampNeg (m_gi S7 a0 4) → Q S8))))))) ∧ ((r2 = 0) → Q S1))) : V_X8_save_0 l G a0 a1 x2 S Q := by
  refine mj_iload_n dX8_save_0 rfl rfl ?_
  refine mj_iconst (v := 0) dX8_save_1 (by decide) ?_
  refine mj_aload_n dX8_save_2 rfl rfl ?_
  refine mj_alen dX8_save_3 (Or.inl hk_a1) ?_
  refine mj_bipush (v := 18) dX8_save_4 (by decide) ?_
  refine mj_isub dX8_save_6 ?_
  refine mj_callNi (as := [.int x2, .int (0 : Int32), .int ((Int32.ofNat (m_ln S a1)) - (18 : Int32))]) (st := []) dX8_save_7 cal_X10_within ln_X8_47 sm_X10_within h rfl (Nat.le_of_ble_eq_true rfl) (by decide) ⟨Nat.le_of_ble_eq_true rfl, Nat.le_of_ble_eq_true rfl⟩ (fun S1 r2 h hn_r2 hp => ?_)
  have hk_a0 : m_kd S1 a0 = 7 := m_kd_pre hp hk_a0 (by decide)
  have hk_a1 : m_kd S1 a1 = 100 := m_kd_pre hp hk_a1 (by decide)
  refine mj_if_ne (tgt := 14) dX8_save_10 (by decide) ⟨fun hc => ?_, fun hc => ?_⟩
  · replace h := h.1 hc
    refine mj_aload_n dX8_save_14 rfl rfl ?_
    obtain ⟨b3, eb3, h⟩ := h
    refine mj_getP dX8_save_15 fl_X8_18_7 hk_a0 rfl ⟨b3, eb3, fun hk_b3 => ?_⟩
    refine mj_iconst (v := 0) dX8_save_18 (by decide) ?_
    refine mj_aload_n dX8_save_19 rfl rfl ?_
    refine mj_iload_n dX8_save_20 rfl rfl ?_
    refine mj_bipush (v := 10) dX8_save_21 (by decide) ?_
    refine mj_copy (st := []) dX8_save_23 ac_X8_35 (Or.inl hk_b3) hk_a1 h.1 (by decide) (Nat.le_of_ble_eq_true rfl) ?_
    replace h := h.2
    obtain ⟨S4, eS4⟩ : ∃ z, z = m_row S1 a1 (va_cpy (m_gi S1 b3) (m_gi S1 a1) ((0 : Int32)).toNatClampNeg (x2).toNatClampNeg ((10 : Int32)).toNatClampNeg) := ⟨_, rfl⟩
    rw [← eS4]
    replace h := h S4 eS4
    have hk_a0 : m_kd S4 a0 = 7 := by rw [eS4]; exact hk_a0
    have hk_a1 : m_kd S4 a1 = 100 := by rw [eS4]; exact hk_a1
    have hk_b3 : m_kd S4 b3 = 100 := by rw [eS4]; exact hk_b3
    refine mj_aload_n dX8_save_26 rfl rfl ?_
    obtain ⟨b5, eb5, h⟩ := h
    refine mj_getP dX8_save_27 fl_X8_22_7 hk_a0 rfl ⟨b5, eb5, fun hk_b5 => ?_⟩
    refine mj_iconst (v := 0) dX8_save_30 (by decide) ?_
    refine mj_aload_n dX8_save_31 rfl rfl ?_
    refine mj_iload_n dX8_save_32 rfl rfl ?_
    refine mj_bipush (v := 10) dX8_save_33 (by decide) ?_
    refine mj_iadd dX8_save_35 ?_
    refine mj_bipush (v := 6) dX8_save_36 (by decide) ?_
    refine mj_copy (st := []) dX8_save_38 ac_X8_35 (Or.inl hk_b5) hk_a1 h.1 (by decide) (Nat.le_of_ble_eq_true rfl) ?_
    replace h := h.2
    obtain ⟨S6, eS6⟩ : ∃ z, z = m_row S4 a1 (va_cpy (m_gi S4 b5) (m_gi S4 a1) ((0 : Int32)).toNatClampNeg ((x2 + (10 : Int32))).toNatClampNeg ((6 : Int32)).toNatClampNeg) := ⟨_, rfl⟩
    rw [← eS6]
    replace h := h S6 eS6
    have hk_a0 : m_kd S6 a0 = 7 := by rw [eS6]; exact hk_a0
    have hk_a1 : m_kd S6 a1 = 100 := by rw [eS6]; exact hk_a1
    have hk_b3 : m_kd S6 b3 = 100 := by rw [eS6]; exact hk_b3
    have hk_b5 : m_kd S6 b5 = 100 := by rw [eS6]; exact hk_b5
    refine mj_aload_n dX8_save_41 rfl rfl ?_
    refine mj_iload_n dX8_save_42 rfl rfl ?_
    refine mj_bipush (v := 18) dX8_save_43 (by decide) ?_
    refine mj_iadd dX8_save_45 ?_
    refine mj_iconst (v := 2) dX8_save_46 (by decide) ?_
    refine mj_isub dX8_save_47 ?_
    refine mj_aload_n dX8_save_48 rfl rfl ?_
    refine mj_getI dX8_save_49 fl_X8_25_7 hk_a0 rfl ?_
    refine mj_iast dX8_save_52 hk_a1 ⟨h.1, ?_⟩
    replace h := h.2
    obtain ⟨S7, eS7⟩ : ∃ z, z = m_si S6 a1 (((x2 + (18 : Int32)) - (2 : Int32))).toNatClampNeg (m_gi S6 a0 3) := ⟨_, rfl⟩
    rw [← eS7]
    replace h := h S7 eS7
    have hk_a0 : m_kd S7 a0 = 7 := by rw [eS7]; exact hk_a0
    have hk_a1 : m_kd S7 a1 = 100 := by rw [eS7]; exact hk_a1
    have hk_b3 : m_kd S7 b3 = 100 := by rw [eS7]; exact hk_b3
    have hk_b5 : m_kd S7 b5 = 100 := by rw [eS7]; exact hk_b5
    refine mj_aload_n dX8_save_53 rfl rfl ?_
    refine mj_iload_n dX8_save_54 rfl rfl ?_
    refine mj_bipush (v := 18) dX8_save_55 (by decide) ?_
    refine mj_iadd dX8_save_57 ?_
    refine mj_iconst (v := 1) dX8_save_58 (by decide) ?_
    refine mj_isub dX8_save_59 ?_
    refine mj_aload_n dX8_save_60 rfl rfl ?_
    refine mj_getI dX8_save_61 fl_X8_29_7 hk_a0 rfl ?_
    refine mj_iast dX8_save_64 hk_a1 ⟨h.1, ?_⟩
    replace h := h.2
    obtain ⟨S8, eS8⟩ : ∃ z, z = m_si S7 a1 (((x2 + (18 : Int32)) - (1 : Int32))).toNatClampNeg (m_gi S7 a0 4) := ⟨_, rfl⟩
    rw [← eS8]
    replace h := h S8 eS8
    have hk_a0 : m_kd S8 a0 = 7 := by rw [eS8]; exact hk_a0
    have hk_a1 : m_kd S8 a1 = 100 := by rw [eS8]; exact hk_a1
    have hk_b3 : m_kd S8 b3 = 100 := by rw [eS8]; exact hk_b3
    have hk_b5 : m_kd S8 b5 = 100 := by rw [eS8]; exact hk_b5
    exact mj_retv dX8_save_65 rfl ⟨Nat.le_of_ble_eq_true rfl, Nat.le_of_ble_eq_true rfl⟩ h
  · replace h := h.2 hc
    exact mj_retv dX8_save_13 rfl ⟨Nat.le_of_ble_eq_true rfl, Nat.le_of_ble_eq_true rfl⟩ h
abbrev V_X8_load_0 (l : Launch) (G : mj_G) (a0 : Nat) (a1 : Nat) (x2 : Int32) (S : mj_S) (Q : mj_S → Prop) : Prop := mj_V l G (mj_room 2 0 0) RX8 cX8_load 3 none false 0 [some (.ref a0), some (.ref a1), some (.int x2)] [] S 0 0 (mj_std G none (mj_room 2 0 0) (mj_qv Q))
theorem e_X8_load {l : Launch} {G : mj_G} {a0 : Nat} {a1 : Nat} {x2 : Int32} {S : mj_S} {Q : mj_S → Prop} (h : V_X8_load_0 l G a0 a1 x2 S Q) : M_X8_load l G a0 a1 x2 S Q := mj_enter (r := 0) (ini := false) (by decide +kernel) (fun h => by cases h) (fun _ => Nat.le_of_ble_eq_true rfl) rfl h
set_option maxRecDepth 20000 in
set_option maxHeartbeats 1000000 in
theorem b_X8_load_0 {l : Launch} {G : mj_G} {a0 : Nat} {a1 : Nat} {x2 : Int32} {S : mj_S} {Q : mj_S → Prop} (hk_a0 : m_kd S a0 = 7) (hk_a1 : m_kd S a1 = 100) (h : M_X10_within l G x2 (0 : Int32) ((Int32.ofNat (m_ln S a1)) - (18 : Int32)) S (fun S1 r2 => ((¬ r2 = 0) → ∃ b3, m_gp S1 a0 1 = some b3 ∧ ((¬ x2 < 0 ∧ ¬ (0 : Int32) < 0 ∧ ¬ (10 : Int32) < 0 ∧ (x2).toNatClampNeg + ((10 : Int32)).toNatClampNeg ≤ m_ln S1 a1 ∧ ((0 : Int32)).toNatClampNeg + ((10 : Int32)).toNatClampNeg ≤ m_ln S1 b3) ∧ (∀ S4 : mj_S, S4 = m_row S1 b3 (va_cpy (m_gi S1 a1) (m_gi S1 b3) (x2).toNatClampNeg ((0 : Int32)).toNatClampNeg ((10 : Int32)).toNatClampNeg) → ∃ b5, m_gp S4 a0 2 = some b5 ∧ ((¬ (x2 + (10 : Int32)) < 0 ∧ ¬ (0 : Int32) < 0 ∧ ¬ (6 : Int32) < 0 ∧ ((x2 + (10 : Int32))).toNatClampNeg + ((6 : Int32)).toNatClampNeg ≤ m_ln S4 a1 ∧ ((0 : Int32)).toNatClampNeg + ((6 : Int32)).toNatClampNeg ≤ m_ln S4 b5) ∧ (∀ S6 : mj_S, S6 = m_row S4 b5 (va_cpy (m_gi S4 a1) (m_gi S4 b5) ((x2 + (10 : Int32))).toNatClampNeg ((0 : Int32)).toNatClampNeg ((6 : Int32)).toNatClampNeg) → vp_in ((x2 + (18 : Int32)) - (2 : Int32)) (m_ln S6 a1) ∧ (∀ S7 : mj_S, S7 = m_si S6 a0 3 (m_gi S6 a1 (((x2 + (18 : Int32)) - (2 : Int32))).toNatClampNeg) → vp_in ((x2 + (18 : Int32)) - (1 : Int32)) (m_ln S7 a1) ∧ (∀ S8 : mj_S, S8 = m_si S7 a0 4 (m_gi S7 a1 (((x2 + (18 : Int32)) - (1 : Int32))).toNatClampNeg) → Q S8))))))) ∧ ((r2 = 0) → Q S1))) : V_X8_load_0 l G a0 a1 x2 S Q := by
  refine mj_iload_n dX8_load_0 rfl rfl ?_
  refine mj_iconst (v := 0) dX8_load_1 (by decide) ?_
  refine mj_aload_n dX8_load_2 rfl rfl ?_
  refine mj_alen dX8_load_3 (Or.inl hk_a1) ?_
  refine mj_bipush (v := 18) dX8_load_4 (by decide) ?_
  refine mj_isub dX8_load_6 ?_
  refine mj_callNi (as := [.int x2, .int (0 : Int32), .int ((Int32.ofNat (m_ln S a1)) - (18 : Int32))]) (st := []) dX8_load_7 cal_X10_within ln_X8_47 sm_X10_within h rfl (Nat.le_of_ble_eq_true rfl) (by decide) ⟨Nat.le_of_ble_eq_true rfl, Nat.le_of_ble_eq_true rfl⟩ (fun S1 r2 h hn_r2 hp => ?_)
  have hk_a0 : m_kd S1 a0 = 7 := m_kd_pre hp hk_a0 (by decide)
  have hk_a1 : m_kd S1 a1 = 100 := m_kd_pre hp hk_a1 (by decide)
  refine mj_if_ne (tgt := 14) dX8_load_10 (by decide) ⟨fun hc => ?_, fun hc => ?_⟩
  · replace h := h.1 hc
    refine mj_aload_n dX8_load_14 rfl rfl ?_
    refine mj_iload_n dX8_load_15 rfl rfl ?_
    refine mj_aload_n dX8_load_16 rfl rfl ?_
    obtain ⟨b3, eb3, h⟩ := h
    refine mj_getP dX8_load_17 fl_X8_18_7 hk_a0 rfl ⟨b3, eb3, fun hk_b3 => ?_⟩
    refine mj_iconst (v := 0) dX8_load_20 (by decide) ?_
    refine mj_bipush (v := 10) dX8_load_21 (by decide) ?_
    refine mj_copy (st := []) dX8_load_23 ac_X8_35 (Or.inl hk_a1) hk_b3 h.1 (by decide) (Nat.le_of_ble_eq_true rfl) ?_
    replace h := h.2
    obtain ⟨S4, eS4⟩ : ∃ z, z = m_row S1 b3 (va_cpy (m_gi S1 a1) (m_gi S1 b3) (x2).toNatClampNeg ((0 : Int32)).toNatClampNeg ((10 : Int32)).toNatClampNeg) := ⟨_, rfl⟩
    rw [← eS4]
    replace h := h S4 eS4
    have hk_a0 : m_kd S4 a0 = 7 := by rw [eS4]; exact hk_a0
    have hk_a1 : m_kd S4 a1 = 100 := by rw [eS4]; exact hk_a1
    have hk_b3 : m_kd S4 b3 = 100 := by rw [eS4]; exact hk_b3
    refine mj_aload_n dX8_load_26 rfl rfl ?_
    refine mj_iload_n dX8_load_27 rfl rfl ?_
    refine mj_bipush (v := 10) dX8_load_28 (by decide) ?_
    refine mj_iadd dX8_load_30 ?_
    refine mj_aload_n dX8_load_31 rfl rfl ?_
    obtain ⟨b5, eb5, h⟩ := h
    refine mj_getP dX8_load_32 fl_X8_22_7 hk_a0 rfl ⟨b5, eb5, fun hk_b5 => ?_⟩
    refine mj_iconst (v := 0) dX8_load_35 (by decide) ?_
    refine mj_bipush (v := 6) dX8_load_36 (by decide) ?_
    refine mj_copy (st := []) dX8_load_38 ac_X8_35 (Or.inl hk_a1) hk_b5 h.1 (by decide) (Nat.le_of_ble_eq_true rfl) ?_
    replace h := h.2
    obtain ⟨S6, eS6⟩ : ∃ z, z = m_row S4 b5 (va_cpy (m_gi S4 a1) (m_gi S4 b5) ((x2 + (10 : Int32))).toNatClampNeg ((0 : Int32)).toNatClampNeg ((6 : Int32)).toNatClampNeg) := ⟨_, rfl⟩
    rw [← eS6]
    replace h := h S6 eS6
    have hk_a0 : m_kd S6 a0 = 7 := by rw [eS6]; exact hk_a0
    have hk_a1 : m_kd S6 a1 = 100 := by rw [eS6]; exact hk_a1
    have hk_b3 : m_kd S6 b3 = 100 := by rw [eS6]; exact hk_b3
    have hk_b5 : m_kd S6 b5 = 100 := by rw [eS6]; exact hk_b5
    refine mj_aload_n dX8_load_41 rfl rfl ?_
    refine mj_aload_n dX8_load_42 rfl rfl ?_
    refine mj_iload_n dX8_load_43 rfl rfl ?_
    refine mj_bipush (v := 18) dX8_load_44 (by decide) ?_
    refine mj_iadd dX8_load_46 ?_
    refine mj_iconst (v := 2) dX8_load_47 (by decide) ?_
    refine mj_isub dX8_load_48 ?_
    refine mj_iald dX8_load_49 (Or.inl hk_a1) ⟨h.1, ?_⟩
    replace h := h.2
    refine mj_putI dX8_load_50 fl_X8_25_7 hk_a0 (Or.inl rfl) rfl rfl rfl ?_
    obtain ⟨S7, eS7⟩ : ∃ z, z = m_si S6 a0 3 (m_gi S6 a1 (((x2 + (18 : Int32)) - (2 : Int32))).toNatClampNeg) := ⟨_, rfl⟩
    rw [← eS7]
    replace h := h S7 eS7
    have hk_a0 : m_kd S7 a0 = 7 := by rw [eS7]; exact hk_a0
    have hk_a1 : m_kd S7 a1 = 100 := by rw [eS7]; exact hk_a1
    have hk_b3 : m_kd S7 b3 = 100 := by rw [eS7]; exact hk_b3
    have hk_b5 : m_kd S7 b5 = 100 := by rw [eS7]; exact hk_b5
    refine mj_aload_n dX8_load_53 rfl rfl ?_
    refine mj_aload_n dX8_load_54 rfl rfl ?_
    refine mj_iload_n dX8_load_55 rfl rfl ?_
    refine mj_bipush (v := 18) dX8_load_56 (by decide) ?_
    refine mj_iadd dX8_load_58 ?_
    refine mj_iconst (v := 1) dX8_load_59 (by decide) ?_
    refine mj_isub dX8_load_60 ?_
    refine mj_iald dX8_load_61 (Or.inl hk_a1) ⟨h.1, ?_⟩
    replace h := h.2
    refine mj_putI dX8_load_62 fl_X8_29_7 hk_a0 (Or.inl rfl) rfl rfl rfl ?_
    obtain ⟨S8, eS8⟩ : ∃ z, z = m_si S7 a0 4 (m_gi S7 a1 (((x2 + (18 : Int32)) - (1 : Int32))).toNatClampNeg) := ⟨_, rfl⟩
    rw [← eS8]
    replace h := h S8 eS8
    have hk_a0 : m_kd S8 a0 = 7 := by rw [eS8]; exact hk_a0
    have hk_a1 : m_kd S8 a1 = 100 := by rw [eS8]; exact hk_a1
    have hk_b3 : m_kd S8 b3 = 100 := by rw [eS8]; exact hk_b3
    have hk_b5 : m_kd S8 b5 = 100 := by rw [eS8]; exact hk_b5
    exact mj_retv dX8_load_65 rfl ⟨Nat.le_of_ble_eq_true rfl, Nat.le_of_ble_eq_true rfl⟩ h
  · replace h := h.2 hc
    exact mj_retv dX8_load_13 rfl ⟨Nat.le_of_ble_eq_true rfl, Nat.le_of_ble_eq_true rfl⟩ h
abbrev V_X8_fallen_0 (l : Launch) (G : mj_G) (a0 : Nat) (S : mj_S) (Q : mj_S → Int32 → Prop) : Prop := mj_V l G (mj_room 1 0 0) RX8 cX8_fallen 3 (some .int) false 0 [some (.ref a0), none, none] [] S 0 0 (mj_std G (some .int) (mj_room 1 0 0) (mj_qi Q))
abbrev V_X8_fallen_4 (l : Launch) (G : mj_G) (a0 : Nat) (x1 : Int32) (x2 : Int32) (S : mj_S) (Q : mj_S → Int32 → Prop) : Prop := mj_V l G (mj_room 1 0 0) RX8 cX8_fallen 3 (some .int) false 4 [some (.ref a0), some (.int x1), some (.int x2)] [] S 0 0 (mj_std G (some .int) (mj_room 1 0 0) (mj_qi Q))
theorem e_X8_fallen {l : Launch} {G : mj_G} {a0 : Nat} {S : mj_S} {Q : mj_S → Int32 → Prop} (h : V_X8_fallen_0 l G a0 S Q) : M_X8_fallen l G a0 S Q := mj_enter (r := 2) (ini := false) (by decide +kernel) (fun h => by cases h) (fun _ => Nat.le_of_ble_eq_true rfl) rfl h
set_option maxRecDepth 20000 in
set_option maxHeartbeats 1000000 in
theorem b_X8_fallen_0 {l : Launch} {G : mj_G} {a0 : Nat} {S : mj_S} {Q : mj_S → Int32 → Prop} (hk_a0 : m_kd S a0 = 7) (h : V_X8_fallen_4 l G a0 (0 : Int32) (0 : Int32) S Q) : V_X8_fallen_0 l G a0 S Q := by
  refine mj_iconst (v := 0) dX8_fallen_0 (by decide) ?_
  refine mj_istore_n dX8_fallen_1 rfl (by decide) rfl rfl ?_
  refine mj_iconst (v := 0) dX8_fallen_2 (by decide) ?_
  refine mj_istore_n dX8_fallen_3 rfl (by decide) rfl rfl ?_
  exact h
set_option maxRecDepth 20000 in
set_option maxHeartbeats 1000000 in
theorem b_X8_fallen_4 {l : Launch} {G : mj_G} {a0 : Nat} {x1 : Int32} {x2 : Int32} {S : mj_S} {Q : mj_S → Int32 → Prop} (hk_a0 : m_kd S a0 = 7) (h : ∃ b1, m_gp S a0 0 = some b1 ∧ ((((m_gi S b1 7) ≤ x2) → Q S x1) ∧ ((¬ ((m_gi S b1 7) ≤ x2)) → ∃ b2, m_gp S a0 1 = some b2 ∧ (vp_in x2 (m_ln S b2) ∧ (((¬ (m_gi S b2 (x2).toNatClampNeg) = 0) → ∀ v3 : Int32, v3 = x2 + (1 : Int32) → V_X8_fallen_4 l G a0 x1 v3 S Q) ∧ (((m_gi S b2 (x2).toNatClampNeg) = 0) → ∀ v4 : Int32, v4 = (x1 ||| ((1 : Int32) <<< (x2 &&& 31))) → ∀ v5 : Int32, v5 = x2 + (1 : Int32) → V_X8_fallen_4 l G a0 v4 v5 S Q)))))) : V_X8_fallen_4 l G a0 x1 x2 S Q := by
  refine mj_iload_n dX8_fallen_4 rfl rfl ?_
  refine mj_aload_n dX8_fallen_5 rfl rfl ?_
  obtain ⟨b1, eb1, h⟩ := h
  refine mj_getP dX8_fallen_6 fl_X8_12_7 hk_a0 rfl ⟨b1, eb1, fun hk_b1 => ?_⟩
  refine mj_getI dX8_fallen_9 fl_X8_51_5 hk_b1 rfl ?_
  refine mj_icmp_ge (tgt := 36) dX8_fallen_12 (by decide) ⟨fun hc => ?_, fun hc => ?_⟩
  · replace h := h.1 hc
    refine mj_iload_n dX8_fallen_36 rfl rfl ?_
    exact mj_reti dX8_fallen_37 rfl ⟨Nat.le_of_ble_eq_true rfl, Nat.le_of_ble_eq_true rfl⟩ h
  · replace h := h.2 hc
    refine mj_aload_n dX8_fallen_15 rfl rfl ?_
    obtain ⟨b2, eb2, h⟩ := h
    refine mj_getP dX8_fallen_16 fl_X8_18_7 hk_a0 rfl ⟨b2, eb2, fun hk_b2 => ?_⟩
    refine mj_iload_n dX8_fallen_19 rfl rfl ?_
    refine mj_iald dX8_fallen_20 (Or.inl hk_b2) ⟨h.1, ?_⟩
    replace h := h.2
    refine mj_if_ne (tgt := 30) dX8_fallen_21 (by decide) ⟨fun hc => ?_, fun hc => ?_⟩
    · replace h := h.1 hc
      obtain ⟨v3, ev3⟩ : ∃ z : Int32, z = x2 + (1 : Int32) := ⟨_, rfl⟩
      refine mj_iinc (v := v3) dX8_fallen_30 rfl (by rw [ev3]; rfl) (by decide) rfl rfl ?_
      replace h := h v3 ev3
      refine mj_goto (tgt := 4) dX8_fallen_33 (by decide) ?_
      exact h
    · replace h := h.2 hc
      refine mj_iload_n dX8_fallen_24 rfl rfl ?_
      refine mj_iconst (v := 1) dX8_fallen_25 (by decide) ?_
      refine mj_iload_n dX8_fallen_26 rfl rfl ?_
      refine mj_ishl dX8_fallen_27 ?_
      refine mj_ior dX8_fallen_28 ?_
      refine mj_nmi (fun v4 ev4 => ?_)
      replace h := h v4 ev4
      refine mj_istore_n dX8_fallen_29 rfl (by decide) rfl rfl ?_
      obtain ⟨v5, ev5⟩ : ∃ z : Int32, z = x2 + (1 : Int32) := ⟨_, rfl⟩
      refine mj_iinc (v := v5) dX8_fallen_30 rfl (by rw [ev5]; rfl) (by decide) rfl rfl ?_
      replace h := h v5 ev5
      refine mj_goto (tgt := 4) dX8_fallen_33 (by decide) ?_
      exact h
abbrev V_X8_hung_0 (l : Launch) (G : mj_G) (a0 : Nat) (S : mj_S) (Q : mj_S → Int32 → Prop) : Prop := mj_V l G (mj_room 2 0 0) RX8 cX8_hung 1 (some .int) false 0 [some (.ref a0)] [] S 0 0 (mj_std G (some .int) (mj_room 2 0 0) (mj_qi Q))
theorem e_X8_hung {l : Launch} {G : mj_G} {a0 : Nat} {S : mj_S} {Q : mj_S → Int32 → Prop} (h : V_X8_hung_0 l G a0 S Q) : M_X8_hung l G a0 S Q := mj_enter (r := 0) (ini := false) (by decide +kernel) (fun h => by cases h) (fun _ => Nat.le_of_ble_eq_true rfl) rfl h
set_option maxRecDepth 20000 in
set_option maxHeartbeats 1000000 in
theorem b_X8_hung_0 {l : Launch} {G : mj_G} {a0 : Nat} {S : mj_S} {Q : mj_S → Int32 → Prop} (hk_a0 : m_kd S a0 = 7) (h : ∃ b1, m_gp S a0 0 = some b1 ∧ (M_X6_allCurtains l G b1 S (fun S2 r3 => M_X8_fallen l G a0 S2 (fun S4 r5 => Q S4 ((r3 &&& ((m_gi S2 a0 3) ^^^ (-1 : Int32))) &&& (r5 ^^^ (-1 : Int32))))))) : V_X8_hung_0 l G a0 S Q := by
  refine mj_aload_n dX8_hung_0 rfl rfl ?_
  obtain ⟨b1, eb1, h⟩ := h
  refine mj_getP dX8_hung_1 fl_X8_12_7 hk_a0 rfl ⟨b1, eb1, fun hk_b1 => ?_⟩
  refine mj_callVi (as := []) (st := []) dX8_hung_4 cal_X6_allCurtains lk_X8_54 im_X6_allCurtains se_X6_allCurtains (ci := 5) rfl (by decide) hk_b1 h rfl (Nat.le_of_ble_eq_true rfl) (by decide) ⟨Nat.le_of_ble_eq_true rfl, Nat.le_of_ble_eq_true rfl⟩ (fun S2 r3 h hn_r3 hp => ?_)
  have hk_a0 : m_kd S2 a0 = 7 := m_kd_pre hp hk_a0 (by decide)
  have hk_b1 : m_kd S2 b1 = 5 := m_kd_pre hp hk_b1 (by decide)
  refine mj_aload_n dX8_hung_7 rfl rfl ?_
  refine mj_getI dX8_hung_8 fl_X8_25_7 hk_a0 rfl ?_
  refine mj_iconst (v := (-1)) dX8_hung_11 (by decide) ?_
  refine mj_ixor dX8_hung_12 ?_
  refine mj_iand dX8_hung_13 ?_
  refine mj_aload_n dX8_hung_14 rfl rfl ?_
  refine mj_callVi (as := []) (st := [.int (r3 &&& ((m_gi S2 a0 3) ^^^ (-1 : Int32)))]) dX8_hung_15 cal_X8_fallen lk_X8_58 im_X8_fallen se_X8_fallen (ci := 7) rfl (by decide) hk_a0 h rfl (Nat.le_of_ble_eq_true rfl) (by decide) ⟨Nat.le_of_ble_eq_true rfl, Nat.le_of_ble_eq_true rfl⟩ (fun S4 r5 h hn_r5 hp => ?_)
  have hk_a0 : m_kd S4 a0 = 7 := m_kd_pre hp hk_a0 (by decide)
  have hk_b1 : m_kd S4 b1 = 5 := m_kd_pre hp hk_b1 (by decide)
  refine mj_iconst (v := (-1)) dX8_hung_18 (by decide) ?_
  refine mj_ixor dX8_hung_19 ?_
  refine mj_iand dX8_hung_20 ?_
  exact mj_reti dX8_hung_21 rfl ⟨Nat.le_of_ble_eq_true rfl, Nat.le_of_ble_eq_true rfl⟩ h
abbrev V_X8_drawnBack_0 (l : Launch) (G : mj_G) (a0 : Nat) (S : mj_S) (Q : mj_S → Int32 → Prop) : Prop := mj_V l G (mj_room 2 0 0) RX8 cX8_drawnBack 1 (some .int) false 0 [some (.ref a0)] [] S 0 0 (mj_std G (some .int) (mj_room 2 0 0) (mj_qi Q))
theorem e_X8_drawnBack {l : Launch} {G : mj_G} {a0 : Nat} {S : mj_S} {Q : mj_S → Int32 → Prop} (h : V_X8_drawnBack_0 l G a0 S Q) : M_X8_drawnBack l G a0 S Q := mj_enter (r := 0) (ini := false) (by decide +kernel) (fun h => by cases h) (fun _ => Nat.le_of_ble_eq_true rfl) rfl h
set_option maxRecDepth 20000 in
set_option maxHeartbeats 1000000 in
theorem b_X8_drawnBack_0 {l : Launch} {G : mj_G} {a0 : Nat} {S : mj_S} {Q : mj_S → Int32 → Prop} (hk_a0 : m_kd S a0 = 7) (h : M_X8_fallen l G a0 S (fun S1 r2 => Q S1 ((m_gi S a0 3) &&& (r2 ^^^ (-1 : Int32))))) : V_X8_drawnBack_0 l G a0 S Q := by
  refine mj_aload_n dX8_drawnBack_0 rfl rfl ?_
  refine mj_getI dX8_drawnBack_1 fl_X8_25_7 hk_a0 rfl ?_
  refine mj_aload_n dX8_drawnBack_4 rfl rfl ?_
  refine mj_callVi (as := []) (st := [.int (m_gi S a0 3)]) dX8_drawnBack_5 cal_X8_fallen lk_X8_58 im_X8_fallen se_X8_fallen (ci := 7) rfl (by decide) hk_a0 h rfl (Nat.le_of_ble_eq_true rfl) (by decide) ⟨Nat.le_of_ble_eq_true rfl, Nat.le_of_ble_eq_true rfl⟩ (fun S1 r2 h hn_r2 hp => ?_)
  have hk_a0 : m_kd S1 a0 = 7 := m_kd_pre hp hk_a0 (by decide)
  refine mj_iconst (v := (-1)) dX8_drawnBack_8 (by decide) ?_
  refine mj_ixor dX8_drawnBack_9 ?_
  refine mj_iand dX8_drawnBack_10 ?_
  exact mj_reti dX8_drawnBack_11 rfl ⟨Nat.le_of_ble_eq_true rfl, Nat.le_of_ble_eq_true rfl⟩ h
abbrev V_X8_fabricOfAll_0 (l : Launch) (G : mj_G) (a0 : Nat) (S : mj_S) (Q : mj_S → Int32 → Prop) : Prop := mj_V l G (mj_room 1 0 0) RX8 cX8_fabricOfAll 3 (some .int) false 0 [some (.ref a0), none, none] [] S 0 0 (mj_std G (some .int) (mj_room 1 0 0) (mj_qi Q))
abbrev V_X8_fabricOfAll_4 (l : Launch) (G : mj_G) (a0 : Nat) (x1 : Int32) (x2 : Int32) (S : mj_S) (Q : mj_S → Int32 → Prop) : Prop := mj_V l G (mj_room 1 0 0) RX8 cX8_fabricOfAll 3 (some .int) false 4 [some (.ref a0), some (.int x1), some (.int x2)] [] S 0 0 (mj_std G (some .int) (mj_room 1 0 0) (mj_qi Q))
theorem e_X8_fabricOfAll {l : Launch} {G : mj_G} {a0 : Nat} {S : mj_S} {Q : mj_S → Int32 → Prop} (h : V_X8_fabricOfAll_0 l G a0 S Q) : M_X8_fabricOfAll l G a0 S Q := mj_enter (r := 2) (ini := false) (by decide +kernel) (fun h => by cases h) (fun _ => Nat.le_of_ble_eq_true rfl) rfl h
set_option maxRecDepth 20000 in
set_option maxHeartbeats 1000000 in
theorem b_X8_fabricOfAll_0 {l : Launch} {G : mj_G} {a0 : Nat} {S : mj_S} {Q : mj_S → Int32 → Prop} (hk_a0 : m_kd S a0 = 7) (h : V_X8_fabricOfAll_4 l G a0 (0 : Int32) (0 : Int32) S Q) : V_X8_fabricOfAll_0 l G a0 S Q := by
  refine mj_iconst (v := 0) dX8_fabricOfAll_0 (by decide) ?_
  refine mj_istore_n dX8_fabricOfAll_1 rfl (by decide) rfl rfl ?_
  refine mj_iconst (v := 0) dX8_fabricOfAll_2 (by decide) ?_
  refine mj_istore_n dX8_fabricOfAll_3 rfl (by decide) rfl rfl ?_
  exact h
set_option maxRecDepth 20000 in
set_option maxHeartbeats 1000000 in
theorem b_X8_fabricOfAll_4 {l : Launch} {G : mj_G} {a0 : Nat} {x1 : Int32} {x2 : Int32} {S : mj_S} {Q : mj_S → Int32 → Prop} (hk_a0 : m_kd S a0 = 7) (h : ∃ b1, m_gp S a0 0 = some b1 ∧ ((((m_gi S b1 7) ≤ x2) → Q S x1) ∧ ((¬ ((m_gi S b1 7) ≤ x2)) → ∃ b2, m_gp S a0 1 = some b2 ∧ (vp_in x2 (m_ln S b2) ∧ (∀ v3 : Int32, v3 = (x1 + (m_gi S b2 (x2).toNatClampNeg)) → ∀ v4 : Int32, v4 = x2 + (1 : Int32) → V_X8_fabricOfAll_4 l G a0 v3 v4 S Q))))) : V_X8_fabricOfAll_4 l G a0 x1 x2 S Q := by
  refine mj_iload_n dX8_fabricOfAll_4 rfl rfl ?_
  refine mj_aload_n dX8_fabricOfAll_5 rfl rfl ?_
  obtain ⟨b1, eb1, h⟩ := h
  refine mj_getP dX8_fabricOfAll_6 fl_X8_12_7 hk_a0 rfl ⟨b1, eb1, fun hk_b1 => ?_⟩
  refine mj_getI dX8_fabricOfAll_9 fl_X8_51_5 hk_b1 rfl ?_
  refine mj_icmp_ge (tgt := 30) dX8_fabricOfAll_12 (by decide) ⟨fun hc => ?_, fun hc => ?_⟩
  · replace h := h.1 hc
    refine mj_iload_n dX8_fabricOfAll_30 rfl rfl ?_
    exact mj_reti dX8_fabricOfAll_31 rfl ⟨Nat.le_of_ble_eq_true rfl, Nat.le_of_ble_eq_true rfl⟩ h
  · replace h := h.2 hc
    refine mj_iload_n dX8_fabricOfAll_15 rfl rfl ?_
    refine mj_aload_n dX8_fabricOfAll_16 rfl rfl ?_
    obtain ⟨b2, eb2, h⟩ := h
    refine mj_getP dX8_fabricOfAll_17 fl_X8_18_7 hk_a0 rfl ⟨b2, eb2, fun hk_b2 => ?_⟩
    refine mj_iload_n dX8_fabricOfAll_20 rfl rfl ?_
    refine mj_iald dX8_fabricOfAll_21 (Or.inl hk_b2) ⟨h.1, ?_⟩
    replace h := h.2
    refine mj_iadd dX8_fabricOfAll_22 ?_
    refine mj_nmi (fun v3 ev3 => ?_)
    replace h := h v3 ev3
    refine mj_istore_n dX8_fabricOfAll_23 rfl (by decide) rfl rfl ?_
    obtain ⟨v4, ev4⟩ : ∃ z : Int32, z = x2 + (1 : Int32) := ⟨_, rfl⟩
    refine mj_iinc (v := v4) dX8_fabricOfAll_24 rfl (by rw [ev4]; rfl) (by decide) rfl rfl ?_
    replace h := h v4 ev4
    refine mj_goto (tgt := 4) dX8_fabricOfAll_27 (by decide) ?_
    exact h
abbrev V_X8_wear_0 (l : Launch) (G : mj_G) (a0 : Nat) (a1 : Nat) (S : mj_S) (Q : mj_S → Int32 → Prop) : Prop := mj_V l G (mj_room 3 0 0) RX8 cX8_wear 6 (some .int) false 0 [some (.ref a0), some (.ref a1), none, none, none, none] [] S 0 0 (mj_std G (some .int) (mj_room 3 0 0) (mj_qi Q))
abbrev V_X8_wear_10 (l : Launch) (G : mj_G) (a0 : Nat) (a1 : Nat) (x2 : Int32) (x3 : Int32) (x4 : Int32) (S : mj_S) (Q : mj_S → Int32 → Prop) : Prop := mj_V l G (mj_room 3 0 0) RX8 cX8_wear 6 (some .int) false 10 [some (.ref a0), some (.ref a1), some (.int x2), some (.int x3), some (.int x4), none] [] S 0 0 (mj_std G (some .int) (mj_room 3 0 0) (mj_qi Q))
abbrev V_X8_wear_73 (l : Launch) (G : mj_G) (a0 : Nat) (a1 : Nat) (x2 : Int32) (x3 : Int32) (x4 : Int32) (s0 : Int32) (S : mj_S) (Q : mj_S → Int32 → Prop) : Prop := mj_V l G (mj_room 3 0 0) RX8 cX8_wear 6 (some .int) false 73 [some (.ref a0), some (.ref a1), some (.int x2), some (.int x3), some (.int x4), none] [.int s0] S 0 0 (mj_std G (some .int) (mj_room 3 0 0) (mj_qi Q))
abbrev V_X8_wear_107 (l : Launch) (G : mj_G) (a0 : Nat) (a1 : Nat) (x2 : Int32) (x3 : Int32) (x4 : Int32) (c0 : Nat) (s1 : Int32) (s2 : Int32) (s3 : Int32) (s4 : Int32) (S : mj_S) (Q : mj_S → Int32 → Prop) : Prop := mj_V l G (mj_room 3 0 0) RX8 cX8_wear 6 (some .int) false 107 [some (.ref a0), some (.ref a1), some (.int x2), some (.int x3), some (.int x4), none] [.int s4, .int s3, .int s2, .int s1, .ref c0] S 0 0 (mj_std G (some .int) (mj_room 3 0 0) (mj_qi Q))
theorem e_X8_wear {l : Launch} {G : mj_G} {a0 : Nat} {a1 : Nat} {S : mj_S} {Q : mj_S → Int32 → Prop} (h : V_X8_wear_0 l G a0 a1 S Q) : M_X8_wear l G a0 a1 S Q := mj_enter (r := 4) (ini := false) (by decide +kernel) (fun h => by cases h) (fun _ => Nat.le_of_ble_eq_true rfl) rfl h
set_option maxRecDepth 20000 in
set_option maxHeartbeats 1000000 in
theorem b_X8_wear_0 {l : Launch} {G : mj_G} {a0 : Nat} {a1 : Nat} {S : mj_S} {Q : mj_S → Int32 → Prop} (hk_a0 : m_kd S a0 = 7) (hk_a1 : m_kd S a1 = 100) (h : M_X8_hung l G a0 S (fun S1 r2 => V_X8_wear_10 l G a0 a1 r2 (0 : Int32) (0 : Int32) S1 Q)) : V_X8_wear_0 l G a0 a1 S Q := by
  refine mj_aload_n dX8_wear_0 rfl rfl ?_
  refine mj_callVi (as := []) (st := []) dX8_wear_1 cal_X8_hung lk_X8_61 im_X8_hung se_X8_hung (ci := 7) rfl (by decide) hk_a0 h rfl (Nat.le_of_ble_eq_true rfl) (by decide) ⟨Nat.le_of_ble_eq_true rfl, Nat.le_of_ble_eq_true rfl⟩ (fun S1 r2 h hn_r2 hp => ?_)
  have hk_a0 : m_kd S1 a0 = 7 := m_kd_pre hp hk_a0 (by decide)
  have hk_a1 : m_kd S1 a1 = 100 := m_kd_pre hp hk_a1 (by decide)
  refine mj_istore_n dX8_wear_4 rfl (by decide) rfl rfl ?_
  refine mj_iconst (v := 0) dX8_wear_5 (by decide) ?_
  refine mj_istore_n dX8_wear_6 rfl (by decide) rfl rfl ?_
  refine mj_iconst (v := 0) dX8_wear_7 (by decide) ?_
  refine mj_istore dX8_wear_8 (by decide) rfl rfl ?_
  exact h
set_option maxRecDepth 20000 in
set_option maxHeartbeats 1000000 in
theorem b_X8_wear_10 {l : Launch} {G : mj_G} {a0 : Nat} {a1 : Nat} {x2 : Int32} {x3 : Int32} {x4 : Int32} {S : mj_S} {Q : mj_S → Int32 → Prop} (hk_a0 : m_kd S a0 = 7) (hk_a1 : m_kd S a1 = 100) (h : ∃ b1, m_gp S a0 0 = some b1 ∧ ((((m_gi S b1 7) ≤ x4) → ∀ S2 : mj_S, S2 = m_si S a0 4 ((m_gi S a0 4) + (1 : Int32)) → Q S2 x3) ∧ ((¬ ((m_gi S b1 7) ≤ x4)) → M_X10_has l G x2 x4 S (fun S3 r4 => ((¬ r4 = 0) → ∃ b5, m_gp S3 a0 0 = some b5 ∧ (∃ b6, m_gp S3 b5 8 = some b6 ∧ (vp_in x4 (m_ln S3 b6) ∧ (vp_in (m_gi S3 b6 (x4).toNatClampNeg) (m_ln S3 a1) ∧ ((((20 : Int32) ≤ (m_gi S3 a1 ((m_gi S3 b6 (x4).toNatClampNeg)).toNatClampNeg)) → V_X8_wear_73 l G a0 a1 x2 x3 x4 (1 : Int32) S3 Q) ∧ ((¬ ((20 : Int32) ≤ (m_gi S3 a1 ((m_gi S3 b6 (x4).toNatClampNeg)).toNatClampNeg))) → ∃ b7, m_gp S3 a0 0 = some b7 ∧ (∃ b8, m_gp S3 b7 9 = some b8 ∧ (vp_in x4 (m_ln S3 b8) ∧ (vp_in (m_gi S3 b8 (x4).toNatClampNeg) (m_ln S3 a1) ∧ ((((m_gi S3 a1 ((m_gi S3 b8 (x4).toNatClampNeg)).toNatClampNeg) < (20 : Int32)) → V_X8_wear_73 l G a0 a1 x2 x3 x4 (0 : Int32) S3 Q) ∧ ((¬ ((m_gi S3 a1 ((m_gi S3 b8 (x4).toNatClampNeg)).toNatClampNeg) < (20 : Int32))) → V_X8_wear_73 l G a0 a1 x2 x3 x4 (1 : Int32) S3 Q))))))))))) ∧ ((r4 = 0) → ∀ v9 : Int32, v9 = x4 + (1 : Int32) → V_X8_wear_10 l G a0 a1 x2 x3 v9 S3 Q))))) : V_X8_wear_10 l G a0 a1 x2 x3 x4 S Q := by
  refine mj_iload dX8_wear_10 rfl ?_
  refine mj_aload_n dX8_wear_12 rfl rfl ?_
  obtain ⟨b1, eb1, h⟩ := h
  refine mj_getP dX8_wear_13 fl_X8_12_7 hk_a0 rfl ⟨b1, eb1, fun hk_b1 => ?_⟩
  refine mj_getI dX8_wear_16 fl_X8_51_5 hk_b1 rfl ?_
  refine mj_icmp_ge (tgt := 135) dX8_wear_19 (by decide) ⟨fun hc => ?_, fun hc => ?_⟩
  · replace h := h.1 hc
    refine mj_aload_n dX8_wear_135 rfl rfl ?_
    refine mj_dup dX8_wear_136 rfl ?_
    refine mj_getI dX8_wear_137 fl_X8_29_7 hk_a0 rfl ?_
    refine mj_iconst (v := 1) dX8_wear_140 (by decide) ?_
    refine mj_iadd dX8_wear_141 ?_
    refine mj_putI dX8_wear_142 fl_X8_29_7 hk_a0 (Or.inl rfl) rfl rfl rfl ?_
    obtain ⟨S2, eS2⟩ : ∃ z, z = m_si S a0 4 ((m_gi S a0 4) + (1 : Int32)) := ⟨_, rfl⟩
    rw [← eS2]
    replace h := h S2 eS2
    have hk_a0 : m_kd S2 a0 = 7 := by rw [eS2]; exact hk_a0
    have hk_a1 : m_kd S2 a1 = 100 := by rw [eS2]; exact hk_a1
    have hk_b1 : m_kd S2 b1 = 5 := by rw [eS2]; exact hk_b1
    refine mj_iload_n dX8_wear_145 rfl rfl ?_
    exact mj_reti dX8_wear_146 rfl ⟨Nat.le_of_ble_eq_true rfl, Nat.le_of_ble_eq_true rfl⟩ h
  · replace h := h.2 hc
    refine mj_iload_n dX8_wear_22 rfl rfl ?_
    refine mj_iload dX8_wear_23 rfl ?_
    refine mj_callNi (as := [.int x2, .int x4]) (st := []) dX8_wear_25 cal_X10_has ln_X8_64 sm_X10_has h rfl (Nat.le_of_ble_eq_true rfl) (by decide) ⟨Nat.le_of_ble_eq_true rfl, Nat.le_of_ble_eq_true rfl⟩ (fun S3 r4 h hn_r4 hp => ?_)
    have hk_a0 : m_kd S3 a0 = 7 := m_kd_pre hp hk_a0 (by decide)
    have hk_a1 : m_kd S3 a1 = 100 := m_kd_pre hp hk_a1 (by decide)
    have hk_b1 : m_kd S3 b1 = 5 := m_kd_pre hp hk_b1 (by decide)
    refine mj_if_ne (tgt := 34) dX8_wear_28 (by decide) ⟨fun hc => ?_, fun hc => ?_⟩
    · replace h := h.1 hc
      refine mj_aload_n dX8_wear_34 rfl rfl ?_
      refine mj_aload_n dX8_wear_35 rfl rfl ?_
      obtain ⟨b5, eb5, h⟩ := h
      refine mj_getP dX8_wear_36 fl_X8_12_7 hk_a0 rfl ⟨b5, eb5, fun hk_b5 => ?_⟩
      obtain ⟨b6, eb6, h⟩ := h
      refine mj_getP dX8_wear_39 fl_X8_68_5 hk_b5 rfl ⟨b6, eb6, fun hk_b6 => ?_⟩
      refine mj_iload dX8_wear_42 rfl ?_
      refine mj_iald dX8_wear_44 (Or.inl hk_b6) ⟨h.1, ?_⟩
      replace h := h.2
      refine mj_iald dX8_wear_45 (Or.inl hk_a1) ⟨h.1, ?_⟩
      replace h := h.2
      refine mj_bipush (v := 20) dX8_wear_46 (by decide) ?_
      refine mj_icmp_ge (tgt := 68) dX8_wear_48 (by decide) ⟨fun hc => ?_, fun hc => ?_⟩
      · replace h := h.1 hc
        refine mj_iconst (v := 1) dX8_wear_68 (by decide) ?_
        refine mj_goto (tgt := 73) dX8_wear_69 (by decide) ?_
        exact h
      · replace h := h.2 hc
        refine mj_aload_n dX8_wear_51 rfl rfl ?_
        refine mj_aload_n dX8_wear_52 rfl rfl ?_
        obtain ⟨b7, eb7, h⟩ := h
        refine mj_getP dX8_wear_53 fl_X8_12_7 hk_a0 rfl ⟨b7, eb7, fun hk_b7 => ?_⟩
        obtain ⟨b8, eb8, h⟩ := h
        refine mj_getP dX8_wear_56 fl_X8_71_5 hk_b7 rfl ⟨b8, eb8, fun hk_b8 => ?_⟩
        refine mj_iload dX8_wear_59 rfl ?_
        refine mj_iald dX8_wear_61 (Or.inl hk_b8) ⟨h.1, ?_⟩
        replace h := h.2
        refine mj_iald dX8_wear_62 (Or.inl hk_a1) ⟨h.1, ?_⟩
        replace h := h.2
        refine mj_bipush (v := 20) dX8_wear_63 (by decide) ?_
        refine mj_icmp_lt (tgt := 72) dX8_wear_65 (by decide) ⟨fun hc => ?_, fun hc => ?_⟩
        · replace h := h.1 hc
          refine mj_iconst (v := 0) dX8_wear_72 (by decide) ?_
          exact h
        · replace h := h.2 hc
          refine mj_iconst (v := 1) dX8_wear_68 (by decide) ?_
          refine mj_goto (tgt := 73) dX8_wear_69 (by decide) ?_
          exact h
    · replace h := h.2 hc
      refine mj_goto (tgt := 129) dX8_wear_31 (by decide) ?_
      obtain ⟨v9, ev9⟩ : ∃ z : Int32, z = x4 + (1 : Int32) := ⟨_, rfl⟩
      refine mj_iinc (v := v9) dX8_wear_129 rfl (by rw [ev9]; rfl) (by decide) rfl rfl ?_
      replace h := h v9 ev9
      refine mj_goto (tgt := 10) dX8_wear_132 (by decide) ?_
      exact h
set_option maxRecDepth 20000 in
set_option maxHeartbeats 1000000 in
theorem b_X8_wear_73 {l : Launch} {G : mj_G} {a0 : Nat} {a1 : Nat} {x2 : Int32} {x3 : Int32} {x4 : Int32} {s0 : Int32} {S : mj_S} {Q : mj_S → Int32 → Prop} (hk_a0 : m_kd S a0 = 7) (hk_a1 : m_kd S a1 = 100) (h : ∃ b1, m_gp S a0 1 = some b1 ∧ (∃ b2, m_gp S a0 1 = some b2 ∧ (vp_in x4 (m_ln S b2) ∧ (∃ b3, m_gp S a0 0 = some b3 ∧ (((s0 = 0) → V_X8_wear_107 l G a0 a1 x2 x3 x4 b1 x4 (0 : Int32) ((m_gi S b2 (x4).toNatClampNeg) - (m_gi S b3 3)) (0 : Int32) S Q) ∧ ((¬ (s0 = 0)) → V_X8_wear_107 l G a0 a1 x2 x3 x4 b1 x4 (0 : Int32) ((m_gi S b2 (x4).toNatClampNeg) - (m_gi S b3 3)) (1 : Int32) S Q)))))) : V_X8_wear_73 l G a0 a1 x2 x3 x4 s0 S Q := by
  refine mj_istore dX8_wear_73 (by decide) rfl rfl ?_
  refine mj_aload_n dX8_wear_75 rfl rfl ?_
  obtain ⟨b1, eb1, h⟩ := h
  refine mj_getP dX8_wear_76 fl_X8_18_7 hk_a0 rfl ⟨b1, eb1, fun hk_b1 => ?_⟩
  refine mj_iload dX8_wear_79 rfl ?_
  refine mj_iconst (v := 0) dX8_wear_81 (by decide) ?_
  refine mj_aload_n dX8_wear_82 rfl rfl ?_
  obtain ⟨b2, eb2, h⟩ := h
  refine mj_getP dX8_wear_83 fl_X8_18_7 hk_a0 rfl ⟨b2, eb2, fun hk_b2 => ?_⟩
  refine mj_iload dX8_wear_86 rfl ?_
  refine mj_iald dX8_wear_88 (Or.inl hk_b2) ⟨h.1, ?_⟩
  replace h := h.2
  refine mj_aload_n dX8_wear_89 rfl rfl ?_
  obtain ⟨b3, eb3, h⟩ := h
  refine mj_getP dX8_wear_90 fl_X8_12_7 hk_a0 rfl ⟨b3, eb3, fun hk_b3 => ?_⟩
  refine mj_getI dX8_wear_93 fl_X8_74_5 hk_b3 rfl ?_
  refine mj_isub dX8_wear_96 ?_
  refine mj_iload dX8_wear_97 rfl ?_
  refine mj_if_eq (tgt := 106) dX8_wear_99 (by decide) ⟨fun hc => ?_, fun hc => ?_⟩
  · replace h := h.1 hc
    refine mj_iconst (v := 0) dX8_wear_106 (by decide) ?_
    exact mj_lessm [true, true, true, true, true, false] rfl h
  · replace h := h.2 hc
    refine mj_iconst (v := 1) dX8_wear_102 (by decide) ?_
    refine mj_goto (tgt := 107) dX8_wear_103 (by decide) ?_
    exact mj_lessm [true, true, true, true, true, false] rfl h
set_option maxRecDepth 20000 in
set_option maxHeartbeats 1000000 in
theorem b_X8_wear_107 {l : Launch} {G : mj_G} {a0 : Nat} {a1 : Nat} {x2 : Int32} {x3 : Int32} {x4 : Int32} {c0 : Nat} {s1 : Int32} {s2 : Int32} {s3 : Int32} {s4 : Int32} {S : mj_S} {Q : mj_S → Int32 → Prop} (hk_a0 : m_kd S a0 = 7) (hk_a1 : m_kd S a1 = 100) (hk_c0 : m_kd S c0 = 100) (h : M_J9_max_7cf53 l G s2 (s3 - s4) S (fun S1 r2 => vp_in s1 (m_ln S1 c0) ∧ (∀ S3 : mj_S, S3 = m_si S1 c0 (s1).toNatClampNeg r2 → ∃ b4, m_gp S3 a0 1 = some b4 ∧ (vp_in x4 (m_ln S3 b4) ∧ (((¬ (m_gi S3 b4 (x4).toNatClampNeg) = 0) → ∀ v5 : Int32, v5 = x4 + (1 : Int32) → V_X8_wear_10 l G a0 a1 x2 x3 v5 S3 Q) ∧ (((m_gi S3 b4 (x4).toNatClampNeg) = 0) → ∀ v6 : Int32, v6 = (x3 ||| ((1 : Int32) <<< (x4 &&& 31))) → ∀ v7 : Int32, v7 = x4 + (1 : Int32) → V_X8_wear_10 l G a0 a1 x2 v6 v7 S3 Q)))))) : V_X8_wear_107 l G a0 a1 x2 x3 x4 c0 s1 s2 s3 s4 S Q := by
  refine mj_isub dX8_wear_107 ?_
  refine mj_callSi (as := [.int s2, .int (s3 - s4)]) (st := [.int s1, .ref c0]) dX8_wear_108 cal_J9_max_7cf53 lk_X8_77 sm_J9_max_7cf53 h rfl (Nat.le_of_ble_eq_true rfl) (by decide) ⟨Nat.le_of_ble_eq_true rfl, Nat.le_of_ble_eq_true rfl⟩ (fun S1 r2 h hn_r2 hp => ?_)
  have hk_a0 : m_kd S1 a0 = 7 := m_kd_pre hp hk_a0 (by decide)
  have hk_a1 : m_kd S1 a1 = 100 := m_kd_pre hp hk_a1 (by decide)
  have hk_c0 : m_kd S1 c0 = 100 := m_kd_pre hp hk_c0 (by decide)
  refine mj_iast dX8_wear_111 hk_c0 ⟨h.1, ?_⟩
  replace h := h.2
  obtain ⟨S3, eS3⟩ : ∃ z, z = m_si S1 c0 (s1).toNatClampNeg r2 := ⟨_, rfl⟩
  rw [← eS3]
  replace h := h S3 eS3
  have hk_a0 : m_kd S3 a0 = 7 := by rw [eS3]; exact hk_a0
  have hk_a1 : m_kd S3 a1 = 100 := by rw [eS3]; exact hk_a1
  have hk_c0 : m_kd S3 c0 = 100 := by rw [eS3]; exact hk_c0
  refine mj_aload_n dX8_wear_112 rfl rfl ?_
  obtain ⟨b4, eb4, h⟩ := h
  refine mj_getP dX8_wear_113 fl_X8_18_7 hk_a0 rfl ⟨b4, eb4, fun hk_b4 => ?_⟩
  refine mj_iload dX8_wear_116 rfl ?_
  refine mj_iald dX8_wear_118 (Or.inl hk_b4) ⟨h.1, ?_⟩
  replace h := h.2
  refine mj_if_ne (tgt := 129) dX8_wear_119 (by decide) ⟨fun hc => ?_, fun hc => ?_⟩
  · replace h := h.1 hc
    obtain ⟨v5, ev5⟩ : ∃ z : Int32, z = x4 + (1 : Int32) := ⟨_, rfl⟩
    refine mj_iinc (v := v5) dX8_wear_129 rfl (by rw [ev5]; rfl) (by decide) rfl rfl ?_
    replace h := h v5 ev5
    refine mj_goto (tgt := 10) dX8_wear_132 (by decide) ?_
    exact h
  · replace h := h.2 hc
    refine mj_iload_n dX8_wear_122 rfl rfl ?_
    refine mj_iconst (v := 1) dX8_wear_123 (by decide) ?_
    refine mj_iload dX8_wear_124 rfl ?_
    refine mj_ishl dX8_wear_126 ?_
    refine mj_ior dX8_wear_127 ?_
    refine mj_nmi (fun v6 ev6 => ?_)
    replace h := h v6 ev6
    refine mj_istore_n dX8_wear_128 rfl (by decide) rfl rfl ?_
    obtain ⟨v7, ev7⟩ : ∃ z : Int32, z = x4 + (1 : Int32) := ⟨_, rfl⟩
    refine mj_iinc (v := v7) dX8_wear_129 rfl (by rw [ev7]; rfl) (by decide) rfl rfl ?_
    replace h := h v7 ev7
    refine mj_goto (tgt := 10) dX8_wear_132 (by decide) ?_
    exact h
