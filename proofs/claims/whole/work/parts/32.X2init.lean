abbrev V_X2_init_0 (l : Launch) (G : mj_G) (a0 : Nat) (S : mj_S) (Q : mj_S → Prop) : Prop := mj_V l G (mj_room 1 8 1006) RX2 cX2_init 1 none true 0 [some (.ref a0)] [] S 0 0 (mj_std G none (mj_room 1 8 1006) (mj_qv Q))
theorem e_X2_init {l : Launch} {G : mj_G} {a0 : Nat} {S : mj_S} {Q : mj_S → Prop} (h : V_X2_init_0 l G a0 S Q) : M_X2_init l G a0 S Q := mj_enter (r := 0) (ini := true) (by decide +kernel) (fun _ => rfl) (fun _ => Nat.le_of_ble_eq_true rfl) rfl h
set_option maxRecDepth 20000 in
set_option maxHeartbeats 1000000 in
theorem b_X2_init_0 {l : Launch} {G : mj_G} {a0 : Nat} {S : mj_S} {Q : mj_S → Prop} (hk_a0 : m_kd S a0 = 2) (h : ∀ S1 : mj_S, S1 = m_si S a0 0 (0 : Int32) → ∀ S2 : mj_S, S2 = m_si S1 a0 1 (-1 : Int32) → ∀ q3 : Nat, q3 = S2.1.length → ∀ S4 : mj_S, S4 = mj_mT S2 → ∀ S5 : mj_S, S5 = m_sp S4 a0 2 (some q3) → ∀ q6 : Nat, q6 = S5.1.length → ∀ S7 : mj_S, S7 = m_nw S5 100 4 → ∀ S8 : mj_S, S8 = m_sp S7 a0 3 (some q6) → ∀ q9 : Nat, q9 = S8.1.length → ∀ S10 : mj_S, S10 = m_nw S8 100 6 → ∀ S11 : mj_S, S11 = m_sp S10 a0 4 (some q9) → ∀ q12 : Nat, q12 = S11.1.length → ∀ S13 : mj_S, S13 = m_nw S11 100 32 → ∀ S14 : mj_S, S14 = m_sp S13 a0 5 (some q12) → ∀ S15 : mj_S, S15 = m_si S14 a0 6 (0 : Int32) → Q S15) : V_X2_init_0 l G a0 S Q := by
  refine mj_aload_n dX2_init_0 rfl rfl ?_
  refine mj_objInit (st := []) dX2_init_1 oi_X2_3 oi_im oi_co (by decide) (Nat.le_of_ble_eq_true rfl) ?_
  refine mj_aload_n dX2_init_4 rfl rfl ?_
  refine mj_iconst (v := 0) dX2_init_5 (by decide) ?_
  refine mj_putI dX2_init_6 fl_X2_9_2 hk_a0 (Or.inl rfl) rfl rfl rfl ?_
  obtain ⟨S1, eS1⟩ : ∃ z, z = m_si S a0 0 (0 : Int32) := ⟨_, rfl⟩
  rw [← eS1]
  replace h := h S1 eS1
  have hk_a0 : m_kd S1 a0 = 2 := by rw [eS1]; exact hk_a0
  refine mj_aload_n dX2_init_9 rfl rfl ?_
  refine mj_iconst (v := (-1)) dX2_init_10 (by decide) ?_
  refine mj_putI dX2_init_11 fl_X2_15_2 hk_a0 (Or.inl rfl) rfl rfl rfl ?_
  obtain ⟨S2, eS2⟩ : ∃ z, z = m_si S1 a0 1 (-1 : Int32) := ⟨_, rfl⟩
  rw [← eS2]
  replace h := h S2 eS2
  have hk_a0 : m_kd S2 a0 = 2 := by rw [eS2]; exact hk_a0
  refine mj_aload_n dX2_init_14 rfl rfl ?_
  refine mj_iconst (v := 4) dX2_init_15 (by decide) ?_
  refine mj_sipush (v := 240) dX2_init_16 (by decide) ?_
  refine mj_mna dX2_init_19 (Nat.le_of_ble_eq_true rfl) (Nat.le_of_ble_eq_true rfl) ?_
  obtain ⟨q3, eq3⟩ : ∃ z, z = S2.1.length := ⟨_, rfl⟩
  rw [← eq3]
  obtain ⟨S4, eS4⟩ : ∃ z, z = mj_mT S2 := ⟨_, rfl⟩
  rw [← eS4]
  replace h := h q3 eq3 S4 eS4
  have hp : S2.1 <+: S4.1 := by rw [eS4, mj_mT_1]; exact List.prefix_append _ _
  have hk_q3 : m_kd S4 q3 = 103 := by rw [eS4, eq3]; exact (mj_mT_hi _ 0).1
  have hk_a0 : m_kd S4 a0 = 2 := m_kd_pre hp hk_a0 (by decide)
  refine mj_putP dX2_init_23 fl_X2_20_2 hk_a0 (Or.inr ⟨rfl, rfl⟩) rfl hk_q3 (fun _ => rfl) (fun _ => rfl) ?_
  obtain ⟨S5, eS5⟩ : ∃ z, z = m_sp S4 a0 2 (some q3) := ⟨_, rfl⟩
  rw [← eS5]
  replace h := h S5 eS5
  have hk_a0 : m_kd S5 a0 = 2 := by rw [eS5]; exact hk_a0
  have hk_q3 : m_kd S5 q3 = 103 := by rw [eS5]; exact hk_q3
  refine mj_aload_n dX2_init_26 rfl rfl ?_
  refine mj_iconst (v := 4) dX2_init_27 (by decide) ?_
  refine mj_newI (N := 4) dX2_init_28 ar_int (by decide) (by decide) (by decide) (Nat.le_of_ble_eq_true rfl) (Nat.le_of_ble_eq_true rfl) ?_
  obtain ⟨q6, eq6⟩ : ∃ z, z = S5.1.length := ⟨_, rfl⟩
  rw [← eq6]
  obtain ⟨S7, eS7⟩ : ∃ z, z = m_nw S5 100 4 := ⟨_, rfl⟩
  rw [← eS7]
  replace h := h q6 eq6 S7 eS7
  have hp : S5.1 <+: S7.1 := by rw [eS7]; exact List.prefix_append _ _
  have hk_q6 : m_kd S7 q6 = 100 := by rw [eS7, eq6]; exact m_kd_nwl
  have hk_a0 : m_kd S7 a0 = 2 := m_kd_pre hp hk_a0 (by decide)
  have hk_q3 : m_kd S7 q3 = 103 := m_kd_pre hp hk_q3 (by decide)
  refine mj_putP dX2_init_30 fl_X2_23_2 hk_a0 (Or.inr ⟨rfl, rfl⟩) rfl hk_q6 (fun _ => rfl) (fun _ => rfl) ?_
  obtain ⟨S8, eS8⟩ : ∃ z, z = m_sp S7 a0 3 (some q6) := ⟨_, rfl⟩
  rw [← eS8]
  replace h := h S8 eS8
  have hk_a0 : m_kd S8 a0 = 2 := by rw [eS8]; exact hk_a0
  have hk_q3 : m_kd S8 q3 = 103 := by rw [eS8]; exact hk_q3
  have hk_q6 : m_kd S8 q6 = 100 := by rw [eS8]; exact hk_q6
  refine mj_aload_n dX2_init_33 rfl rfl ?_
  refine mj_bipush (v := 6) dX2_init_34 (by decide) ?_
  refine mj_newI (N := 6) dX2_init_36 ar_int (by decide) (by decide) (by decide) (Nat.le_of_ble_eq_true rfl) (Nat.le_of_ble_eq_true rfl) ?_
  obtain ⟨q9, eq9⟩ : ∃ z, z = S8.1.length := ⟨_, rfl⟩
  rw [← eq9]
  obtain ⟨S10, eS10⟩ : ∃ z, z = m_nw S8 100 6 := ⟨_, rfl⟩
  rw [← eS10]
  replace h := h q9 eq9 S10 eS10
  have hp : S8.1 <+: S10.1 := by rw [eS10]; exact List.prefix_append _ _
  have hk_q9 : m_kd S10 q9 = 100 := by rw [eS10, eq9]; exact m_kd_nwl
  have hk_a0 : m_kd S10 a0 = 2 := m_kd_pre hp hk_a0 (by decide)
  have hk_q3 : m_kd S10 q3 = 103 := m_kd_pre hp hk_q3 (by decide)
  have hk_q6 : m_kd S10 q6 = 100 := m_kd_pre hp hk_q6 (by decide)
  refine mj_putP dX2_init_38 fl_X2_27_2 hk_a0 (Or.inr ⟨rfl, rfl⟩) rfl hk_q9 (fun _ => rfl) (fun _ => rfl) ?_
  obtain ⟨S11, eS11⟩ : ∃ z, z = m_sp S10 a0 4 (some q9) := ⟨_, rfl⟩
  rw [← eS11]
  replace h := h S11 eS11
  have hk_a0 : m_kd S11 a0 = 2 := by rw [eS11]; exact hk_a0
  have hk_q3 : m_kd S11 q3 = 103 := by rw [eS11]; exact hk_q3
  have hk_q6 : m_kd S11 q6 = 100 := by rw [eS11]; exact hk_q6
  have hk_q9 : m_kd S11 q9 = 100 := by rw [eS11]; exact hk_q9
  refine mj_aload_n dX2_init_41 rfl rfl ?_
  refine mj_bipush (v := 32) dX2_init_42 (by decide) ?_
  refine mj_newI (N := 32) dX2_init_44 ar_int (by decide) (by decide) (by decide) (Nat.le_of_ble_eq_true rfl) (Nat.le_of_ble_eq_true rfl) ?_
  obtain ⟨q12, eq12⟩ : ∃ z, z = S11.1.length := ⟨_, rfl⟩
  rw [← eq12]
  obtain ⟨S13, eS13⟩ : ∃ z, z = m_nw S11 100 32 := ⟨_, rfl⟩
  rw [← eS13]
  replace h := h q12 eq12 S13 eS13
  have hp : S11.1 <+: S13.1 := by rw [eS13]; exact List.prefix_append _ _
  have hk_q12 : m_kd S13 q12 = 100 := by rw [eS13, eq12]; exact m_kd_nwl
  have hk_a0 : m_kd S13 a0 = 2 := m_kd_pre hp hk_a0 (by decide)
  have hk_q3 : m_kd S13 q3 = 103 := m_kd_pre hp hk_q3 (by decide)
  have hk_q6 : m_kd S13 q6 = 100 := m_kd_pre hp hk_q6 (by decide)
  have hk_q9 : m_kd S13 q9 = 100 := m_kd_pre hp hk_q9 (by decide)
  refine mj_putP dX2_init_46 fl_X2_30_2 hk_a0 (Or.inr ⟨rfl, rfl⟩) rfl hk_q12 (fun _ => rfl) (fun _ => rfl) ?_
  obtain ⟨S14, eS14⟩ : ∃ z, z = m_sp S13 a0 5 (some q12) := ⟨_, rfl⟩
  rw [← eS14]
  replace h := h S14 eS14
  have hk_a0 : m_kd S14 a0 = 2 := by rw [eS14]; exact hk_a0
  have hk_q3 : m_kd S14 q3 = 103 := by rw [eS14]; exact hk_q3
  have hk_q6 : m_kd S14 q6 = 100 := by rw [eS14]; exact hk_q6
  have hk_q9 : m_kd S14 q9 = 100 := by rw [eS14]; exact hk_q9
  have hk_q12 : m_kd S14 q12 = 100 := by rw [eS14]; exact hk_q12
  refine mj_aload_n dX2_init_49 rfl rfl ?_
  refine mj_iconst (v := 0) dX2_init_50 (by decide) ?_
  refine mj_putI dX2_init_51 fl_X2_33_2 hk_a0 (Or.inl rfl) rfl rfl rfl ?_
  obtain ⟨S15, eS15⟩ : ∃ z, z = m_si S14 a0 6 (0 : Int32) := ⟨_, rfl⟩
  rw [← eS15]
  replace h := h S15 eS15
  have hk_a0 : m_kd S15 a0 = 2 := by rw [eS15]; exact hk_a0
  have hk_q3 : m_kd S15 q3 = 103 := by rw [eS15]; exact hk_q3
  have hk_q6 : m_kd S15 q6 = 100 := by rw [eS15]; exact hk_q6
  have hk_q9 : m_kd S15 q9 = 100 := by rw [eS15]; exact hk_q9
  have hk_q12 : m_kd S15 q12 = 100 := by rw [eS15]; exact hk_q12
  exact mj_retv dX2_init_54 rfl ⟨Nat.le_of_ble_eq_true rfl, Nat.le_of_ble_eq_true rfl⟩ h
