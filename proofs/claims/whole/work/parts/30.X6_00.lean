abbrev V_X6_init_0 (l : Launch) (G : mj_G) (a0 : Nat) (S : mj_S) (Q : mj_S → Prop) : Prop := mj_V l G (mj_room 1 8 72) RX6 cX6_init 1 none true 0 [some (.ref a0)] [] S 0 0 (mj_std G none (mj_room 1 8 72) (mj_qv Q))
theorem e_X6_init {l : Launch} {G : mj_G} {a0 : Nat} {S : mj_S} {Q : mj_S → Prop} (h : V_X6_init_0 l G a0 S Q) : M_X6_init l G a0 S Q := mj_enter (r := 0) (ini := true) (by decide +kernel) (fun _ => rfl) (fun _ => Nat.le_of_ble_eq_true rfl) rfl h
set_option maxRecDepth 20000 in
set_option maxHeartbeats 1000000 in
theorem b_X6_init_0 {l : Launch} {G : mj_G} {a0 : Nat} {S : mj_S} {Q : mj_S → Prop} (hk_a0 : m_kd S a0 = 5) (h : ∀ S1 : mj_S, S1 = m_si S a0 0 (0 : Int32) → ∀ S2 : mj_S, S2 = m_si S1 a0 1 (0 : Int32) → ∀ S3 : mj_S, S3 = m_si S2 a0 2 (0 : Int32) → ∀ S4 : mj_S, S4 = m_si S3 a0 3 (0 : Int32) → ∀ S5 : mj_S, S5 = m_si S4 a0 4 (0 : Int32) → ∀ S6 : mj_S, S6 = m_si S5 a0 5 (0 : Int32) → ∀ S7 : mj_S, S7 = m_si S6 a0 6 (0 : Int32) → ∀ S8 : mj_S, S8 = m_si S7 a0 7 (0 : Int32) → ∀ q9 : Nat, q9 = S8.1.length → ∀ S10 : mj_S, S10 = m_nw S8 100 10 → ∀ S11 : mj_S, S11 = m_sp S10 a0 8 (some q9) → ∀ q12 : Nat, q12 = S11.1.length → ∀ S13 : mj_S, S13 = m_nw S11 100 10 → ∀ S14 : mj_S, S14 = m_sp S13 a0 9 (some q12) → ∀ q15 : Nat, q15 = S14.1.length → ∀ S16 : mj_S, S16 = m_nw S14 100 10 → ∀ S17 : mj_S, S17 = m_sp S16 a0 10 (some q15) → ∀ q18 : Nat, q18 = S17.1.length → ∀ S19 : mj_S, S19 = m_nw S17 100 10 → ∀ S20 : mj_S, S20 = m_sp S19 a0 11 (some q18) → ∀ q21 : Nat, q21 = S20.1.length → ∀ S22 : mj_S, S22 = m_nw S20 100 10 → ∀ S23 : mj_S, S23 = m_sp S22 a0 12 (some q21) → ∀ q24 : Nat, q24 = S23.1.length → ∀ S25 : mj_S, S25 = m_nw S23 100 10 → ∀ S26 : mj_S, S26 = m_sp S25 a0 13 (some q24) → ∀ S27 : mj_S, S27 = m_si S26 a0 14 (0 : Int32) → ∀ S28 : mj_S, S28 = m_si S27 a0 15 (0 : Int32) → ∀ q29 : Nat, q29 = S28.1.length → ∀ S30 : mj_S, S30 = m_nw S28 100 6 → ∀ S31 : mj_S, S31 = m_sp S30 a0 16 (some q29) → ∀ q32 : Nat, q32 = S31.1.length → ∀ S33 : mj_S, S33 = m_nw S31 100 6 → ∀ S34 : mj_S, S34 = m_sp S33 a0 17 (some q32) → Q S34) : V_X6_init_0 l G a0 S Q := by
  refine mj_aload_n dX6_init_0 rfl rfl ?_
  refine mj_objInit (st := []) dX6_init_1 oi_X6_3 oi_im oi_co (by decide) (Nat.le_of_ble_eq_true rfl) ?_
  refine mj_aload_n dX6_init_4 rfl rfl ?_
  refine mj_iconst (v := 0) dX6_init_5 (by decide) ?_
  refine mj_putI dX6_init_6 fl_X6_9_5 hk_a0 (Or.inl rfl) rfl rfl rfl ?_
  obtain ⟨S1, eS1⟩ : ∃ z, z = m_si S a0 0 (0 : Int32) := ⟨_, rfl⟩
  rw [← eS1]
  replace h := h S1 eS1
  have hk_a0 : m_kd S1 a0 = 5 := by rw [eS1]; exact hk_a0
  refine mj_aload_n dX6_init_9 rfl rfl ?_
  refine mj_iconst (v := 0) dX6_init_10 (by decide) ?_
  refine mj_putI dX6_init_11 fl_X6_15_5 hk_a0 (Or.inl rfl) rfl rfl rfl ?_
  obtain ⟨S2, eS2⟩ : ∃ z, z = m_si S1 a0 1 (0 : Int32) := ⟨_, rfl⟩
  rw [← eS2]
  replace h := h S2 eS2
  have hk_a0 : m_kd S2 a0 = 5 := by rw [eS2]; exact hk_a0
  refine mj_aload_n dX6_init_14 rfl rfl ?_
  refine mj_iconst (v := 0) dX6_init_15 (by decide) ?_
  refine mj_putI dX6_init_16 fl_X6_18_5 hk_a0 (Or.inl rfl) rfl rfl rfl ?_
  obtain ⟨S3, eS3⟩ : ∃ z, z = m_si S2 a0 2 (0 : Int32) := ⟨_, rfl⟩
  rw [← eS3]
  replace h := h S3 eS3
  have hk_a0 : m_kd S3 a0 = 5 := by rw [eS3]; exact hk_a0
  refine mj_aload_n dX6_init_19 rfl rfl ?_
  refine mj_iconst (v := 0) dX6_init_20 (by decide) ?_
  refine mj_putI dX6_init_21 fl_X6_21_5 hk_a0 (Or.inl rfl) rfl rfl rfl ?_
  obtain ⟨S4, eS4⟩ : ∃ z, z = m_si S3 a0 3 (0 : Int32) := ⟨_, rfl⟩
  rw [← eS4]
  replace h := h S4 eS4
  have hk_a0 : m_kd S4 a0 = 5 := by rw [eS4]; exact hk_a0
  refine mj_aload_n dX6_init_24 rfl rfl ?_
  refine mj_iconst (v := 0) dX6_init_25 (by decide) ?_
  refine mj_putI dX6_init_26 fl_X6_24_5 hk_a0 (Or.inl rfl) rfl rfl rfl ?_
  obtain ⟨S5, eS5⟩ : ∃ z, z = m_si S4 a0 4 (0 : Int32) := ⟨_, rfl⟩
  rw [← eS5]
  replace h := h S5 eS5
  have hk_a0 : m_kd S5 a0 = 5 := by rw [eS5]; exact hk_a0
  refine mj_aload_n dX6_init_29 rfl rfl ?_
  refine mj_iconst (v := 0) dX6_init_30 (by decide) ?_
  refine mj_putI dX6_init_31 fl_X6_27_5 hk_a0 (Or.inl rfl) rfl rfl rfl ?_
  obtain ⟨S6, eS6⟩ : ∃ z, z = m_si S5 a0 5 (0 : Int32) := ⟨_, rfl⟩
  rw [← eS6]
  replace h := h S6 eS6
  have hk_a0 : m_kd S6 a0 = 5 := by rw [eS6]; exact hk_a0
  refine mj_aload_n dX6_init_34 rfl rfl ?_
  refine mj_iconst (v := 0) dX6_init_35 (by decide) ?_
  refine mj_putI dX6_init_36 fl_X6_30_5 hk_a0 (Or.inl rfl) rfl rfl rfl ?_
  obtain ⟨S7, eS7⟩ : ∃ z, z = m_si S6 a0 6 (0 : Int32) := ⟨_, rfl⟩
  rw [← eS7]
  replace h := h S7 eS7
  have hk_a0 : m_kd S7 a0 = 5 := by rw [eS7]; exact hk_a0
  refine mj_aload_n dX6_init_39 rfl rfl ?_
  refine mj_iconst (v := 0) dX6_init_40 (by decide) ?_
  refine mj_putI dX6_init_41 fl_X6_33_5 hk_a0 (Or.inl rfl) rfl rfl rfl ?_
  obtain ⟨S8, eS8⟩ : ∃ z, z = m_si S7 a0 7 (0 : Int32) := ⟨_, rfl⟩
  rw [← eS8]
  replace h := h S8 eS8
  have hk_a0 : m_kd S8 a0 = 5 := by rw [eS8]; exact hk_a0
  refine mj_aload_n dX6_init_44 rfl rfl ?_
  refine mj_bipush (v := 10) dX6_init_45 (by decide) ?_
  refine mj_newI (N := 10) dX6_init_47 ar_int (by decide) (by decide) (by decide) (Nat.le_of_ble_eq_true rfl) (Nat.le_of_ble_eq_true rfl) ?_
  obtain ⟨q9, eq9⟩ : ∃ z, z = S8.1.length := ⟨_, rfl⟩
  rw [← eq9]
  obtain ⟨S10, eS10⟩ : ∃ z, z = m_nw S8 100 10 := ⟨_, rfl⟩
  rw [← eS10]
  replace h := h q9 eq9 S10 eS10
  have hp : S8.1 <+: S10.1 := by rw [eS10]; exact List.prefix_append _ _
  have hk_q9 : m_kd S10 q9 = 100 := by rw [eS10, eq9]; exact m_kd_nwl
  have hk_a0 : m_kd S10 a0 = 5 := m_kd_pre hp hk_a0 (by decide)
  refine mj_putP dX6_init_49 fl_X6_36_5 hk_a0 (Or.inr ⟨rfl, rfl⟩) rfl hk_q9 (fun _ => rfl) (fun _ => rfl) ?_
  obtain ⟨S11, eS11⟩ : ∃ z, z = m_sp S10 a0 8 (some q9) := ⟨_, rfl⟩
  rw [← eS11]
  replace h := h S11 eS11
  have hk_a0 : m_kd S11 a0 = 5 := by rw [eS11]; exact hk_a0
  have hk_q9 : m_kd S11 q9 = 100 := by rw [eS11]; exact hk_q9
  refine mj_aload_n dX6_init_52 rfl rfl ?_
  refine mj_bipush (v := 10) dX6_init_53 (by decide) ?_
  refine mj_newI (N := 10) dX6_init_55 ar_int (by decide) (by decide) (by decide) (Nat.le_of_ble_eq_true rfl) (Nat.le_of_ble_eq_true rfl) ?_
  obtain ⟨q12, eq12⟩ : ∃ z, z = S11.1.length := ⟨_, rfl⟩
  rw [← eq12]
  obtain ⟨S13, eS13⟩ : ∃ z, z = m_nw S11 100 10 := ⟨_, rfl⟩
  rw [← eS13]
  replace h := h q12 eq12 S13 eS13
  have hp : S11.1 <+: S13.1 := by rw [eS13]; exact List.prefix_append _ _
  have hk_q12 : m_kd S13 q12 = 100 := by rw [eS13, eq12]; exact m_kd_nwl
  have hk_a0 : m_kd S13 a0 = 5 := m_kd_pre hp hk_a0 (by decide)
  have hk_q9 : m_kd S13 q9 = 100 := m_kd_pre hp hk_q9 (by decide)
  refine mj_putP dX6_init_57 fl_X6_40_5 hk_a0 (Or.inr ⟨rfl, rfl⟩) rfl hk_q12 (fun _ => rfl) (fun _ => rfl) ?_
  obtain ⟨S14, eS14⟩ : ∃ z, z = m_sp S13 a0 9 (some q12) := ⟨_, rfl⟩
  rw [← eS14]
  replace h := h S14 eS14
  have hk_a0 : m_kd S14 a0 = 5 := by rw [eS14]; exact hk_a0
  have hk_q9 : m_kd S14 q9 = 100 := by rw [eS14]; exact hk_q9
  have hk_q12 : m_kd S14 q12 = 100 := by rw [eS14]; exact hk_q12
  refine mj_aload_n dX6_init_60 rfl rfl ?_
  refine mj_bipush (v := 10) dX6_init_61 (by decide) ?_
  refine mj_newI (N := 10) dX6_init_63 ar_int (by decide) (by decide) (by decide) (Nat.le_of_ble_eq_true rfl) (Nat.le_of_ble_eq_true rfl) ?_
  obtain ⟨q15, eq15⟩ : ∃ z, z = S14.1.length := ⟨_, rfl⟩
  rw [← eq15]
  obtain ⟨S16, eS16⟩ : ∃ z, z = m_nw S14 100 10 := ⟨_, rfl⟩
  rw [← eS16]
  replace h := h q15 eq15 S16 eS16
  have hp : S14.1 <+: S16.1 := by rw [eS16]; exact List.prefix_append _ _
  have hk_q15 : m_kd S16 q15 = 100 := by rw [eS16, eq15]; exact m_kd_nwl
  have hk_a0 : m_kd S16 a0 = 5 := m_kd_pre hp hk_a0 (by decide)
  have hk_q9 : m_kd S16 q9 = 100 := m_kd_pre hp hk_q9 (by decide)
  have hk_q12 : m_kd S16 q12 = 100 := m_kd_pre hp hk_q12 (by decide)
  refine mj_putP dX6_init_65 fl_X6_43_5 hk_a0 (Or.inr ⟨rfl, rfl⟩) rfl hk_q15 (fun _ => rfl) (fun _ => rfl) ?_
  obtain ⟨S17, eS17⟩ : ∃ z, z = m_sp S16 a0 10 (some q15) := ⟨_, rfl⟩
  rw [← eS17]
  replace h := h S17 eS17
  have hk_a0 : m_kd S17 a0 = 5 := by rw [eS17]; exact hk_a0
  have hk_q9 : m_kd S17 q9 = 100 := by rw [eS17]; exact hk_q9
  have hk_q12 : m_kd S17 q12 = 100 := by rw [eS17]; exact hk_q12
  have hk_q15 : m_kd S17 q15 = 100 := by rw [eS17]; exact hk_q15
  refine mj_aload_n dX6_init_68 rfl rfl ?_
  refine mj_bipush (v := 10) dX6_init_69 (by decide) ?_
  refine mj_newI (N := 10) dX6_init_71 ar_int (by decide) (by decide) (by decide) (Nat.le_of_ble_eq_true rfl) (Nat.le_of_ble_eq_true rfl) ?_
  obtain ⟨q18, eq18⟩ : ∃ z, z = S17.1.length := ⟨_, rfl⟩
  rw [← eq18]
  obtain ⟨S19, eS19⟩ : ∃ z, z = m_nw S17 100 10 := ⟨_, rfl⟩
  rw [← eS19]
  replace h := h q18 eq18 S19 eS19
  have hp : S17.1 <+: S19.1 := by rw [eS19]; exact List.prefix_append _ _
  have hk_q18 : m_kd S19 q18 = 100 := by rw [eS19, eq18]; exact m_kd_nwl
  have hk_a0 : m_kd S19 a0 = 5 := m_kd_pre hp hk_a0 (by decide)
  have hk_q9 : m_kd S19 q9 = 100 := m_kd_pre hp hk_q9 (by decide)
  have hk_q12 : m_kd S19 q12 = 100 := m_kd_pre hp hk_q12 (by decide)
  have hk_q15 : m_kd S19 q15 = 100 := m_kd_pre hp hk_q15 (by decide)
  refine mj_putP dX6_init_73 fl_X6_46_5 hk_a0 (Or.inr ⟨rfl, rfl⟩) rfl hk_q18 (fun _ => rfl) (fun _ => rfl) ?_
  obtain ⟨S20, eS20⟩ : ∃ z, z = m_sp S19 a0 11 (some q18) := ⟨_, rfl⟩
  rw [← eS20]
  replace h := h S20 eS20
  have hk_a0 : m_kd S20 a0 = 5 := by rw [eS20]; exact hk_a0
  have hk_q9 : m_kd S20 q9 = 100 := by rw [eS20]; exact hk_q9
  have hk_q12 : m_kd S20 q12 = 100 := by rw [eS20]; exact hk_q12
  have hk_q15 : m_kd S20 q15 = 100 := by rw [eS20]; exact hk_q15
  have hk_q18 : m_kd S20 q18 = 100 := by rw [eS20]; exact hk_q18
  refine mj_aload_n dX6_init_76 rfl rfl ?_
  refine mj_bipush (v := 10) dX6_init_77 (by decide) ?_
  refine mj_newI (N := 10) dX6_init_79 ar_int (by decide) (by decide) (by decide) (Nat.le_of_ble_eq_true rfl) (Nat.le_of_ble_eq_true rfl) ?_
  obtain ⟨q21, eq21⟩ : ∃ z, z = S20.1.length := ⟨_, rfl⟩
  rw [← eq21]
  obtain ⟨S22, eS22⟩ : ∃ z, z = m_nw S20 100 10 := ⟨_, rfl⟩
  rw [← eS22]
  replace h := h q21 eq21 S22 eS22
  have hp : S20.1 <+: S22.1 := by rw [eS22]; exact List.prefix_append _ _
  have hk_q21 : m_kd S22 q21 = 100 := by rw [eS22, eq21]; exact m_kd_nwl
  have hk_a0 : m_kd S22 a0 = 5 := m_kd_pre hp hk_a0 (by decide)
  have hk_q9 : m_kd S22 q9 = 100 := m_kd_pre hp hk_q9 (by decide)
  have hk_q12 : m_kd S22 q12 = 100 := m_kd_pre hp hk_q12 (by decide)
  have hk_q15 : m_kd S22 q15 = 100 := m_kd_pre hp hk_q15 (by decide)
  have hk_q18 : m_kd S22 q18 = 100 := m_kd_pre hp hk_q18 (by decide)
  refine mj_putP dX6_init_81 fl_X6_49_5 hk_a0 (Or.inr ⟨rfl, rfl⟩) rfl hk_q21 (fun _ => rfl) (fun _ => rfl) ?_
  obtain ⟨S23, eS23⟩ : ∃ z, z = m_sp S22 a0 12 (some q21) := ⟨_, rfl⟩
  rw [← eS23]
  replace h := h S23 eS23
  have hk_a0 : m_kd S23 a0 = 5 := by rw [eS23]; exact hk_a0
  have hk_q9 : m_kd S23 q9 = 100 := by rw [eS23]; exact hk_q9
  have hk_q12 : m_kd S23 q12 = 100 := by rw [eS23]; exact hk_q12
  have hk_q15 : m_kd S23 q15 = 100 := by rw [eS23]; exact hk_q15
  have hk_q18 : m_kd S23 q18 = 100 := by rw [eS23]; exact hk_q18
  have hk_q21 : m_kd S23 q21 = 100 := by rw [eS23]; exact hk_q21
  refine mj_aload_n dX6_init_84 rfl rfl ?_
  refine mj_bipush (v := 10) dX6_init_85 (by decide) ?_
  refine mj_newI (N := 10) dX6_init_87 ar_int (by decide) (by decide) (by decide) (Nat.le_of_ble_eq_true rfl) (Nat.le_of_ble_eq_true rfl) ?_
  obtain ⟨q24, eq24⟩ : ∃ z, z = S23.1.length := ⟨_, rfl⟩
  rw [← eq24]
  obtain ⟨S25, eS25⟩ : ∃ z, z = m_nw S23 100 10 := ⟨_, rfl⟩
  rw [← eS25]
  replace h := h q24 eq24 S25 eS25
  have hp : S23.1 <+: S25.1 := by rw [eS25]; exact List.prefix_append _ _
  have hk_q24 : m_kd S25 q24 = 100 := by rw [eS25, eq24]; exact m_kd_nwl
  have hk_a0 : m_kd S25 a0 = 5 := m_kd_pre hp hk_a0 (by decide)
  have hk_q9 : m_kd S25 q9 = 100 := m_kd_pre hp hk_q9 (by decide)
  have hk_q12 : m_kd S25 q12 = 100 := m_kd_pre hp hk_q12 (by decide)
  have hk_q15 : m_kd S25 q15 = 100 := m_kd_pre hp hk_q15 (by decide)
  have hk_q18 : m_kd S25 q18 = 100 := m_kd_pre hp hk_q18 (by decide)
  have hk_q21 : m_kd S25 q21 = 100 := m_kd_pre hp hk_q21 (by decide)
  refine mj_putP dX6_init_89 fl_X6_52_5 hk_a0 (Or.inr ⟨rfl, rfl⟩) rfl hk_q24 (fun _ => rfl) (fun _ => rfl) ?_
  obtain ⟨S26, eS26⟩ : ∃ z, z = m_sp S25 a0 13 (some q24) := ⟨_, rfl⟩
  rw [← eS26]
  replace h := h S26 eS26
  have hk_a0 : m_kd S26 a0 = 5 := by rw [eS26]; exact hk_a0
  have hk_q9 : m_kd S26 q9 = 100 := by rw [eS26]; exact hk_q9
  have hk_q12 : m_kd S26 q12 = 100 := by rw [eS26]; exact hk_q12
  have hk_q15 : m_kd S26 q15 = 100 := by rw [eS26]; exact hk_q15
  have hk_q18 : m_kd S26 q18 = 100 := by rw [eS26]; exact hk_q18
  have hk_q21 : m_kd S26 q21 = 100 := by rw [eS26]; exact hk_q21
  have hk_q24 : m_kd S26 q24 = 100 := by rw [eS26]; exact hk_q24
  refine mj_aload_n dX6_init_92 rfl rfl ?_
  refine mj_iconst (v := 0) dX6_init_93 (by decide) ?_
  refine mj_putI dX6_init_94 fl_X6_55_5 hk_a0 (Or.inl rfl) rfl rfl rfl ?_
  obtain ⟨S27, eS27⟩ : ∃ z, z = m_si S26 a0 14 (0 : Int32) := ⟨_, rfl⟩
  rw [← eS27]
  replace h := h S27 eS27
  have hk_a0 : m_kd S27 a0 = 5 := by rw [eS27]; exact hk_a0
  have hk_q9 : m_kd S27 q9 = 100 := by rw [eS27]; exact hk_q9
  have hk_q12 : m_kd S27 q12 = 100 := by rw [eS27]; exact hk_q12
  have hk_q15 : m_kd S27 q15 = 100 := by rw [eS27]; exact hk_q15
  have hk_q18 : m_kd S27 q18 = 100 := by rw [eS27]; exact hk_q18
  have hk_q21 : m_kd S27 q21 = 100 := by rw [eS27]; exact hk_q21
  have hk_q24 : m_kd S27 q24 = 100 := by rw [eS27]; exact hk_q24
  refine mj_aload_n dX6_init_97 rfl rfl ?_
  refine mj_iconst (v := 0) dX6_init_98 (by decide) ?_
  refine mj_putI dX6_init_99 fl_X6_58_5 hk_a0 (Or.inl rfl) rfl rfl rfl ?_
  obtain ⟨S28, eS28⟩ : ∃ z, z = m_si S27 a0 15 (0 : Int32) := ⟨_, rfl⟩
  rw [← eS28]
  replace h := h S28 eS28
  have hk_a0 : m_kd S28 a0 = 5 := by rw [eS28]; exact hk_a0
  have hk_q9 : m_kd S28 q9 = 100 := by rw [eS28]; exact hk_q9
  have hk_q12 : m_kd S28 q12 = 100 := by rw [eS28]; exact hk_q12
  have hk_q15 : m_kd S28 q15 = 100 := by rw [eS28]; exact hk_q15
  have hk_q18 : m_kd S28 q18 = 100 := by rw [eS28]; exact hk_q18
  have hk_q21 : m_kd S28 q21 = 100 := by rw [eS28]; exact hk_q21
  have hk_q24 : m_kd S28 q24 = 100 := by rw [eS28]; exact hk_q24
  refine mj_aload_n dX6_init_102 rfl rfl ?_
  refine mj_bipush (v := 6) dX6_init_103 (by decide) ?_
  refine mj_newI (N := 6) dX6_init_105 ar_int (by decide) (by decide) (by decide) (Nat.le_of_ble_eq_true rfl) (Nat.le_of_ble_eq_true rfl) ?_
  obtain ⟨q29, eq29⟩ : ∃ z, z = S28.1.length := ⟨_, rfl⟩
  rw [← eq29]
  obtain ⟨S30, eS30⟩ : ∃ z, z = m_nw S28 100 6 := ⟨_, rfl⟩
  rw [← eS30]
  replace h := h q29 eq29 S30 eS30
  have hp : S28.1 <+: S30.1 := by rw [eS30]; exact List.prefix_append _ _
  have hk_q29 : m_kd S30 q29 = 100 := by rw [eS30, eq29]; exact m_kd_nwl
  have hk_a0 : m_kd S30 a0 = 5 := m_kd_pre hp hk_a0 (by decide)
  have hk_q9 : m_kd S30 q9 = 100 := m_kd_pre hp hk_q9 (by decide)
  have hk_q12 : m_kd S30 q12 = 100 := m_kd_pre hp hk_q12 (by decide)
  have hk_q15 : m_kd S30 q15 = 100 := m_kd_pre hp hk_q15 (by decide)
  have hk_q18 : m_kd S30 q18 = 100 := m_kd_pre hp hk_q18 (by decide)
  have hk_q21 : m_kd S30 q21 = 100 := m_kd_pre hp hk_q21 (by decide)
  have hk_q24 : m_kd S30 q24 = 100 := m_kd_pre hp hk_q24 (by decide)
  refine mj_putP dX6_init_107 fl_X6_61_5 hk_a0 (Or.inr ⟨rfl, rfl⟩) rfl hk_q29 (fun _ => rfl) (fun _ => rfl) ?_
  obtain ⟨S31, eS31⟩ : ∃ z, z = m_sp S30 a0 16 (some q29) := ⟨_, rfl⟩
  rw [← eS31]
  replace h := h S31 eS31
  have hk_a0 : m_kd S31 a0 = 5 := by rw [eS31]; exact hk_a0
  have hk_q9 : m_kd S31 q9 = 100 := by rw [eS31]; exact hk_q9
  have hk_q12 : m_kd S31 q12 = 100 := by rw [eS31]; exact hk_q12
  have hk_q15 : m_kd S31 q15 = 100 := by rw [eS31]; exact hk_q15
  have hk_q18 : m_kd S31 q18 = 100 := by rw [eS31]; exact hk_q18
  have hk_q21 : m_kd S31 q21 = 100 := by rw [eS31]; exact hk_q21
  have hk_q24 : m_kd S31 q24 = 100 := by rw [eS31]; exact hk_q24
  have hk_q29 : m_kd S31 q29 = 100 := by rw [eS31]; exact hk_q29
  refine mj_aload_n dX6_init_110 rfl rfl ?_
  refine mj_bipush (v := 6) dX6_init_111 (by decide) ?_
  refine mj_newI (N := 6) dX6_init_113 ar_int (by decide) (by decide) (by decide) (Nat.le_of_ble_eq_true rfl) (Nat.le_of_ble_eq_true rfl) ?_
  obtain ⟨q32, eq32⟩ : ∃ z, z = S31.1.length := ⟨_, rfl⟩
  rw [← eq32]
  obtain ⟨S33, eS33⟩ : ∃ z, z = m_nw S31 100 6 := ⟨_, rfl⟩
  rw [← eS33]
  replace h := h q32 eq32 S33 eS33
  have hp : S31.1 <+: S33.1 := by rw [eS33]; exact List.prefix_append _ _
  have hk_q32 : m_kd S33 q32 = 100 := by rw [eS33, eq32]; exact m_kd_nwl
  have hk_a0 : m_kd S33 a0 = 5 := m_kd_pre hp hk_a0 (by decide)
  have hk_q9 : m_kd S33 q9 = 100 := m_kd_pre hp hk_q9 (by decide)
  have hk_q12 : m_kd S33 q12 = 100 := m_kd_pre hp hk_q12 (by decide)
  have hk_q15 : m_kd S33 q15 = 100 := m_kd_pre hp hk_q15 (by decide)
  have hk_q18 : m_kd S33 q18 = 100 := m_kd_pre hp hk_q18 (by decide)
  have hk_q21 : m_kd S33 q21 = 100 := m_kd_pre hp hk_q21 (by decide)
  have hk_q24 : m_kd S33 q24 = 100 := m_kd_pre hp hk_q24 (by decide)
  have hk_q29 : m_kd S33 q29 = 100 := m_kd_pre hp hk_q29 (by decide)
  refine mj_putP dX6_init_115 fl_X6_64_5 hk_a0 (Or.inr ⟨rfl, rfl⟩) rfl hk_q32 (fun _ => rfl) (fun _ => rfl) ?_
  obtain ⟨S34, eS34⟩ : ∃ z, z = m_sp S33 a0 17 (some q32) := ⟨_, rfl⟩
  rw [← eS34]
  replace h := h S34 eS34
  have hk_a0 : m_kd S34 a0 = 5 := by rw [eS34]; exact hk_a0
  have hk_q9 : m_kd S34 q9 = 100 := by rw [eS34]; exact hk_q9
  have hk_q12 : m_kd S34 q12 = 100 := by rw [eS34]; exact hk_q12
  have hk_q15 : m_kd S34 q15 = 100 := by rw [eS34]; exact hk_q15
  have hk_q18 : m_kd S34 q18 = 100 := by rw [eS34]; exact hk_q18
  have hk_q21 : m_kd S34 q21 = 100 := by rw [eS34]; exact hk_q21
  have hk_q24 : m_kd S34 q24 = 100 := by rw [eS34]; exact hk_q24
  have hk_q29 : m_kd S34 q29 = 100 := by rw [eS34]; exact hk_q29
  have hk_q32 : m_kd S34 q32 = 100 := by rw [eS34]; exact hk_q32
  exact mj_retv dX6_init_118 rfl ⟨Nat.le_of_ble_eq_true rfl, Nat.le_of_ble_eq_true rfl⟩ h
abbrev V_X6_allSquares_0 (l : Launch) (G : mj_G) (a0 : Nat) (S : mj_S) (Q : mj_S → Int32 → Prop) : Prop := mj_V l G (mj_room 1 0 0) RX6 cX6_allSquares 1 (some .int) false 0 [some (.ref a0)] [] S 0 0 (mj_std G (some .int) (mj_room 1 0 0) (mj_qi Q))
theorem e_X6_allSquares {l : Launch} {G : mj_G} {a0 : Nat} {S : mj_S} {Q : mj_S → Int32 → Prop} (h : V_X6_allSquares_0 l G a0 S Q) : M_X6_allSquares l G a0 S Q := mj_enter (r := 0) (ini := false) (by decide +kernel) (fun h => by cases h) (fun _ => Nat.le_of_ble_eq_true rfl) rfl h
set_option maxRecDepth 20000 in
set_option maxHeartbeats 1000000 in
theorem b_X6_allSquares_0 {l : Launch} {G : mj_G} {a0 : Nat} {S : mj_S} {Q : mj_S → Int32 → Prop} (hk_a0 : m_kd S a0 = 5) (h : Q S (((1 : Int32) <<< ((m_gi S a0 4) &&& 31)) - (1 : Int32))) : V_X6_allSquares_0 l G a0 S Q := by
  refine mj_iconst (v := 1) dX6_allSquares_0 (by decide) ?_
  refine mj_aload_n dX6_allSquares_1 rfl rfl ?_
  refine mj_getI dX6_allSquares_2 fl_X6_24_5 hk_a0 rfl ?_
  refine mj_ishl dX6_allSquares_5 ?_
  refine mj_iconst (v := 1) dX6_allSquares_6 (by decide) ?_
  refine mj_isub dX6_allSquares_7 ?_
  exact mj_reti dX6_allSquares_8 rfl ⟨Nat.le_of_ble_eq_true rfl, Nat.le_of_ble_eq_true rfl⟩ h
abbrev V_X6_allCurtains_0 (l : Launch) (G : mj_G) (a0 : Nat) (S : mj_S) (Q : mj_S → Int32 → Prop) : Prop := mj_V l G (mj_room 1 0 0) RX6 cX6_allCurtains 1 (some .int) false 0 [some (.ref a0)] [] S 0 0 (mj_std G (some .int) (mj_room 1 0 0) (mj_qi Q))
theorem e_X6_allCurtains {l : Launch} {G : mj_G} {a0 : Nat} {S : mj_S} {Q : mj_S → Int32 → Prop} (h : V_X6_allCurtains_0 l G a0 S Q) : M_X6_allCurtains l G a0 S Q := mj_enter (r := 0) (ini := false) (by decide +kernel) (fun h => by cases h) (fun _ => Nat.le_of_ble_eq_true rfl) rfl h
set_option maxRecDepth 20000 in
set_option maxHeartbeats 1000000 in
theorem b_X6_allCurtains_0 {l : Launch} {G : mj_G} {a0 : Nat} {S : mj_S} {Q : mj_S → Int32 → Prop} (hk_a0 : m_kd S a0 = 5) (h : Q S (((1 : Int32) <<< ((m_gi S a0 7) &&& 31)) - (1 : Int32))) : V_X6_allCurtains_0 l G a0 S Q := by
  refine mj_iconst (v := 1) dX6_allCurtains_0 (by decide) ?_
  refine mj_aload_n dX6_allCurtains_1 rfl rfl ?_
  refine mj_getI dX6_allCurtains_2 fl_X6_33_5 hk_a0 rfl ?_
  refine mj_ishl dX6_allCurtains_5 ?_
  refine mj_iconst (v := 1) dX6_allCurtains_6 (by decide) ?_
  refine mj_isub dX6_allCurtains_7 ?_
  exact mj_reti dX6_allCurtains_8 rfl ⟨Nat.le_of_ble_eq_true rfl, Nat.le_of_ble_eq_true rfl⟩ h
abbrev V_X6_allPersons_0 (l : Launch) (G : mj_G) (a0 : Nat) (S : mj_S) (Q : mj_S → Int32 → Prop) : Prop := mj_V l G (mj_room 1 0 0) RX6 cX6_allPersons 1 (some .int) false 0 [some (.ref a0)] [] S 0 0 (mj_std G (some .int) (mj_room 1 0 0) (mj_qi Q))
theorem e_X6_allPersons {l : Launch} {G : mj_G} {a0 : Nat} {S : mj_S} {Q : mj_S → Int32 → Prop} (h : V_X6_allPersons_0 l G a0 S Q) : M_X6_allPersons l G a0 S Q := mj_enter (r := 0) (ini := false) (by decide +kernel) (fun h => by cases h) (fun _ => Nat.le_of_ble_eq_true rfl) rfl h
set_option maxRecDepth 20000 in
set_option maxHeartbeats 1000000 in
theorem b_X6_allPersons_0 {l : Launch} {G : mj_G} {a0 : Nat} {S : mj_S} {Q : mj_S → Int32 → Prop} (hk_a0 : m_kd S a0 = 5) (h : Q S (((1 : Int32) <<< ((m_gi S a0 15) &&& 31)) - (1 : Int32))) : V_X6_allPersons_0 l G a0 S Q := by
  refine mj_iconst (v := 1) dX6_allPersons_0 (by decide) ?_
  refine mj_aload_n dX6_allPersons_1 rfl rfl ?_
  refine mj_getI dX6_allPersons_2 fl_X6_58_5 hk_a0 rfl ?_
  refine mj_ishl dX6_allPersons_5 ?_
  refine mj_iconst (v := 1) dX6_allPersons_6 (by decide) ?_
  refine mj_isub dX6_allPersons_7 ?_
  exact mj_reti dX6_allPersons_8 rfl ⟨Nat.le_of_ble_eq_true rfl, Nat.le_of_ble_eq_true rfl⟩ h
abbrev V_X6_clear_0 (l : Launch) (G : mj_G) (a0 : Nat) (S : mj_S) (Q : mj_S → Prop) : Prop := mj_V l G (mj_room 2 0 0) RX6 cX6_clear 1 none false 0 [some (.ref a0)] [] S 0 0 (mj_std G none (mj_room 2 0 0) (mj_qv Q))
theorem e_X6_clear {l : Launch} {G : mj_G} {a0 : Nat} {S : mj_S} {Q : mj_S → Prop} (h : V_X6_clear_0 l G a0 S Q) : M_X6_clear l G a0 S Q := mj_enter (r := 0) (ini := false) (by decide +kernel) (fun h => by cases h) (fun _ => Nat.le_of_ble_eq_true rfl) rfl h
set_option maxRecDepth 20000 in
set_option maxHeartbeats 1000000 in
theorem b_X6_clear_0 {l : Launch} {G : mj_G} {a0 : Nat} {S : mj_S} {Q : mj_S → Prop} (hk_a0 : m_kd S a0 = 5) (h : ∀ S1 : mj_S, S1 = m_si S a0 7 (0 : Int32) → ∀ S2 : mj_S, S2 = m_si S1 a0 14 (0 : Int32) → ∀ S3 : mj_S, S3 = m_si S2 a0 15 (0 : Int32) → M_X6_setRules l G a0 3 S3 (fun S4 => Q S4)) : V_X6_clear_0 l G a0 S Q := by
  refine mj_aload_n dX6_clear_0 rfl rfl ?_
  refine mj_iconst (v := 0) dX6_clear_1 (by decide) ?_
  refine mj_putI dX6_clear_2 fl_X6_33_5 hk_a0 (Or.inl rfl) rfl rfl rfl ?_
  obtain ⟨S1, eS1⟩ : ∃ z, z = m_si S a0 7 (0 : Int32) := ⟨_, rfl⟩
  rw [← eS1]
  replace h := h S1 eS1
  have hk_a0 : m_kd S1 a0 = 5 := by rw [eS1]; exact hk_a0
  refine mj_aload_n dX6_clear_5 rfl rfl ?_
  refine mj_iconst (v := 0) dX6_clear_6 (by decide) ?_
  refine mj_putI dX6_clear_7 fl_X6_55_5 hk_a0 (Or.inl rfl) rfl rfl rfl ?_
  obtain ⟨S2, eS2⟩ : ∃ z, z = m_si S1 a0 14 (0 : Int32) := ⟨_, rfl⟩
  rw [← eS2]
  replace h := h S2 eS2
  have hk_a0 : m_kd S2 a0 = 5 := by rw [eS2]; exact hk_a0
  refine mj_aload_n dX6_clear_10 rfl rfl ?_
  refine mj_iconst (v := 0) dX6_clear_11 (by decide) ?_
  refine mj_putI dX6_clear_12 fl_X6_58_5 hk_a0 (Or.inl rfl) rfl rfl rfl ?_
  obtain ⟨S3, eS3⟩ : ∃ z, z = m_si S2 a0 15 (0 : Int32) := ⟨_, rfl⟩
  rw [← eS3]
  replace h := h S3 eS3
  have hk_a0 : m_kd S3 a0 = 5 := by rw [eS3]; exact hk_a0
  refine mj_aload_n dX6_clear_15 rfl rfl ?_
  refine mj_gets (i := 3) (t := 110) dX6_clear_16 (by decide) rfl gs_X6_67 (fun _ => rfl) (fun hk_t3 _ => ?_)
  refine mj_callVv (as := [.ref 3]) (st := []) dX6_clear_19 cal_X6_setRules lk_X6_70 im_X6_setRules se_X6_setRules (ci := 5) rfl (by decide) hk_a0 h rfl (Nat.le_of_ble_eq_true rfl) (by decide) ⟨Nat.le_of_ble_eq_true rfl, Nat.le_of_ble_eq_true rfl⟩ (fun S4 h hp => ?_)
  have hk_a0 : m_kd S4 a0 = 5 := m_kd_pre hp hk_a0 (by decide)
  have hk_t3 : m_kd S4 3 = 110 := m_kd_pre hp hk_t3 (by decide)
  exact mj_retv dX6_clear_22 rfl ⟨Nat.le_of_ble_eq_true rfl, Nat.le_of_ble_eq_true rfl⟩ h
abbrev V_X6_setRules_0 (l : Launch) (G : mj_G) (a0 : Nat) (a1 : Nat) (S : mj_S) (Q : mj_S → Prop) : Prop := mj_V l G (mj_room 1 0 0) RX6 cX6_setRules 2 none false 0 [some (.ref a0), some (.ref a1)] [] S 0 0 (mj_std G none (mj_room 1 0 0) (mj_qv Q))
theorem e_X6_setRules {l : Launch} {G : mj_G} {a0 : Nat} {a1 : Nat} {S : mj_S} {Q : mj_S → Prop} (h : V_X6_setRules_0 l G a0 a1 S Q) : M_X6_setRules l G a0 a1 S Q := mj_enter (r := 0) (ini := false) (by decide +kernel) (fun h => by cases h) (fun _ => Nat.le_of_ble_eq_true rfl) rfl h
set_option maxRecDepth 20000 in
set_option maxHeartbeats 1000000 in
theorem b_X6_setRules_0 {l : Launch} {G : mj_G} {a0 : Nat} {a1 : Nat} {S : mj_S} {Q : mj_S → Prop} (hk_a0 : m_kd S a0 = 5) (hk_a1 : m_kd S a1 = 100 ∨ m_kd S a1 = 110) (h : vp_in (0 : Int32) (m_ln S a1) ∧ (∀ S1 : mj_S, S1 = m_si S a0 0 (m_gi S a1 ((0 : Int32)).toNatClampNeg) → vp_in (1 : Int32) (m_ln S1 a1) ∧ (∀ S2 : mj_S, S2 = m_si S1 a0 1 (m_gi S1 a1 ((1 : Int32)).toNatClampNeg) → vp_in (2 : Int32) (m_ln S2 a1) ∧ (∀ S3 : mj_S, S3 = m_si S2 a0 2 (m_gi S2 a1 ((2 : Int32)).toNatClampNeg) → vp_in (3 : Int32) (m_ln S3 a1) ∧ (∀ S4 : mj_S, S4 = m_si S3 a0 3 (m_gi S3 a1 ((3 : Int32)).toNatClampNeg) → Q S4))))) : V_X6_setRules_0 l G a0 a1 S Q := by
  refine mj_aload_n dX6_setRules_0 rfl rfl ?_
  refine mj_aload_n dX6_setRules_1 rfl rfl ?_
  refine mj_iconst (v := 0) dX6_setRules_2 (by decide) ?_
  refine mj_iald dX6_setRules_3 hk_a1 ⟨h.1, ?_⟩
  replace h := h.2
  refine mj_putI dX6_setRules_4 fl_X6_9_5 hk_a0 (Or.inl rfl) rfl rfl rfl ?_
  obtain ⟨S1, eS1⟩ : ∃ z, z = m_si S a0 0 (m_gi S a1 ((0 : Int32)).toNatClampNeg) := ⟨_, rfl⟩
  rw [← eS1]
  replace h := h S1 eS1
  have hk_a0 : m_kd S1 a0 = 5 := by rw [eS1]; exact hk_a0
  have hk_a1 : m_kd S1 a1 = 100 ∨ m_kd S1 a1 = 110 := by rw [eS1]; exact hk_a1
  refine mj_aload_n dX6_setRules_7 rfl rfl ?_
  refine mj_aload_n dX6_setRules_8 rfl rfl ?_
  refine mj_iconst (v := 1) dX6_setRules_9 (by decide) ?_
  refine mj_iald dX6_setRules_10 hk_a1 ⟨h.1, ?_⟩
  replace h := h.2
  refine mj_putI dX6_setRules_11 fl_X6_15_5 hk_a0 (Or.inl rfl) rfl rfl rfl ?_
  obtain ⟨S2, eS2⟩ : ∃ z, z = m_si S1 a0 1 (m_gi S1 a1 ((1 : Int32)).toNatClampNeg) := ⟨_, rfl⟩
  rw [← eS2]
  replace h := h S2 eS2
  have hk_a0 : m_kd S2 a0 = 5 := by rw [eS2]; exact hk_a0
  have hk_a1 : m_kd S2 a1 = 100 ∨ m_kd S2 a1 = 110 := by rw [eS2]; exact hk_a1
  refine mj_aload_n dX6_setRules_14 rfl rfl ?_
  refine mj_aload_n dX6_setRules_15 rfl rfl ?_
  refine mj_iconst (v := 2) dX6_setRules_16 (by decide) ?_
  refine mj_iald dX6_setRules_17 hk_a1 ⟨h.1, ?_⟩
  replace h := h.2
  refine mj_putI dX6_setRules_18 fl_X6_18_5 hk_a0 (Or.inl rfl) rfl rfl rfl ?_
  obtain ⟨S3, eS3⟩ : ∃ z, z = m_si S2 a0 2 (m_gi S2 a1 ((2 : Int32)).toNatClampNeg) := ⟨_, rfl⟩
  rw [← eS3]
  replace h := h S3 eS3
  have hk_a0 : m_kd S3 a0 = 5 := by rw [eS3]; exact hk_a0
  have hk_a1 : m_kd S3 a1 = 100 ∨ m_kd S3 a1 = 110 := by rw [eS3]; exact hk_a1
  refine mj_aload_n dX6_setRules_21 rfl rfl ?_
  refine mj_aload_n dX6_setRules_22 rfl rfl ?_
  refine mj_iconst (v := 3) dX6_setRules_23 (by decide) ?_
  refine mj_iald dX6_setRules_24 hk_a1 ⟨h.1, ?_⟩
  replace h := h.2
  refine mj_putI dX6_setRules_25 fl_X6_21_5 hk_a0 (Or.inl rfl) rfl rfl rfl ?_
  obtain ⟨S4, eS4⟩ : ∃ z, z = m_si S3 a0 3 (m_gi S3 a1 ((3 : Int32)).toNatClampNeg) := ⟨_, rfl⟩
  rw [← eS4]
  replace h := h S4 eS4
  have hk_a0 : m_kd S4 a0 = 5 := by rw [eS4]; exact hk_a0
  have hk_a1 : m_kd S4 a1 = 100 ∨ m_kd S4 a1 = 110 := by rw [eS4]; exact hk_a1
  exact mj_retv dX6_setRules_28 rfl ⟨Nat.le_of_ble_eq_true rfl, Nat.le_of_ble_eq_true rfl⟩ h
abbrev V_X6_addCurtain_0 (l : Launch) (G : mj_G) (a0 : Nat) (a1 : Nat) (S : mj_S) (Q : mj_S → Prop) : Prop := mj_V l G (mj_room 1 0 0) RX6 cX6_addCurtain 2 none false 0 [some (.ref a0), some (.ref a1)] [] S 0 0 (mj_std G none (mj_room 1 0 0) (mj_qv Q))
theorem e_X6_addCurtain {l : Launch} {G : mj_G} {a0 : Nat} {a1 : Nat} {S : mj_S} {Q : mj_S → Prop} (h : V_X6_addCurtain_0 l G a0 a1 S Q) : M_X6_addCurtain l G a0 a1 S Q := mj_enter (r := 0) (ini := false) (by decide +kernel) (fun h => by cases h) (fun _ => Nat.le_of_ble_eq_true rfl) rfl h
set_option maxRecDepth 20000 in
set_option maxHeartbeats 1000000 in
theorem b_X6_addCurtain_0 {l : Launch} {G : mj_G} {a0 : Nat} {a1 : Nat} {S : mj_S} {Q : mj_S → Prop} (hk_a0 : m_kd S a0 = 5) (hk_a1 : m_kd S a1 = 100) (h : (((m_gi S a0 7) < (10 : Int32)) → ∃ b1, m_gp S a0 8 = some b1 ∧ (vp_in (4 : Int32) (m_ln S a1) ∧ (vp_in (m_gi S a0 7) (m_ln S b1) ∧ (∀ S2 : mj_S, S2 = m_si S b1 ((m_gi S a0 7)).toNatClampNeg (m_gi S a1 ((4 : Int32)).toNatClampNeg) → ∃ b3, m_gp S2 a0 10 = some b3 ∧ (vp_in (5 : Int32) (m_ln S2 a1) ∧ (vp_in (m_gi S2 a0 7) (m_ln S2 b3) ∧ (∀ S4 : mj_S, S4 = m_si S2 b3 ((m_gi S2 a0 7)).toNatClampNeg (m_gi S2 a1 ((5 : Int32)).toNatClampNeg) → ∃ b5, m_gp S4 a0 11 = some b5 ∧ (vp_in (6 : Int32) (m_ln S4 a1) ∧ (vp_in (m_gi S4 a0 7) (m_ln S4 b5) ∧ (∀ S6 : mj_S, S6 = m_si S4 b5 ((m_gi S4 a0 7)).toNatClampNeg (m_gi S4 a1 ((6 : Int32)).toNatClampNeg) → ∃ b7, m_gp S6 a0 13 = some b7 ∧ (vp_in (7 : Int32) (m_ln S6 a1) ∧ (vp_in (m_gi S6 a0 7) (m_ln S6 b7) ∧ (∀ S8 : mj_S, S8 = m_si S6 b7 ((m_gi S6 a0 7)).toNatClampNeg (m_gi S6 a1 ((7 : Int32)).toNatClampNeg) → ∃ b9, m_gp S8 a0 12 = some b9 ∧ (vp_in (8 : Int32) (m_ln S8 a1) ∧ (vp_in (m_gi S8 a0 7) (m_ln S8 b9) ∧ (∀ S10 : mj_S, S10 = m_si S8 b9 ((m_gi S8 a0 7)).toNatClampNeg (m_gi S8 a1 ((8 : Int32)).toNatClampNeg) → vp_in (9 : Int32) (m_ln S10 a1) ∧ (∀ S11 : mj_S, S11 = m_si S10 a0 14 ((m_gi S10 a0 14) ||| ((m_gi S10 a1 ((9 : Int32)).toNatClampNeg) <<< ((m_gi S10 a0 7) &&& 31))) → ∀ S12 : mj_S, S12 = m_si S11 a0 7 ((m_gi S11 a0 7) + (1 : Int32)) → Q S12))))))))))))))))) ∧ ((¬ ((m_gi S a0 7) < (10 : Int32))) → Q S)) : V_X6_addCurtain_0 l G a0 a1 S Q := by
  refine mj_aload_n dX6_addCurtain_0 rfl rfl ?_
  refine mj_getI dX6_addCurtain_1 fl_X6_33_5 hk_a0 rfl ?_
  refine mj_bipush (v := 10) dX6_addCurtain_4 (by decide) ?_
  refine mj_icmp_lt (tgt := 10) dX6_addCurtain_6 (by decide) ⟨fun hc => ?_, fun hc => ?_⟩
  · replace h := h.1 hc
    refine mj_aload_n dX6_addCurtain_10 rfl rfl ?_
    obtain ⟨b1, eb1, h⟩ := h
    refine mj_getP dX6_addCurtain_11 fl_X6_36_5 hk_a0 rfl ⟨b1, eb1, fun hk_b1 => ?_⟩
    refine mj_aload_n dX6_addCurtain_14 rfl rfl ?_
    refine mj_getI dX6_addCurtain_15 fl_X6_33_5 hk_a0 rfl ?_
    refine mj_aload_n dX6_addCurtain_18 rfl rfl ?_
    refine mj_iconst (v := 4) dX6_addCurtain_19 (by decide) ?_
    refine mj_iald dX6_addCurtain_20 (Or.inl hk_a1) ⟨h.1, ?_⟩
    replace h := h.2
    refine mj_iast dX6_addCurtain_21 hk_b1 ⟨h.1, ?_⟩
    replace h := h.2
    obtain ⟨S2, eS2⟩ : ∃ z, z = m_si S b1 ((m_gi S a0 7)).toNatClampNeg (m_gi S a1 ((4 : Int32)).toNatClampNeg) := ⟨_, rfl⟩
    rw [← eS2]
    replace h := h S2 eS2
    have hk_a0 : m_kd S2 a0 = 5 := by rw [eS2]; exact hk_a0
    have hk_a1 : m_kd S2 a1 = 100 := by rw [eS2]; exact hk_a1
    have hk_b1 : m_kd S2 b1 = 100 := by rw [eS2]; exact hk_b1
    refine mj_aload_n dX6_addCurtain_22 rfl rfl ?_
    obtain ⟨b3, eb3, h⟩ := h
    refine mj_getP dX6_addCurtain_23 fl_X6_43_5 hk_a0 rfl ⟨b3, eb3, fun hk_b3 => ?_⟩
    refine mj_aload_n dX6_addCurtain_26 rfl rfl ?_
    refine mj_getI dX6_addCurtain_27 fl_X6_33_5 hk_a0 rfl ?_
    refine mj_aload_n dX6_addCurtain_30 rfl rfl ?_
    refine mj_iconst (v := 5) dX6_addCurtain_31 (by decide) ?_
    refine mj_iald dX6_addCurtain_32 (Or.inl hk_a1) ⟨h.1, ?_⟩
    replace h := h.2
    refine mj_iast dX6_addCurtain_33 hk_b3 ⟨h.1, ?_⟩
    replace h := h.2
    obtain ⟨S4, eS4⟩ : ∃ z, z = m_si S2 b3 ((m_gi S2 a0 7)).toNatClampNeg (m_gi S2 a1 ((5 : Int32)).toNatClampNeg) := ⟨_, rfl⟩
    rw [← eS4]
    replace h := h S4 eS4
    have hk_a0 : m_kd S4 a0 = 5 := by rw [eS4]; exact hk_a0
    have hk_a1 : m_kd S4 a1 = 100 := by rw [eS4]; exact hk_a1
    have hk_b1 : m_kd S4 b1 = 100 := by rw [eS4]; exact hk_b1
    have hk_b3 : m_kd S4 b3 = 100 := by rw [eS4]; exact hk_b3
    refine mj_aload_n dX6_addCurtain_34 rfl rfl ?_
    obtain ⟨b5, eb5, h⟩ := h
    refine mj_getP dX6_addCurtain_35 fl_X6_46_5 hk_a0 rfl ⟨b5, eb5, fun hk_b5 => ?_⟩
    refine mj_aload_n dX6_addCurtain_38 rfl rfl ?_
    refine mj_getI dX6_addCurtain_39 fl_X6_33_5 hk_a0 rfl ?_
    refine mj_aload_n dX6_addCurtain_42 rfl rfl ?_
    refine mj_bipush (v := 6) dX6_addCurtain_43 (by decide) ?_
    refine mj_iald dX6_addCurtain_45 (Or.inl hk_a1) ⟨h.1, ?_⟩
    replace h := h.2
    refine mj_iast dX6_addCurtain_46 hk_b5 ⟨h.1, ?_⟩
    replace h := h.2
    obtain ⟨S6, eS6⟩ : ∃ z, z = m_si S4 b5 ((m_gi S4 a0 7)).toNatClampNeg (m_gi S4 a1 ((6 : Int32)).toNatClampNeg) := ⟨_, rfl⟩
    rw [← eS6]
    replace h := h S6 eS6
    have hk_a0 : m_kd S6 a0 = 5 := by rw [eS6]; exact hk_a0
    have hk_a1 : m_kd S6 a1 = 100 := by rw [eS6]; exact hk_a1
    have hk_b1 : m_kd S6 b1 = 100 := by rw [eS6]; exact hk_b1
    have hk_b3 : m_kd S6 b3 = 100 := by rw [eS6]; exact hk_b3
    have hk_b5 : m_kd S6 b5 = 100 := by rw [eS6]; exact hk_b5
    refine mj_aload_n dX6_addCurtain_47 rfl rfl ?_
    obtain ⟨b7, eb7, h⟩ := h
    refine mj_getP dX6_addCurtain_48 fl_X6_52_5 hk_a0 rfl ⟨b7, eb7, fun hk_b7 => ?_⟩
    refine mj_aload_n dX6_addCurtain_51 rfl rfl ?_
    refine mj_getI dX6_addCurtain_52 fl_X6_33_5 hk_a0 rfl ?_
    refine mj_aload_n dX6_addCurtain_55 rfl rfl ?_
    refine mj_bipush (v := 7) dX6_addCurtain_56 (by decide) ?_
    refine mj_iald dX6_addCurtain_58 (Or.inl hk_a1) ⟨h.1, ?_⟩
    replace h := h.2
    refine mj_iast dX6_addCurtain_59 hk_b7 ⟨h.1, ?_⟩
    replace h := h.2
    obtain ⟨S8, eS8⟩ : ∃ z, z = m_si S6 b7 ((m_gi S6 a0 7)).toNatClampNeg (m_gi S6 a1 ((7 : Int32)).toNatClampNeg) := ⟨_, rfl⟩
    rw [← eS8]
    replace h := h S8 eS8
    have hk_a0 : m_kd S8 a0 = 5 := by rw [eS8]; exact hk_a0
    have hk_a1 : m_kd S8 a1 = 100 := by rw [eS8]; exact hk_a1
    have hk_b1 : m_kd S8 b1 = 100 := by rw [eS8]; exact hk_b1
    have hk_b3 : m_kd S8 b3 = 100 := by rw [eS8]; exact hk_b3
    have hk_b5 : m_kd S8 b5 = 100 := by rw [eS8]; exact hk_b5
    have hk_b7 : m_kd S8 b7 = 100 := by rw [eS8]; exact hk_b7
    refine mj_aload_n dX6_addCurtain_60 rfl rfl ?_
    obtain ⟨b9, eb9, h⟩ := h
    refine mj_getP dX6_addCurtain_61 fl_X6_49_5 hk_a0 rfl ⟨b9, eb9, fun hk_b9 => ?_⟩
    refine mj_aload_n dX6_addCurtain_64 rfl rfl ?_
    refine mj_getI dX6_addCurtain_65 fl_X6_33_5 hk_a0 rfl ?_
    refine mj_aload_n dX6_addCurtain_68 rfl rfl ?_
    refine mj_bipush (v := 8) dX6_addCurtain_69 (by decide) ?_
    refine mj_iald dX6_addCurtain_71 (Or.inl hk_a1) ⟨h.1, ?_⟩
    replace h := h.2
    refine mj_iast dX6_addCurtain_72 hk_b9 ⟨h.1, ?_⟩
    replace h := h.2
    obtain ⟨S10, eS10⟩ : ∃ z, z = m_si S8 b9 ((m_gi S8 a0 7)).toNatClampNeg (m_gi S8 a1 ((8 : Int32)).toNatClampNeg) := ⟨_, rfl⟩
    rw [← eS10]
    replace h := h S10 eS10
    have hk_a0 : m_kd S10 a0 = 5 := by rw [eS10]; exact hk_a0
    have hk_a1 : m_kd S10 a1 = 100 := by rw [eS10]; exact hk_a1
    have hk_b1 : m_kd S10 b1 = 100 := by rw [eS10]; exact hk_b1
    have hk_b3 : m_kd S10 b3 = 100 := by rw [eS10]; exact hk_b3
    have hk_b5 : m_kd S10 b5 = 100 := by rw [eS10]; exact hk_b5
    have hk_b7 : m_kd S10 b7 = 100 := by rw [eS10]; exact hk_b7
    have hk_b9 : m_kd S10 b9 = 100 := by rw [eS10]; exact hk_b9
    refine mj_aload_n dX6_addCurtain_73 rfl rfl ?_
    refine mj_dup dX6_addCurtain_74 rfl ?_
    refine mj_getI dX6_addCurtain_75 fl_X6_55_5 hk_a0 rfl ?_
    refine mj_aload_n dX6_addCurtain_78 rfl rfl ?_
    refine mj_bipush (v := 9) dX6_addCurtain_79 (by decide) ?_
    refine mj_iald dX6_addCurtain_81 (Or.inl hk_a1) ⟨h.1, ?_⟩
    replace h := h.2
    refine mj_aload_n dX6_addCurtain_82 rfl rfl ?_
    refine mj_getI dX6_addCurtain_83 fl_X6_33_5 hk_a0 rfl ?_
    refine mj_ishl dX6_addCurtain_86 ?_
    refine mj_ior dX6_addCurtain_87 ?_
    refine mj_putI dX6_addCurtain_88 fl_X6_55_5 hk_a0 (Or.inl rfl) rfl rfl rfl ?_
    obtain ⟨S11, eS11⟩ : ∃ z, z = m_si S10 a0 14 ((m_gi S10 a0 14) ||| ((m_gi S10 a1 ((9 : Int32)).toNatClampNeg) <<< ((m_gi S10 a0 7) &&& 31))) := ⟨_, rfl⟩
    rw [← eS11]
    replace h := h S11 eS11
    have hk_a0 : m_kd S11 a0 = 5 := by rw [eS11]; exact hk_a0
    have hk_a1 : m_kd S11 a1 = 100 := by rw [eS11]; exact hk_a1
    have hk_b1 : m_kd S11 b1 = 100 := by rw [eS11]; exact hk_b1
    have hk_b3 : m_kd S11 b3 = 100 := by rw [eS11]; exact hk_b3
    have hk_b5 : m_kd S11 b5 = 100 := by rw [eS11]; exact hk_b5
    have hk_b7 : m_kd S11 b7 = 100 := by rw [eS11]; exact hk_b7
    have hk_b9 : m_kd S11 b9 = 100 := by rw [eS11]; exact hk_b9
    refine mj_aload_n dX6_addCurtain_91 rfl rfl ?_
    refine mj_dup dX6_addCurtain_92 rfl ?_
    refine mj_getI dX6_addCurtain_93 fl_X6_33_5 hk_a0 rfl ?_
    refine mj_iconst (v := 1) dX6_addCurtain_96 (by decide) ?_
    refine mj_iadd dX6_addCurtain_97 ?_
    refine mj_putI dX6_addCurtain_98 fl_X6_33_5 hk_a0 (Or.inl rfl) rfl rfl rfl ?_
    obtain ⟨S12, eS12⟩ : ∃ z, z = m_si S11 a0 7 ((m_gi S11 a0 7) + (1 : Int32)) := ⟨_, rfl⟩
    rw [← eS12]
    replace h := h S12 eS12
    have hk_a0 : m_kd S12 a0 = 5 := by rw [eS12]; exact hk_a0
    have hk_a1 : m_kd S12 a1 = 100 := by rw [eS12]; exact hk_a1
    have hk_b1 : m_kd S12 b1 = 100 := by rw [eS12]; exact hk_b1
    have hk_b3 : m_kd S12 b3 = 100 := by rw [eS12]; exact hk_b3
    have hk_b5 : m_kd S12 b5 = 100 := by rw [eS12]; exact hk_b5
    have hk_b7 : m_kd S12 b7 = 100 := by rw [eS12]; exact hk_b7
    have hk_b9 : m_kd S12 b9 = 100 := by rw [eS12]; exact hk_b9
    exact mj_retv dX6_addCurtain_101 rfl ⟨Nat.le_of_ble_eq_true rfl, Nat.le_of_ble_eq_true rfl⟩ h
  · replace h := h.2 hc
    exact mj_retv dX6_addCurtain_9 rfl ⟨Nat.le_of_ble_eq_true rfl, Nat.le_of_ble_eq_true rfl⟩ h
abbrev V_X6_addPerson_0 (l : Launch) (G : mj_G) (a0 : Nat) (a1 : Nat) (S : mj_S) (Q : mj_S → Prop) : Prop := mj_V l G (mj_room 1 0 0) RX6 cX6_addPerson 2 none false 0 [some (.ref a0), some (.ref a1)] [] S 0 0 (mj_std G none (mj_room 1 0 0) (mj_qv Q))
theorem e_X6_addPerson {l : Launch} {G : mj_G} {a0 : Nat} {a1 : Nat} {S : mj_S} {Q : mj_S → Prop} (h : V_X6_addPerson_0 l G a0 a1 S Q) : M_X6_addPerson l G a0 a1 S Q := mj_enter (r := 0) (ini := false) (by decide +kernel) (fun h => by cases h) (fun _ => Nat.le_of_ble_eq_true rfl) rfl h
set_option maxRecDepth 20000 in
set_option maxHeartbeats 1000000 in
theorem b_X6_addPerson_0 {l : Launch} {G : mj_G} {a0 : Nat} {a1 : Nat} {S : mj_S} {Q : mj_S → Prop} (hk_a0 : m_kd S a0 = 5) (hk_a1 : m_kd S a1 = 100) (h : (((m_gi S a0 15) < (6 : Int32)) → ∃ b1, m_gp S a0 17 = some b1 ∧ (vp_in (10 : Int32) (m_ln S a1) ∧ (vp_in (m_gi S a0 15) (m_ln S b1) ∧ (∀ S2 : mj_S, S2 = m_si S b1 ((m_gi S a0 15)).toNatClampNeg (m_gi S a1 ((10 : Int32)).toNatClampNeg) → ∃ b3, m_gp S2 a0 16 = some b3 ∧ (vp_in (11 : Int32) (m_ln S2 a1) ∧ (vp_in (m_gi S2 a0 15) (m_ln S2 b3) ∧ (∀ S4 : mj_S, S4 = m_si S2 b3 ((m_gi S2 a0 15)).toNatClampNeg (m_gi S2 a1 ((11 : Int32)).toNatClampNeg) → ∀ S5 : mj_S, S5 = m_si S4 a0 15 ((m_gi S4 a0 15) + (1 : Int32)) → Q S5))))))) ∧ ((¬ ((m_gi S a0 15) < (6 : Int32))) → Q S)) : V_X6_addPerson_0 l G a0 a1 S Q := by
  refine mj_aload_n dX6_addPerson_0 rfl rfl ?_
  refine mj_getI dX6_addPerson_1 fl_X6_58_5 hk_a0 rfl ?_
  refine mj_bipush (v := 6) dX6_addPerson_4 (by decide) ?_
  refine mj_icmp_lt (tgt := 10) dX6_addPerson_6 (by decide) ⟨fun hc => ?_, fun hc => ?_⟩
  · replace h := h.1 hc
    refine mj_aload_n dX6_addPerson_10 rfl rfl ?_
    obtain ⟨b1, eb1, h⟩ := h
    refine mj_getP dX6_addPerson_11 fl_X6_64_5 hk_a0 rfl ⟨b1, eb1, fun hk_b1 => ?_⟩
    refine mj_aload_n dX6_addPerson_14 rfl rfl ?_
    refine mj_getI dX6_addPerson_15 fl_X6_58_5 hk_a0 rfl ?_
    refine mj_aload_n dX6_addPerson_18 rfl rfl ?_
    refine mj_bipush (v := 10) dX6_addPerson_19 (by decide) ?_
    refine mj_iald dX6_addPerson_21 (Or.inl hk_a1) ⟨h.1, ?_⟩
    replace h := h.2
    refine mj_iast dX6_addPerson_22 hk_b1 ⟨h.1, ?_⟩
    replace h := h.2
    obtain ⟨S2, eS2⟩ : ∃ z, z = m_si S b1 ((m_gi S a0 15)).toNatClampNeg (m_gi S a1 ((10 : Int32)).toNatClampNeg) := ⟨_, rfl⟩
    rw [← eS2]
    replace h := h S2 eS2
    have hk_a0 : m_kd S2 a0 = 5 := by rw [eS2]; exact hk_a0
    have hk_a1 : m_kd S2 a1 = 100 := by rw [eS2]; exact hk_a1
    have hk_b1 : m_kd S2 b1 = 100 := by rw [eS2]; exact hk_b1
    refine mj_aload_n dX6_addPerson_23 rfl rfl ?_
    obtain ⟨b3, eb3, h⟩ := h
    refine mj_getP dX6_addPerson_24 fl_X6_61_5 hk_a0 rfl ⟨b3, eb3, fun hk_b3 => ?_⟩
    refine mj_aload_n dX6_addPerson_27 rfl rfl ?_
    refine mj_getI dX6_addPerson_28 fl_X6_58_5 hk_a0 rfl ?_
    refine mj_aload_n dX6_addPerson_31 rfl rfl ?_
    refine mj_bipush (v := 11) dX6_addPerson_32 (by decide) ?_
    refine mj_iald dX6_addPerson_34 (Or.inl hk_a1) ⟨h.1, ?_⟩
    replace h := h.2
    refine mj_iast dX6_addPerson_35 hk_b3 ⟨h.1, ?_⟩
    replace h := h.2
    obtain ⟨S4, eS4⟩ : ∃ z, z = m_si S2 b3 ((m_gi S2 a0 15)).toNatClampNeg (m_gi S2 a1 ((11 : Int32)).toNatClampNeg) := ⟨_, rfl⟩
    rw [← eS4]
    replace h := h S4 eS4
    have hk_a0 : m_kd S4 a0 = 5 := by rw [eS4]; exact hk_a0
    have hk_a1 : m_kd S4 a1 = 100 := by rw [eS4]; exact hk_a1
    have hk_b1 : m_kd S4 b1 = 100 := by rw [eS4]; exact hk_b1
    have hk_b3 : m_kd S4 b3 = 100 := by rw [eS4]; exact hk_b3
    refine mj_aload_n dX6_addPerson_36 rfl rfl ?_
    refine mj_dup dX6_addPerson_37 rfl ?_
    refine mj_getI dX6_addPerson_38 fl_X6_58_5 hk_a0 rfl ?_
    refine mj_iconst (v := 1) dX6_addPerson_41 (by decide) ?_
    refine mj_iadd dX6_addPerson_42 ?_
    refine mj_putI dX6_addPerson_43 fl_X6_58_5 hk_a0 (Or.inl rfl) rfl rfl rfl ?_
    obtain ⟨S5, eS5⟩ : ∃ z, z = m_si S4 a0 15 ((m_gi S4 a0 15) + (1 : Int32)) := ⟨_, rfl⟩
    rw [← eS5]
    replace h := h S5 eS5
    have hk_a0 : m_kd S5 a0 = 5 := by rw [eS5]; exact hk_a0
    have hk_a1 : m_kd S5 a1 = 100 := by rw [eS5]; exact hk_a1
    have hk_b1 : m_kd S5 b1 = 100 := by rw [eS5]; exact hk_b1
    have hk_b3 : m_kd S5 b3 = 100 := by rw [eS5]; exact hk_b3
    exact mj_retv dX6_addPerson_46 rfl ⟨Nat.le_of_ble_eq_true rfl, Nat.le_of_ble_eq_true rfl⟩ h
  · replace h := h.2 hc
    exact mj_retv dX6_addPerson_9 rfl ⟨Nat.le_of_ble_eq_true rfl, Nat.le_of_ble_eq_true rfl⟩ h
abbrev V_X6_settle_0 (l : Launch) (G : mj_G) (a0 : Nat) (S : mj_S) (Q : mj_S → Int32 → Prop) : Prop := mj_V l G (mj_room 3 0 0) RX6 cX6_settle 2 (some .boolean) false 0 [some (.ref a0), none] [] S 0 0 (mj_std G (some .boolean) (mj_room 3 0 0) (mj_qi Q))
abbrev V_X6_settle_15 (l : Launch) (G : mj_G) (a0 : Nat) (x1 : Int32) (S : mj_S) (Q : mj_S → Int32 → Prop) : Prop := mj_V l G (mj_room 3 0 0) RX6 cX6_settle 2 (some .boolean) false 15 [some (.ref a0), some (.int x1)] [] S 0 0 (mj_std G (some .boolean) (mj_room 3 0 0) (mj_qi Q))
theorem e_X6_settle {l : Launch} {G : mj_G} {a0 : Nat} {S : mj_S} {Q : mj_S → Int32 → Prop} (h : V_X6_settle_0 l G a0 S Q) : M_X6_settle l G a0 S Q := mj_enter (r := 1) (ini := false) (by decide +kernel) (fun h => by cases h) (fun _ => Nat.le_of_ble_eq_true rfl) rfl h
set_option maxRecDepth 20000 in
set_option maxHeartbeats 1000000 in
theorem b_X6_settle_0 {l : Launch} {G : mj_G} {a0 : Nat} {S : mj_S} {Q : mj_S → Int32 → Prop} (hk_a0 : m_kd S a0 = 5) (h : M_X6_laySquares l G a0 S (fun S1 => ((¬ (m_gi S1 a0 15) = 0) → V_X6_settle_15 l G a0 (0 : Int32) S1 Q) ∧ (((m_gi S1 a0 15) = 0) → Q S1 (0 : Int32)))) : V_X6_settle_0 l G a0 S Q := by
  refine mj_aload_n dX6_settle_0 rfl rfl ?_
  refine mj_callVv (as := []) (st := []) dX6_settle_1 cal_X6_laySquares lk_X6_74 im_X6_laySquares se_X6_laySquares (ci := 5) rfl (by decide) hk_a0 h rfl (Nat.le_of_ble_eq_true rfl) (by decide) ⟨Nat.le_of_ble_eq_true rfl, Nat.le_of_ble_eq_true rfl⟩ (fun S1 h hp => ?_)
  have hk_a0 : m_kd S1 a0 = 5 := m_kd_pre hp hk_a0 (by decide)
  refine mj_aload_n dX6_settle_4 rfl rfl ?_
  refine mj_getI dX6_settle_5 fl_X6_58_5 hk_a0 rfl ?_
  refine mj_if_ne (tgt := 13) dX6_settle_8 (by decide) ⟨fun hc => ?_, fun hc => ?_⟩
  · replace h := h.1 hc
    refine mj_iconst (v := 0) dX6_settle_13 (by decide) ?_
    refine mj_istore_n dX6_settle_14 rfl (by decide) rfl rfl ?_
    exact h
  · replace h := h.2 hc
    refine mj_iconst (v := 0) dX6_settle_11 (by decide) ?_
    exact mj_retz dX6_settle_12 rfl (rfl) ⟨Nat.le_of_ble_eq_true rfl, Nat.le_of_ble_eq_true rfl⟩ h
set_option maxRecDepth 20000 in
set_option maxHeartbeats 1000000 in
theorem b_X6_settle_15 {l : Launch} {G : mj_G} {a0 : Nat} {x1 : Int32} {S : mj_S} {Q : mj_S → Int32 → Prop} (hk_a0 : m_kd S a0 = 5) (h : (((m_gi S a0 15) ≤ x1) → M_X6_hangRails l G a0 S (fun S1 r2 => Q S1 r2)) ∧ ((¬ ((m_gi S a0 15) ≤ x1)) → ∃ b3, m_gp S a0 17 = some b3 ∧ (vp_in x1 (m_ln S b3) ∧ ((((m_gi S b3 (x1).toNatClampNeg) < (m_gi S a0 4)) → ∀ v4 : Int32, v4 = x1 + (1 : Int32) → V_X6_settle_15 l G a0 v4 S Q) ∧ ((¬ ((m_gi S b3 (x1).toNatClampNeg) < (m_gi S a0 4))) → Q S (0 : Int32)))))) : V_X6_settle_15 l G a0 x1 S Q := by
  refine mj_iload_n dX6_settle_15 rfl rfl ?_
  refine mj_aload_n dX6_settle_16 rfl rfl ?_
  refine mj_getI dX6_settle_17 fl_X6_58_5 hk_a0 rfl ?_
  refine mj_icmp_ge (tgt := 44) dX6_settle_20 (by decide) ⟨fun hc => ?_, fun hc => ?_⟩
  · replace h := h.1 hc
    refine mj_aload_n dX6_settle_44 rfl rfl ?_
    refine mj_callVi (as := []) (st := []) dX6_settle_45 cal_X6_hangRails lk_X6_77 im_X6_hangRails se_X6_hangRails (ci := 5) rfl (by decide) hk_a0 h rfl (Nat.le_of_ble_eq_true rfl) (by decide) ⟨Nat.le_of_ble_eq_true rfl, Nat.le_of_ble_eq_true rfl⟩ (fun S1 r2 h hn_r2 hp => ?_)
    have hk_a0 : m_kd S1 a0 = 5 := m_kd_pre hp hk_a0 (by decide)
    exact mj_retz dX6_settle_48 rfl (hn_r2) ⟨Nat.le_of_ble_eq_true rfl, Nat.le_of_ble_eq_true rfl⟩ h
  · replace h := h.2 hc
    refine mj_aload_n dX6_settle_23 rfl rfl ?_
    obtain ⟨b3, eb3, h⟩ := h
    refine mj_getP dX6_settle_24 fl_X6_64_5 hk_a0 rfl ⟨b3, eb3, fun hk_b3 => ?_⟩
    refine mj_iload_n dX6_settle_27 rfl rfl ?_
    refine mj_iald dX6_settle_28 (Or.inl hk_b3) ⟨h.1, ?_⟩
    replace h := h.2
    refine mj_aload_n dX6_settle_29 rfl rfl ?_
    refine mj_getI dX6_settle_30 fl_X6_24_5 hk_a0 rfl ?_
    refine mj_icmp_lt (tgt := 38) dX6_settle_33 (by decide) ⟨fun hc => ?_, fun hc => ?_⟩
    · replace h := h.1 hc
      obtain ⟨v4, ev4⟩ : ∃ z : Int32, z = x1 + (1 : Int32) := ⟨_, rfl⟩
      refine mj_iinc (v := v4) dX6_settle_38 rfl (by rw [ev4]; rfl) (by decide) rfl rfl ?_
      replace h := h v4 ev4
      refine mj_goto (tgt := 15) dX6_settle_41 (by decide) ?_
      exact h
    · replace h := h.2 hc
      refine mj_iconst (v := 0) dX6_settle_36 (by decide) ?_
      exact mj_retz dX6_settle_37 rfl (rfl) ⟨Nat.le_of_ble_eq_true rfl, Nat.le_of_ble_eq_true rfl⟩ h
abbrev V_X6_laySquares_0 (l : Launch) (G : mj_G) (a0 : Nat) (S : mj_S) (Q : mj_S → Prop) : Prop := mj_V l G (mj_room 1 0 0) RX6 cX6_laySquares 4 none false 0 [some (.ref a0), none, none, none] [] S 0 0 (mj_std G none (mj_room 1 0 0) (mj_qv Q))
abbrev V_X6_laySquares_25 (l : Launch) (G : mj_G) (a0 : Nat) (x1 : Int32) (S : mj_S) (Q : mj_S → Prop) : Prop := mj_V l G (mj_room 1 0 0) RX6 cX6_laySquares 4 none false 25 [some (.ref a0), some (.int x1), none, none] [] S 0 0 (mj_std G none (mj_room 1 0 0) (mj_qv Q))
abbrev V_X6_laySquares_35 (l : Launch) (G : mj_G) (a0 : Nat) (x1 : Int32) (x2 : Int32) (S : mj_S) (Q : mj_S → Prop) : Prop := mj_V l G (mj_room 1 0 0) RX6 cX6_laySquares 4 none false 35 [some (.ref a0), some (.int x1), some (.int x2), none] [] S 0 0 (mj_std G none (mj_room 1 0 0) (mj_qv Q))
abbrev V_X6_laySquares_74 (l : Launch) (G : mj_G) (a0 : Nat) (x1 : Int32) (x2 : Int32) (x3 : Int32) (c0 : Nat) (s1 : Int32) (s2 : Int32) (S : mj_S) (Q : mj_S → Prop) : Prop := mj_V l G (mj_room 1 0 0) RX6 cX6_laySquares 4 none false 74 [some (.ref a0), some (.int x1), some (.int x2), some (.int x3)] [.int s2, .int s1, .ref c0] S 0 0 (mj_std G none (mj_room 1 0 0) (mj_qv Q))
theorem e_X6_laySquares {l : Launch} {G : mj_G} {a0 : Nat} {S : mj_S} {Q : mj_S → Prop} (h : V_X6_laySquares_0 l G a0 S Q) : M_X6_laySquares l G a0 S Q := mj_enter (r := 3) (ini := false) (by decide +kernel) (fun h => by cases h) (fun _ => Nat.le_of_ble_eq_true rfl) rfl h
set_option maxRecDepth 20000 in
set_option maxHeartbeats 1000000 in
theorem b_X6_laySquares_0 {l : Launch} {G : mj_G} {a0 : Nat} {S : mj_S} {Q : mj_S → Prop} (hk_a0 : m_kd S a0 = 5) (h : ∀ S1 : mj_S, S1 = m_si S a0 4 ((m_gi S a0 0) * (m_gi S a0 1)) → ∀ S2 : mj_S, S2 = m_si S1 a0 5 (0 : Int32) → ∀ S3 : mj_S, S3 = m_si S2 a0 6 (0 : Int32) → V_X6_laySquares_25 l G a0 (0 : Int32) S3 Q) : V_X6_laySquares_0 l G a0 S Q := by
  refine mj_aload_n dX6_laySquares_0 rfl rfl ?_
  refine mj_aload_n dX6_laySquares_1 rfl rfl ?_
  refine mj_getI dX6_laySquares_2 fl_X6_9_5 hk_a0 rfl ?_
  refine mj_aload_n dX6_laySquares_5 rfl rfl ?_
  refine mj_getI dX6_laySquares_6 fl_X6_15_5 hk_a0 rfl ?_
  refine mj_imul dX6_laySquares_9 ?_
  refine mj_putI dX6_laySquares_10 fl_X6_24_5 hk_a0 (Or.inl rfl) rfl rfl rfl ?_
  obtain ⟨S1, eS1⟩ : ∃ z, z = m_si S a0 4 ((m_gi S a0 0) * (m_gi S a0 1)) := ⟨_, rfl⟩
  rw [← eS1]
  replace h := h S1 eS1
  have hk_a0 : m_kd S1 a0 = 5 := by rw [eS1]; exact hk_a0
  refine mj_aload_n dX6_laySquares_13 rfl rfl ?_
  refine mj_iconst (v := 0) dX6_laySquares_14 (by decide) ?_
  refine mj_putI dX6_laySquares_15 fl_X6_27_5 hk_a0 (Or.inl rfl) rfl rfl rfl ?_
  obtain ⟨S2, eS2⟩ : ∃ z, z = m_si S1 a0 5 (0 : Int32) := ⟨_, rfl⟩
  rw [← eS2]
  replace h := h S2 eS2
  have hk_a0 : m_kd S2 a0 = 5 := by rw [eS2]; exact hk_a0
  refine mj_aload_n dX6_laySquares_18 rfl rfl ?_
  refine mj_iconst (v := 0) dX6_laySquares_19 (by decide) ?_
  refine mj_putI dX6_laySquares_20 fl_X6_30_5 hk_a0 (Or.inl rfl) rfl rfl rfl ?_
  obtain ⟨S3, eS3⟩ : ∃ z, z = m_si S2 a0 6 (0 : Int32) := ⟨_, rfl⟩
  rw [← eS3]
  replace h := h S3 eS3
  have hk_a0 : m_kd S3 a0 = 5 := by rw [eS3]; exact hk_a0
  refine mj_iconst (v := 0) dX6_laySquares_23 (by decide) ?_
  refine mj_istore_n dX6_laySquares_24 rfl (by decide) rfl rfl ?_
  exact h
set_option maxRecDepth 20000 in
set_option maxHeartbeats 1000000 in
theorem b_X6_laySquares_25 {l : Launch} {G : mj_G} {a0 : Nat} {x1 : Int32} {S : mj_S} {Q : mj_S → Prop} (hk_a0 : m_kd S a0 = 5) (h : (((m_gi S a0 1) ≤ x1) → Q S) ∧ ((¬ ((m_gi S a0 1) ≤ x1)) → V_X6_laySquares_35 l G a0 x1 (0 : Int32) S Q)) : V_X6_laySquares_25 l G a0 x1 S Q := by
  refine mj_iload_n dX6_laySquares_25 rfl rfl ?_
  refine mj_aload_n dX6_laySquares_26 rfl rfl ?_
  refine mj_getI dX6_laySquares_27 fl_X6_15_5 hk_a0 rfl ?_
  refine mj_icmp_ge (tgt := 114) dX6_laySquares_30 (by decide) ⟨fun hc => ?_, fun hc => ?_⟩
  · replace h := h.1 hc
    exact mj_retv dX6_laySquares_114 rfl ⟨Nat.le_of_ble_eq_true rfl, Nat.le_of_ble_eq_true rfl⟩ h
  · replace h := h.2 hc
    refine mj_iconst (v := 0) dX6_laySquares_33 (by decide) ?_
    refine mj_istore_n dX6_laySquares_34 rfl (by decide) rfl rfl ?_
    exact h
set_option maxRecDepth 20000 in
set_option maxHeartbeats 1000000 in
theorem b_X6_laySquares_35 {l : Launch} {G : mj_G} {a0 : Nat} {x1 : Int32} {x2 : Int32} {S : mj_S} {Q : mj_S → Prop} (hk_a0 : m_kd S a0 = 5) (h : (((m_gi S a0 0) ≤ x2) → ∀ v1 : Int32, v1 = x1 + (1 : Int32) → V_X6_laySquares_25 l G a0 v1 S Q) ∧ ((¬ ((m_gi S a0 0) ≤ x2)) → ∀ v2 : Int32, v2 = ((1 : Int32) <<< (((x1 * (m_gi S a0 0)) + x2) &&& 31)) → (((m_gi S a0 0) ≤ (x2 + (1 : Int32))) → V_X6_laySquares_74 l G a0 x1 x2 v2 a0 (m_gi S a0 5) (0 : Int32) S Q) ∧ ((¬ ((m_gi S a0 0) ≤ (x2 + (1 : Int32)))) → V_X6_laySquares_74 l G a0 x1 x2 v2 a0 (m_gi S a0 5) v2 S Q))) : V_X6_laySquares_35 l G a0 x1 x2 S Q := by
  refine mj_iload_n dX6_laySquares_35 rfl rfl ?_
  refine mj_aload_n dX6_laySquares_36 rfl rfl ?_
  refine mj_getI dX6_laySquares_37 fl_X6_9_5 hk_a0 rfl ?_
  refine mj_icmp_ge (tgt := 108) dX6_laySquares_40 (by decide) ⟨fun hc => ?_, fun hc => ?_⟩
  · replace h := h.1 hc
    obtain ⟨v1, ev1⟩ : ∃ z : Int32, z = x1 + (1 : Int32) := ⟨_, rfl⟩
    refine mj_iinc (v := v1) dX6_laySquares_108 rfl (by rw [ev1]; rfl) (by decide) rfl rfl ?_
    replace h := h v1 ev1
    refine mj_goto (tgt := 25) dX6_laySquares_111 (by decide) ?_
    exact mj_lessm [true, true, false, false] rfl h
  · replace h := h.2 hc
    refine mj_iconst (v := 1) dX6_laySquares_43 (by decide) ?_
    refine mj_iload_n dX6_laySquares_44 rfl rfl ?_
    refine mj_aload_n dX6_laySquares_45 rfl rfl ?_
    refine mj_getI dX6_laySquares_46 fl_X6_9_5 hk_a0 rfl ?_
    refine mj_imul dX6_laySquares_49 ?_
    refine mj_iload_n dX6_laySquares_50 rfl rfl ?_
    refine mj_iadd dX6_laySquares_51 ?_
    refine mj_ishl dX6_laySquares_52 ?_
    refine mj_nmi (fun v2 ev2 => ?_)
    replace h := h v2 ev2
    refine mj_istore_n dX6_laySquares_53 rfl (by decide) rfl rfl ?_
    refine mj_aload_n dX6_laySquares_54 rfl rfl ?_
    refine mj_dup dX6_laySquares_55 rfl ?_
    refine mj_getI dX6_laySquares_56 fl_X6_27_5 hk_a0 rfl ?_
    refine mj_iload_n dX6_laySquares_59 rfl rfl ?_
    refine mj_iconst (v := 1) dX6_laySquares_60 (by decide) ?_
    refine mj_iadd dX6_laySquares_61 ?_
    refine mj_aload_n dX6_laySquares_62 rfl rfl ?_
    refine mj_getI dX6_laySquares_63 fl_X6_9_5 hk_a0 rfl ?_
    refine mj_icmp_ge (tgt := 73) dX6_laySquares_66 (by decide) ⟨fun hc => ?_, fun hc => ?_⟩
    · replace h := h.1 hc
      refine mj_iconst (v := 0) dX6_laySquares_73 (by decide) ?_
      exact h
    · replace h := h.2 hc
      refine mj_iload_n dX6_laySquares_69 rfl rfl ?_
      refine mj_goto (tgt := 74) dX6_laySquares_70 (by decide) ?_
      exact h
set_option maxRecDepth 20000 in
set_option maxHeartbeats 1000000 in
theorem b_X6_laySquares_74 {l : Launch} {G : mj_G} {a0 : Nat} {x1 : Int32} {x2 : Int32} {x3 : Int32} {c0 : Nat} {s1 : Int32} {s2 : Int32} {S : mj_S} {Q : mj_S → Prop} (hk_a0 : m_kd S a0 = 5) (hk_c0 : m_kd S c0 = 5) (h : ∀ S1 : mj_S, S1 = m_si S c0 5 (s1 ||| s2) → (((m_gi S1 a0 1) ≤ (x1 + (1 : Int32))) → ∀ S2 : mj_S, S2 = m_si S1 a0 6 ((m_gi S1 a0 6) ||| (0 : Int32)) → ∀ v3 : Int32, v3 = x2 + (1 : Int32) → V_X6_laySquares_35 l G a0 x1 v3 S2 Q) ∧ ((¬ ((m_gi S1 a0 1) ≤ (x1 + (1 : Int32)))) → ∀ S4 : mj_S, S4 = m_si S1 a0 6 ((m_gi S1 a0 6) ||| x3) → ∀ v5 : Int32, v5 = x2 + (1 : Int32) → V_X6_laySquares_35 l G a0 x1 v5 S4 Q)) : V_X6_laySquares_74 l G a0 x1 x2 x3 c0 s1 s2 S Q := by
  refine mj_ior dX6_laySquares_74 ?_
  refine mj_putI dX6_laySquares_75 fl_X6_27_5 hk_c0 (Or.inl rfl) rfl rfl rfl ?_
  obtain ⟨S1, eS1⟩ : ∃ z, z = m_si S c0 5 (s1 ||| s2) := ⟨_, rfl⟩
  rw [← eS1]
  replace h := h S1 eS1
  have hk_a0 : m_kd S1 a0 = 5 := by rw [eS1]; exact hk_a0
  have hk_c0 : m_kd S1 c0 = 5 := by rw [eS1]; exact hk_c0
  refine mj_aload_n dX6_laySquares_78 rfl rfl ?_
  refine mj_dup dX6_laySquares_79 rfl ?_
  refine mj_getI dX6_laySquares_80 fl_X6_30_5 hk_a0 rfl ?_
  refine mj_iload_n dX6_laySquares_83 rfl rfl ?_
  refine mj_iconst (v := 1) dX6_laySquares_84 (by decide) ?_
  refine mj_iadd dX6_laySquares_85 ?_
  refine mj_aload_n dX6_laySquares_86 rfl rfl ?_
  refine mj_getI dX6_laySquares_87 fl_X6_15_5 hk_a0 rfl ?_
  refine mj_icmp_ge (tgt := 97) dX6_laySquares_90 (by decide) ⟨fun hc => ?_, fun hc => ?_⟩
  · replace h := h.1 hc
    refine mj_iconst (v := 0) dX6_laySquares_97 (by decide) ?_
    refine mj_ior dX6_laySquares_98 ?_
    refine mj_putI dX6_laySquares_99 fl_X6_30_5 hk_a0 (Or.inl rfl) rfl rfl rfl ?_
    obtain ⟨S2, eS2⟩ : ∃ z, z = m_si S1 a0 6 ((m_gi S1 a0 6) ||| (0 : Int32)) := ⟨_, rfl⟩
    rw [← eS2]
    replace h := h S2 eS2
    have hk_a0 : m_kd S2 a0 = 5 := by rw [eS2]; exact hk_a0
    have hk_c0 : m_kd S2 c0 = 5 := by rw [eS2]; exact hk_c0
    obtain ⟨v3, ev3⟩ : ∃ z : Int32, z = x2 + (1 : Int32) := ⟨_, rfl⟩
    refine mj_iinc (v := v3) dX6_laySquares_102 rfl (by rw [ev3]; rfl) (by decide) rfl rfl ?_
    replace h := h v3 ev3
    refine mj_goto (tgt := 35) dX6_laySquares_105 (by decide) ?_
    exact mj_lessm [true, true, true, false] rfl h
  · replace h := h.2 hc
    refine mj_iload_n dX6_laySquares_93 rfl rfl ?_
    refine mj_goto (tgt := 98) dX6_laySquares_94 (by decide) ?_
    refine mj_ior dX6_laySquares_98 ?_
    refine mj_putI dX6_laySquares_99 fl_X6_30_5 hk_a0 (Or.inl rfl) rfl rfl rfl ?_
    obtain ⟨S4, eS4⟩ : ∃ z, z = m_si S1 a0 6 ((m_gi S1 a0 6) ||| x3) := ⟨_, rfl⟩
    rw [← eS4]
    replace h := h S4 eS4
    have hk_a0 : m_kd S4 a0 = 5 := by rw [eS4]; exact hk_a0
    have hk_c0 : m_kd S4 c0 = 5 := by rw [eS4]; exact hk_c0
    obtain ⟨v5, ev5⟩ : ∃ z : Int32, z = x2 + (1 : Int32) := ⟨_, rfl⟩
    refine mj_iinc (v := v5) dX6_laySquares_102 rfl (by rw [ev5]; rfl) (by decide) rfl rfl ?_
    replace h := h v5 ev5
    refine mj_goto (tgt := 35) dX6_laySquares_105 (by decide) ?_
    exact mj_lessm [true, true, true, false] rfl h
abbrev V_X6_hangRails_0 (l : Launch) (G : mj_G) (a0 : Nat) (S : mj_S) (Q : mj_S → Int32 → Prop) : Prop := mj_V l G (mj_room 2 0 0) RX6 cX6_hangRails 5 (some .boolean) false 0 [some (.ref a0), none, none, none, none] [] S 0 0 (mj_std G (some .boolean) (mj_room 2 0 0) (mj_qi Q))
abbrev V_X6_hangRails_12 (l : Launch) (G : mj_G) (a0 : Nat) (x1 : Int32) (x2 : Int32) (x3 : Int32) (S : mj_S) (Q : mj_S → Int32 → Prop) : Prop := mj_V l G (mj_room 2 0 0) RX6 cX6_hangRails 5 (some .boolean) false 12 [some (.ref a0), some (.int x1), some (.int x2), some (.int x3), none] [] S 0 0 (mj_std G (some .boolean) (mj_room 2 0 0) (mj_qi Q))
abbrev V_X6_hangRails_34 (l : Launch) (G : mj_G) (a0 : Nat) (x1 : Int32) (x2 : Int32) (x3 : Int32) (s0 : Int32) (S : mj_S) (Q : mj_S → Int32 → Prop) : Prop := mj_V l G (mj_room 2 0 0) RX6 cX6_hangRails 5 (some .boolean) false 34 [some (.ref a0), some (.int x1), some (.int x2), some (.int x3), none] [.int s0] S 0 0 (mj_std G (some .boolean) (mj_room 2 0 0) (mj_qi Q))
abbrev V_X6_hangRails_46 (l : Launch) (G : mj_G) (a0 : Nat) (x1 : Int32) (x2 : Int32) (x3 : Int32) (x4 : Int32) (s0 : Int32) (S : mj_S) (Q : mj_S → Int32 → Prop) : Prop := mj_V l G (mj_room 2 0 0) RX6 cX6_hangRails 5 (some .boolean) false 46 [some (.ref a0), some (.int x1), some (.int x2), some (.int x3), some (.int x4)] [.int s0] S 0 0 (mj_std G (some .boolean) (mj_room 2 0 0) (mj_qi Q))
abbrev V_X6_hangRails_94 (l : Launch) (G : mj_G) (a0 : Nat) (x1 : Int32) (x2 : Int32) (x3 : Int32) (x4 : Int32) (S : mj_S) (Q : mj_S → Int32 → Prop) : Prop := mj_V l G (mj_room 2 0 0) RX6 cX6_hangRails 5 (some .boolean) false 94 [some (.ref a0), some (.int x1), some (.int x2), some (.int x3), some (.int x4)] [] S 0 0 (mj_std G (some .boolean) (mj_room 2 0 0) (mj_qi Q))
theorem e_X6_hangRails {l : Launch} {G : mj_G} {a0 : Nat} {S : mj_S} {Q : mj_S → Int32 → Prop} (h : V_X6_hangRails_0 l G a0 S Q) : M_X6_hangRails l G a0 S Q := mj_enter (r := 4) (ini := false) (by decide +kernel) (fun h => by cases h) (fun _ => Nat.le_of_ble_eq_true rfl) rfl h
set_option maxRecDepth 20000 in
set_option maxHeartbeats 1000000 in
theorem b_X6_hangRails_0 {l : Launch} {G : mj_G} {a0 : Nat} {S : mj_S} {Q : mj_S → Int32 → Prop} (hk_a0 : m_kd S a0 = 5) (h : ∀ v1 : Int32, v1 = (m_gi S a0 5) → ∀ v2 : Int32, v2 = (m_gi S a0 6) → V_X6_hangRails_12 l G a0 v1 v2 (0 : Int32) S Q) : V_X6_hangRails_0 l G a0 S Q := by
  refine mj_aload_n dX6_hangRails_0 rfl rfl ?_
  refine mj_getI dX6_hangRails_1 fl_X6_27_5 hk_a0 rfl ?_
  refine mj_nmi (fun v1 ev1 => ?_)
  replace h := h v1 ev1
  refine mj_istore_n dX6_hangRails_4 rfl (by decide) rfl rfl ?_
  refine mj_aload_n dX6_hangRails_5 rfl rfl ?_
  refine mj_getI dX6_hangRails_6 fl_X6_30_5 hk_a0 rfl ?_
  refine mj_nmi (fun v2 ev2 => ?_)
  replace h := h v2 ev2
  refine mj_istore_n dX6_hangRails_9 rfl (by decide) rfl rfl ?_
  refine mj_iconst (v := 0) dX6_hangRails_10 (by decide) ?_
  refine mj_istore_n dX6_hangRails_11 rfl (by decide) rfl rfl ?_
  exact h
set_option maxRecDepth 20000 in
set_option maxHeartbeats 1000000 in
theorem b_X6_hangRails_12 {l : Launch} {G : mj_G} {a0 : Nat} {x1 : Int32} {x2 : Int32} {x3 : Int32} {S : mj_S} {Q : mj_S → Int32 → Prop} (hk_a0 : m_kd S a0 = 5) (h : (((m_gi S a0 7) ≤ x3) → Q S (1 : Int32)) ∧ ((¬ ((m_gi S a0 7) ≤ x3)) → ∃ b1, m_gp S a0 10 = some b1 ∧ (vp_in x3 (m_ln S b1) ∧ (((¬ (m_gi S b1 (x3).toNatClampNeg) = 0) → V_X6_hangRails_34 l G a0 x1 x2 x3 (0 : Int32) S Q) ∧ (((m_gi S b1 (x3).toNatClampNeg) = 0) → V_X6_hangRails_34 l G a0 x1 x2 x3 (1 : Int32) S Q))))) : V_X6_hangRails_12 l G a0 x1 x2 x3 S Q := by
  refine mj_iload_n dX6_hangRails_12 rfl rfl ?_
  refine mj_aload_n dX6_hangRails_13 rfl rfl ?_
  refine mj_getI dX6_hangRails_14 fl_X6_33_5 hk_a0 rfl ?_
  refine mj_icmp_ge (tgt := 126) dX6_hangRails_17 (by decide) ⟨fun hc => ?_, fun hc => ?_⟩
  · replace h := h.1 hc
    refine mj_iconst (v := 1) dX6_hangRails_126 (by decide) ?_
    exact mj_retz dX6_hangRails_127 rfl (rfl) ⟨Nat.le_of_ble_eq_true rfl, Nat.le_of_ble_eq_true rfl⟩ h
  · replace h := h.2 hc
    refine mj_aload_n dX6_hangRails_20 rfl rfl ?_
    obtain ⟨b1, eb1, h⟩ := h
    refine mj_getP dX6_hangRails_21 fl_X6_43_5 hk_a0 rfl ⟨b1, eb1, fun hk_b1 => ?_⟩
    refine mj_iload_n dX6_hangRails_24 rfl rfl ?_
    refine mj_iald dX6_hangRails_25 (Or.inl hk_b1) ⟨h.1, ?_⟩
    replace h := h.2
    refine mj_if_ne (tgt := 33) dX6_hangRails_26 (by decide) ⟨fun hc => ?_, fun hc => ?_⟩
    · replace h := h.1 hc
      refine mj_iconst (v := 0) dX6_hangRails_33 (by decide) ?_
      exact h
    · replace h := h.2 hc
      refine mj_iconst (v := 1) dX6_hangRails_29 (by decide) ?_
      refine mj_goto (tgt := 34) dX6_hangRails_30 (by decide) ?_
      exact h
set_option maxRecDepth 20000 in
set_option maxHeartbeats 1000000 in
theorem b_X6_hangRails_34 {l : Launch} {G : mj_G} {a0 : Nat} {x1 : Int32} {x2 : Int32} {x3 : Int32} {s0 : Int32} {S : mj_S} {Q : mj_S → Int32 → Prop} (hk_a0 : m_kd S a0 = 5) (h : ((s0 = 0) → V_X6_hangRails_46 l G a0 x1 x2 x3 s0 x2 S Q) ∧ ((¬ (s0 = 0)) → V_X6_hangRails_46 l G a0 x1 x2 x3 s0 x1 S Q)) : V_X6_hangRails_34 l G a0 x1 x2 x3 s0 S Q := by
  refine mj_istore dX6_hangRails_34 (by decide) rfl rfl ?_
  refine mj_iload dX6_hangRails_36 rfl ?_
  refine mj_if_eq (tgt := 45) dX6_hangRails_38 (by decide) ⟨fun hc => ?_, fun hc => ?_⟩
  · replace h := h.1 hc
    refine mj_iload_n dX6_hangRails_45 rfl rfl ?_
    exact h
  · replace h := h.2 hc
    refine mj_iload_n dX6_hangRails_41 rfl rfl ?_
    refine mj_goto (tgt := 46) dX6_hangRails_42 (by decide) ?_
    exact h
set_option maxRecDepth 20000 in
set_option maxHeartbeats 1000000 in
theorem b_X6_hangRails_46 {l : Launch} {G : mj_G} {a0 : Nat} {x1 : Int32} {x2 : Int32} {x3 : Int32} {x4 : Int32} {s0 : Int32} {S : mj_S} {Q : mj_S → Int32 → Prop} (hk_a0 : m_kd S a0 = 5) (h : ∃ b1, m_gp S a0 8 = some b1 ∧ (vp_in x3 (m_ln S b1) ∧ (M_X10_has l G s0 (m_gi S b1 (x3).toNatClampNeg) S (fun S2 r3 => ((¬ r3 = 0) → ((x4 = 0) → ∃ b4, m_gp S2 a0 8 = some b4 ∧ (vp_in x3 (m_ln S2 b4) ∧ (∀ v5 : Int32, v5 = (x2 &&& (((1 : Int32) <<< ((m_gi S2 b4 (x3).toNatClampNeg) &&& 31)) ^^^ (-1 : Int32))) → V_X6_hangRails_94 l G a0 x1 v5 x3 x4 S2 Q))) ∧ ((¬ (x4 = 0)) → ∃ b6, m_gp S2 a0 8 = some b6 ∧ (vp_in x3 (m_ln S2 b6) ∧ (∀ v7 : Int32, v7 = (x1 &&& (((1 : Int32) <<< ((m_gi S2 b6 (x3).toNatClampNeg) &&& 31)) ^^^ (-1 : Int32))) → V_X6_hangRails_94 l G a0 v7 x2 x3 x4 S2 Q)))) ∧ ((r3 = 0) → Q S2 (0 : Int32)))))) : V_X6_hangRails_46 l G a0 x1 x2 x3 x4 s0 S Q := by
  refine mj_aload_n dX6_hangRails_46 rfl rfl ?_
  obtain ⟨b1, eb1, h⟩ := h
  refine mj_getP dX6_hangRails_47 fl_X6_36_5 hk_a0 rfl ⟨b1, eb1, fun hk_b1 => ?_⟩
  refine mj_iload_n dX6_hangRails_50 rfl rfl ?_
  refine mj_iald dX6_hangRails_51 (Or.inl hk_b1) ⟨h.1, ?_⟩
  replace h := h.2
  refine mj_callNi (as := [.int s0, .int (m_gi S b1 (x3).toNatClampNeg)]) (st := []) dX6_hangRails_52 cal_X10_has ln_X6_81 sm_X10_has h rfl (Nat.le_of_ble_eq_true rfl) (by decide) ⟨Nat.le_of_ble_eq_true rfl, Nat.le_of_ble_eq_true rfl⟩ (fun S2 r3 h hn_r3 hp => ?_)
  have hk_a0 : m_kd S2 a0 = 5 := m_kd_pre hp hk_a0 (by decide)
  have hk_b1 : m_kd S2 b1 = 100 := m_kd_pre hp hk_b1 (by decide)
  refine mj_if_ne (tgt := 60) dX6_hangRails_55 (by decide) ⟨fun hc => ?_, fun hc => ?_⟩
  · replace h := h.1 hc
    refine mj_iload dX6_hangRails_60 rfl ?_
    refine mj_if_eq (tgt := 81) dX6_hangRails_62 (by decide) ⟨fun hc => ?_, fun hc => ?_⟩
    · replace h := h.1 hc
      refine mj_iload_n dX6_hangRails_81 rfl rfl ?_
      refine mj_iconst (v := 1) dX6_hangRails_82 (by decide) ?_
      refine mj_aload_n dX6_hangRails_83 rfl rfl ?_
      obtain ⟨b4, eb4, h⟩ := h
      refine mj_getP dX6_hangRails_84 fl_X6_36_5 hk_a0 rfl ⟨b4, eb4, fun hk_b4 => ?_⟩
      refine mj_iload_n dX6_hangRails_87 rfl rfl ?_
      refine mj_iald dX6_hangRails_88 (Or.inl hk_b4) ⟨h.1, ?_⟩
      replace h := h.2
      refine mj_ishl dX6_hangRails_89 ?_
      refine mj_iconst (v := (-1)) dX6_hangRails_90 (by decide) ?_
      refine mj_ixor dX6_hangRails_91 ?_
      refine mj_iand dX6_hangRails_92 ?_
      refine mj_nmi (fun v5 ev5 => ?_)
      replace h := h v5 ev5
      refine mj_istore_n dX6_hangRails_93 rfl (by decide) rfl rfl ?_
      exact h
    · replace h := h.2 hc
      refine mj_iload_n dX6_hangRails_65 rfl rfl ?_
      refine mj_iconst (v := 1) dX6_hangRails_66 (by decide) ?_
      refine mj_aload_n dX6_hangRails_67 rfl rfl ?_
      obtain ⟨b6, eb6, h⟩ := h
      refine mj_getP dX6_hangRails_68 fl_X6_36_5 hk_a0 rfl ⟨b6, eb6, fun hk_b6 => ?_⟩
      refine mj_iload_n dX6_hangRails_71 rfl rfl ?_
      refine mj_iald dX6_hangRails_72 (Or.inl hk_b6) ⟨h.1, ?_⟩
      replace h := h.2
      refine mj_ishl dX6_hangRails_73 ?_
      refine mj_iconst (v := (-1)) dX6_hangRails_74 (by decide) ?_
      refine mj_ixor dX6_hangRails_75 ?_
      refine mj_iand dX6_hangRails_76 ?_
      refine mj_nmi (fun v7 ev7 => ?_)
      replace h := h v7 ev7
      refine mj_istore_n dX6_hangRails_77 rfl (by decide) rfl rfl ?_
      refine mj_goto (tgt := 94) dX6_hangRails_78 (by decide) ?_
      exact h
  · replace h := h.2 hc
    refine mj_iconst (v := 0) dX6_hangRails_58 (by decide) ?_
    exact mj_retz dX6_hangRails_59 rfl (rfl) ⟨Nat.le_of_ble_eq_true rfl, Nat.le_of_ble_eq_true rfl⟩ h
set_option maxRecDepth 20000 in
set_option maxHeartbeats 1000000 in
theorem b_X6_hangRails_94 {l : Launch} {G : mj_G} {a0 : Nat} {x1 : Int32} {x2 : Int32} {x3 : Int32} {x4 : Int32} {S : mj_S} {Q : mj_S → Int32 → Prop} (hk_a0 : m_kd S a0 = 5) (h : ∃ b1, m_gp S a0 9 = some b1 ∧ (∃ b2, m_gp S a0 8 = some b2 ∧ (vp_in x3 (m_ln S b2) ∧ (((x4 = 0) → vp_in x3 (m_ln S b1) ∧ (∀ S3 : mj_S, S3 = m_si S b1 (x3).toNatClampNeg ((m_gi S b2 (x3).toNatClampNeg) + (m_gi S a0 0)) → ∀ v4 : Int32, v4 = x3 + (1 : Int32) → V_X6_hangRails_12 l G a0 x1 x2 v4 S3 Q)) ∧ ((¬ (x4 = 0)) → vp_in x3 (m_ln S b1) ∧ (∀ S5 : mj_S, S5 = m_si S b1 (x3).toNatClampNeg ((m_gi S b2 (x3).toNatClampNeg) + (1 : Int32)) → ∀ v6 : Int32, v6 = x3 + (1 : Int32) → V_X6_hangRails_12 l G a0 x1 x2 v6 S5 Q)))))) : V_X6_hangRails_94 l G a0 x1 x2 x3 x4 S Q := by
  refine mj_aload_n dX6_hangRails_94 rfl rfl ?_
  obtain ⟨b1, eb1, h⟩ := h
  refine mj_getP dX6_hangRails_95 fl_X6_40_5 hk_a0 rfl ⟨b1, eb1, fun hk_b1 => ?_⟩
  refine mj_iload_n dX6_hangRails_98 rfl rfl ?_
  refine mj_aload_n dX6_hangRails_99 rfl rfl ?_
  obtain ⟨b2, eb2, h⟩ := h
  refine mj_getP dX6_hangRails_100 fl_X6_36_5 hk_a0 rfl ⟨b2, eb2, fun hk_b2 => ?_⟩
  refine mj_iload_n dX6_hangRails_103 rfl rfl ?_
  refine mj_iald dX6_hangRails_104 (Or.inl hk_b2) ⟨h.1, ?_⟩
  replace h := h.2
  refine mj_iload dX6_hangRails_105 rfl ?_
  refine mj_if_eq (tgt := 114) dX6_hangRails_107 (by decide) ⟨fun hc => ?_, fun hc => ?_⟩
  · replace h := h.1 hc
    refine mj_aload_n dX6_hangRails_114 rfl rfl ?_
    refine mj_getI dX6_hangRails_115 fl_X6_9_5 hk_a0 rfl ?_
    refine mj_iadd dX6_hangRails_118 ?_
    refine mj_iast dX6_hangRails_119 hk_b1 ⟨h.1, ?_⟩
    replace h := h.2
    obtain ⟨S3, eS3⟩ : ∃ z, z = m_si S b1 (x3).toNatClampNeg ((m_gi S b2 (x3).toNatClampNeg) + (m_gi S a0 0)) := ⟨_, rfl⟩
    rw [← eS3]
    replace h := h S3 eS3
    have hk_a0 : m_kd S3 a0 = 5 := by rw [eS3]; exact hk_a0
    have hk_b1 : m_kd S3 b1 = 100 := by rw [eS3]; exact hk_b1
    have hk_b2 : m_kd S3 b2 = 100 := by rw [eS3]; exact hk_b2
    obtain ⟨v4, ev4⟩ : ∃ z : Int32, z = x3 + (1 : Int32) := ⟨_, rfl⟩
    refine mj_iinc (v := v4) dX6_hangRails_120 rfl (by rw [ev4]; rfl) (by decide) rfl rfl ?_
    replace h := h v4 ev4
    refine mj_goto (tgt := 12) dX6_hangRails_123 (by decide) ?_
    exact mj_lessm [true, true, true, true, false] rfl h
  · replace h := h.2 hc
    refine mj_iconst (v := 1) dX6_hangRails_110 (by decide) ?_
    refine mj_goto (tgt := 118) dX6_hangRails_111 (by decide) ?_
    refine mj_iadd dX6_hangRails_118 ?_
    refine mj_iast dX6_hangRails_119 hk_b1 ⟨h.1, ?_⟩
    replace h := h.2
    obtain ⟨S5, eS5⟩ : ∃ z, z = m_si S b1 (x3).toNatClampNeg ((m_gi S b2 (x3).toNatClampNeg) + (1 : Int32)) := ⟨_, rfl⟩
    rw [← eS5]
    replace h := h S5 eS5
    have hk_a0 : m_kd S5 a0 = 5 := by rw [eS5]; exact hk_a0
    have hk_b1 : m_kd S5 b1 = 100 := by rw [eS5]; exact hk_b1
    have hk_b2 : m_kd S5 b2 = 100 := by rw [eS5]; exact hk_b2
    obtain ⟨v6, ev6⟩ : ∃ z : Int32, z = x3 + (1 : Int32) := ⟨_, rfl⟩
    refine mj_iinc (v := v6) dX6_hangRails_120 rfl (by rw [ev6]; rfl) (by decide) rfl rfl ?_
    replace h := h v6 ev6
    refine mj_goto (tgt := 12) dX6_hangRails_123 (by decide) ?_
    exact mj_lessm [true, true, true, true, false] rfl h
