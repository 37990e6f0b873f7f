abbrev V_X10_init_0 (l : Launch) (G : mj_G) (a0 : Nat) (S : mj_S) (Q : mj_S → Prop) : Prop := mj_V l G (mj_room 3 82 3680) RX10 cX10_init 1 none true 0 [some (.ref a0)] [] S 0 0 (mj_std G none (mj_room 3 82 3680) (mj_qv Q))
theorem e_X10_init {l : Launch} {G : mj_G} {a0 : Nat} {S : mj_S} {Q : mj_S → Prop} (h : V_X10_init_0 l G a0 S Q) : M_X10_init l G a0 S Q := mj_enter (r := 0) (ini := true) (by decide +kernel) (fun _ => rfl) (fun _ => Nat.le_of_ble_eq_true rfl) rfl h
set_option maxRecDepth 20000 in
set_option maxHeartbeats 1000000 in
theorem b_X10_init_0 {l : Launch} {G : mj_G} {a0 : Nat} {S : mj_S} {Q : mj_S → Prop} (hk_a0 : m_kd S a0 = 9) (h : ∀ q1 : Nat, q1 = S.1.length → ∀ S2 : mj_S, S2 = m_nw S 100 240 → ∀ S3 : mj_S, S3 = m_sp S2 a0 0 (some q1) → ∀ S4 : mj_S, S4 = m_si S3 a0 1 (0 : Int32) → ∀ q5 : Nat, q5 = S4.1.length → ∀ S6 : mj_S, S6 = m_nw S4 6 (mj_nf 6) → M_X7_init l G q5 S6 (fun S7 => ∀ S8 : mj_S, S8 = m_sp S7 a0 2 (some q5) → ∀ q9 : Nat, q9 = S8.1.length → ∀ S10 : mj_S, S10 = m_nw S8 1 (mj_nf 1) → M_X1_init l G q9 S10 (fun S11 => ∀ S12 : mj_S, S12 = m_sp S11 a0 3 (some q9) → ∀ q13 : Nat, q13 = S12.1.length → ∀ S14 : mj_S, S14 = m_nw S12 2 (mj_nf 2) → M_X2_init l G q13 S14 (fun S15 => ∀ S16 : mj_S, S16 = m_sp S15 a0 4 (some q13) → ∀ q17 : Nat, q17 = S16.1.length → ∀ S18 : mj_S, S18 = m_nw S16 5 (mj_nf 5) → M_X6_init l G q17 S18 (fun S19 => ∀ S20 : mj_S, S20 = m_sp S19 a0 5 (some q17) → ∀ q21 : Nat, q21 = S20.1.length → ∀ S22 : mj_S, S22 = m_nw S20 5 (mj_nf 5) → M_X6_init l G q21 S22 (fun S23 => ∀ S24 : mj_S, S24 = m_sp S23 a0 6 (some q21) → ∀ q25 : Nat, q25 = S24.1.length → ∀ S26 : mj_S, S26 = m_nw S24 7 (mj_nf 7) → M_X8_init l G q25 S26 (fun S27 => ∀ S28 : mj_S, S28 = m_sp S27 a0 7 (some q25) → ∀ q29 : Nat, q29 = S28.1.length → ∀ S30 : mj_S, S30 = m_nw S28 7 (mj_nf 7) → M_X8_init l G q29 S30 (fun S31 => ∀ S32 : mj_S, S32 = m_sp S31 a0 8 (some q29) → ∀ q33 : Nat, q33 = S32.1.length → ∀ S34 : mj_S, S34 = m_nw S32 4 (mj_nf 4) → M_X4_init l G q33 S34 (fun S35 => ∀ S36 : mj_S, S36 = m_sp S35 a0 9 (some q33) → ∀ q37 : Nat, q37 = S36.1.length → ∀ S38 : mj_S, S38 = m_nw S36 0 (mj_nf 0) → M_X0_init l G q37 S38 (fun S39 => ∀ S40 : mj_S, S40 = m_sp S39 a0 10 (some q37) → ∀ q41 : Nat, q41 = S40.1.length → ∀ S42 : mj_S, S42 = m_nw S40 3 (mj_nf 3) → M_X3_init l G q41 S42 (fun S43 => ∀ S44 : mj_S, S44 = m_sp S43 a0 11 (some q41) → ∀ q45 : Nat, q45 = S44.1.length → ∀ S46 : mj_S, S46 = m_nw S44 8 (mj_nf 8) → M_X9_init l G q45 S46 (fun S47 => ∀ S48 : mj_S, S48 = m_sp S47 a0 12 (some q45) → ∀ q49 : Nat, q49 = S48.1.length → ∀ S50 : mj_S, S50 = m_nw S48 100 5 → ∀ S51 : mj_S, S51 = m_sp S50 a0 13 (some q49) → ∀ S52 : mj_S, S52 = m_si S51 a0 14 (0 : Int32) → ∀ S53 : mj_S, S53 = m_sl S52 a0 15 (0 : Int64) → ∀ S54 : mj_S, S54 = m_si S53 a0 16 (0 : Int32) → ∀ S55 : mj_S, S55 = m_si S54 a0 17 (0 : Int32) → ∀ S56 : mj_S, S56 = m_si S55 a0 18 (0 : Int32) → Q S56)))))))))))) : V_X10_init_0 l G a0 S Q := by
  refine mj_aload_n dX10_init_0 rfl rfl ?_
  refine mj_objInit (st := []) dX10_init_1 oi_X10_3 oi_im oi_co (by decide) (Nat.le_of_ble_eq_true rfl) ?_
  refine mj_aload_n dX10_init_4 rfl rfl ?_
  refine mj_sipush (v := 240) dX10_init_5 (by decide) ?_
  refine mj_newI (N := 240) dX10_init_8 ar_int (by decide) (by decide) (by decide) (Nat.le_of_ble_eq_true rfl) (Nat.le_of_ble_eq_true rfl) ?_
  obtain ⟨q1, eq1⟩ : ∃ z, z = S.1.length := ⟨_, rfl⟩
  rw [← eq1]
  obtain ⟨S2, eS2⟩ : ∃ z, z = m_nw S 100 240 := ⟨_, rfl⟩
  rw [← eS2]
  replace h := h q1 eq1 S2 eS2
  have hp : S.1 <+: S2.1 := by rw [eS2]; exact List.prefix_append _ _
  have hk_q1 : m_kd S2 q1 = 100 := by rw [eS2, eq1]; exact m_kd_nwl
  have hk_a0 : m_kd S2 a0 = 9 := m_kd_pre hp hk_a0 (by decide)
  refine mj_putP dX10_init_10 fl_X10_9_9 hk_a0 (Or.inr ⟨rfl, rfl⟩) rfl hk_q1 (fun _ => rfl) (fun _ => rfl) ?_
  obtain ⟨S3, eS3⟩ : ∃ z, z = m_sp S2 a0 0 (some q1) := ⟨_, rfl⟩
  rw [← eS3]
  replace h := h S3 eS3
  have hk_a0 : m_kd S3 a0 = 9 := by rw [eS3]; exact hk_a0
  have hk_q1 : m_kd S3 q1 = 100 := by rw [eS3]; exact hk_q1
  refine mj_aload_n dX10_init_13 rfl rfl ?_
  refine mj_iconst (v := 0) dX10_init_14 (by decide) ?_
  refine mj_putI dX10_init_15 fl_X10_13_9 hk_a0 (Or.inl rfl) rfl rfl rfl ?_
  obtain ⟨S4, eS4⟩ : ∃ z, z = m_si S3 a0 1 (0 : Int32) := ⟨_, rfl⟩
  rw [← eS4]
  replace h := h S4 eS4
  have hk_a0 : m_kd S4 a0 = 9 := by rw [eS4]; exact hk_a0
  have hk_q1 : m_kd S4 q1 = 100 := by rw [eS4]; exact hk_q1
  refine mj_aload_n dX10_init_18 rfl rfl ?_
  refine mj_new dX10_init_19 cn_X10_17 (Nat.le_of_ble_eq_true rfl) (Nat.le_of_ble_eq_true rfl) ?_
  obtain ⟨q5, eq5⟩ : ∃ z, z = S4.1.length := ⟨_, rfl⟩
  rw [← eq5]
  obtain ⟨S6, eS6⟩ : ∃ z, z = m_nw S4 6 (mj_nf 6) := ⟨_, rfl⟩
  rw [← eS6]
  replace h := h q5 eq5 S6 eS6
  have hp : S4.1 <+: S6.1 := by rw [eS6]; exact List.prefix_append _ _
  have hk_q5 : m_kd S6 q5 = 6 := by rw [eS6, eq5]; exact m_kd_nwl
  have hk_a0 : m_kd S6 a0 = 9 := m_kd_pre hp hk_a0 (by decide)
  have hk_q1 : m_kd S6 q1 = 100 := m_kd_pre hp hk_q1 (by decide)
  refine mj_dup dX10_init_22 rfl ?_
  refine mj_callIN (st := [.ref q5, .ref a0]) dX10_init_23 cal_X7_init ln_X10_19 im_X7_init rfl h (Nat.le_of_ble_eq_true rfl) (by decide) ⟨Nat.le_of_ble_eq_true rfl, Nat.le_of_ble_eq_true rfl⟩ (fun S7 h hp => ?_)
  have hk_a0 : m_kd S7 a0 = 9 := m_kd_pre hp hk_a0 (by decide)
  have hk_q1 : m_kd S7 q1 = 100 := m_kd_pre hp hk_q1 (by decide)
  have hk_q5 : m_kd S7 q5 = 6 := m_kd_pre hp hk_q5 (by decide)
  refine mj_putP dX10_init_26 fl_X10_20_9 hk_a0 (Or.inr ⟨rfl, rfl⟩) rfl hk_q5 (fun _ => rfl) (fun _ => rfl) ?_
  obtain ⟨S8, eS8⟩ : ∃ z, z = m_sp S7 a0 2 (some q5) := ⟨_, rfl⟩
  rw [← eS8]
  replace h := h S8 eS8
  have hk_a0 : m_kd S8 a0 = 9 := by rw [eS8]; exact hk_a0
  have hk_q1 : m_kd S8 q1 = 100 := by rw [eS8]; exact hk_q1
  have hk_q5 : m_kd S8 q5 = 6 := by rw [eS8]; exact hk_q5
  refine mj_aload_n dX10_init_29 rfl rfl ?_
  refine mj_new dX10_init_30 cn_X10_24 (Nat.le_of_ble_eq_true rfl) (Nat.le_of_ble_eq_true rfl) ?_
  obtain ⟨q9, eq9⟩ : ∃ z, z = S8.1.length := ⟨_, rfl⟩
  rw [← eq9]
  obtain ⟨S10, eS10⟩ : ∃ z, z = m_nw S8 1 (mj_nf 1) := ⟨_, rfl⟩
  rw [← eS10]
  replace h := h q9 eq9 S10 eS10
  have hp : S8.1 <+: S10.1 := by rw [eS10]; exact List.prefix_append _ _
  have hk_q9 : m_kd S10 q9 = 1 := by rw [eS10, eq9]; exact m_kd_nwl
  have hk_a0 : m_kd S10 a0 = 9 := m_kd_pre hp hk_a0 (by decide)
  have hk_q1 : m_kd S10 q1 = 100 := m_kd_pre hp hk_q1 (by decide)
  have hk_q5 : m_kd S10 q5 = 6 := m_kd_pre hp hk_q5 (by decide)
  refine mj_dup dX10_init_33 rfl ?_
  refine mj_callIN (st := [.ref q9, .ref a0]) dX10_init_34 cal_X1_init ln_X10_26 im_X1_init rfl h (Nat.le_of_ble_eq_true rfl) (by decide) ⟨Nat.le_of_ble_eq_true rfl, Nat.le_of_ble_eq_true rfl⟩ (fun S11 h hp => ?_)
  have hk_a0 : m_kd S11 a0 = 9 := m_kd_pre hp hk_a0 (by decide)
  have hk_q1 : m_kd S11 q1 = 100 := m_kd_pre hp hk_q1 (by decide)
  have hk_q5 : m_kd S11 q5 = 6 := m_kd_pre hp hk_q5 (by decide)
  have hk_q9 : m_kd S11 q9 = 1 := m_kd_pre hp hk_q9 (by decide)
  refine mj_putP dX10_init_37 fl_X10_27_9 hk_a0 (Or.inr ⟨rfl, rfl⟩) rfl hk_q9 (fun _ => rfl) (fun _ => rfl) ?_
  obtain ⟨S12, eS12⟩ : ∃ z, z = m_sp S11 a0 3 (some q9) := ⟨_, rfl⟩
  rw [← eS12]
  replace h := h S12 eS12
  have hk_a0 : m_kd S12 a0 = 9 := by rw [eS12]; exact hk_a0
  have hk_q1 : m_kd S12 q1 = 100 := by rw [eS12]; exact hk_q1
  have hk_q5 : m_kd S12 q5 = 6 := by rw [eS12]; exact hk_q5
  have hk_q9 : m_kd S12 q9 = 1 := by rw [eS12]; exact hk_q9
  refine mj_aload_n dX10_init_40 rfl rfl ?_
  refine mj_new dX10_init_41 cn_X10_31 (Nat.le_of_ble_eq_true rfl) (Nat.le_of_ble_eq_true rfl) ?_
  obtain ⟨q13, eq13⟩ : ∃ z, z = S12.1.length := ⟨_, rfl⟩
  rw [← eq13]
  obtain ⟨S14, eS14⟩ : ∃ z, z = m_nw S12 2 (mj_nf 2) := ⟨_, rfl⟩
  rw [← eS14]
  replace h := h q13 eq13 S14 eS14
  have hp : S12.1 <+: S14.1 := by rw [eS14]; exact List.prefix_append _ _
  have hk_q13 : m_kd S14 q13 = 2 := by rw [eS14, eq13]; exact m_kd_nwl
  have hk_a0 : m_kd S14 a0 = 9 := m_kd_pre hp hk_a0 (by decide)
  have hk_q1 : m_kd S14 q1 = 100 := m_kd_pre hp hk_q1 (by decide)
  have hk_q5 : m_kd S14 q5 = 6 := m_kd_pre hp hk_q5 (by decide)
  have hk_q9 : m_kd S14 q9 = 1 := m_kd_pre hp hk_q9 (by decide)
  refine mj_dup dX10_init_44 rfl ?_
  refine mj_callIN (st := [.ref q13, .ref a0]) dX10_init_45 cal_X2_init ln_X10_33 im_X2_init rfl h (Nat.le_of_ble_eq_true rfl) (by decide) ⟨Nat.le_of_ble_eq_true rfl, Nat.le_of_ble_eq_true rfl⟩ (fun S15 h hp => ?_)
  have hk_a0 : m_kd S15 a0 = 9 := m_kd_pre hp hk_a0 (by decide)
  have hk_q1 : m_kd S15 q1 = 100 := m_kd_pre hp hk_q1 (by decide)
  have hk_q5 : m_kd S15 q5 = 6 := m_kd_pre hp hk_q5 (by decide)
  have hk_q9 : m_kd S15 q9 = 1 := m_kd_pre hp hk_q9 (by decide)
  have hk_q13 : m_kd S15 q13 = 2 := m_kd_pre hp hk_q13 (by decide)
  refine mj_putP dX10_init_48 fl_X10_34_9 hk_a0 (Or.inr ⟨rfl, rfl⟩) rfl hk_q13 (fun _ => rfl) (fun _ => rfl) ?_
  obtain ⟨S16, eS16⟩ : ∃ z, z = m_sp S15 a0 4 (some q13) := ⟨_, rfl⟩
  rw [← eS16]
  replace h := h S16 eS16
  have hk_a0 : m_kd S16 a0 = 9 := by rw [eS16]; exact hk_a0
  have hk_q1 : m_kd S16 q1 = 100 := by rw [eS16]; exact hk_q1
  have hk_q5 : m_kd S16 q5 = 6 := by rw [eS16]; exact hk_q5
  have hk_q9 : m_kd S16 q9 = 1 := by rw [eS16]; exact hk_q9
  have hk_q13 : m_kd S16 q13 = 2 := by rw [eS16]; exact hk_q13
  refine mj_aload_n dX10_init_51 rfl rfl ?_
  refine mj_new dX10_init_52 cn_X10_38 (Nat.le_of_ble_eq_true rfl) (Nat.le_of_ble_eq_true rfl) ?_
  obtain ⟨q17, eq17⟩ : ∃ z, z = S16.1.length := ⟨_, rfl⟩
  rw [← eq17]
  obtain ⟨S18, eS18⟩ : ∃ z, z = m_nw S16 5 (mj_nf 5) := ⟨_, rfl⟩
  rw [← eS18]
  replace h := h q17 eq17 S18 eS18
  have hp : S16.1 <+: S18.1 := by rw [eS18]; exact List.prefix_append _ _
  have hk_q17 : m_kd S18 q17 = 5 := by rw [eS18, eq17]; exact m_kd_nwl
  have hk_a0 : m_kd S18 a0 = 9 := m_kd_pre hp hk_a0 (by decide)
  have hk_q1 : m_kd S18 q1 = 100 := m_kd_pre hp hk_q1 (by decide)
  have hk_q5 : m_kd S18 q5 = 6 := m_kd_pre hp hk_q5 (by decide)
  have hk_q9 : m_kd S18 q9 = 1 := m_kd_pre hp hk_q9 (by decide)
  have hk_q13 : m_kd S18 q13 = 2 := m_kd_pre hp hk_q13 (by decide)
  refine mj_dup dX10_init_55 rfl ?_
  refine mj_callIN (st := [.ref q17, .ref a0]) dX10_init_56 cal_X6_init ln_X10_40 im_X6_init rfl h (Nat.le_of_ble_eq_true rfl) (by decide) ⟨Nat.le_of_ble_eq_true rfl, Nat.le_of_ble_eq_true rfl⟩ (fun S19 h hp => ?_)
  have hk_a0 : m_kd S19 a0 = 9 := m_kd_pre hp hk_a0 (by decide)
  have hk_q1 : m_kd S19 q1 = 100 := m_kd_pre hp hk_q1 (by decide)
  have hk_q5 : m_kd S19 q5 = 6 := m_kd_pre hp hk_q5 (by decide)
  have hk_q9 : m_kd S19 q9 = 1 := m_kd_pre hp hk_q9 (by decide)
  have hk_q13 : m_kd S19 q13 = 2 := m_kd_pre hp hk_q13 (by decide)
  have hk_q17 : m_kd S19 q17 = 5 := m_kd_pre hp hk_q17 (by decide)
  refine mj_putP dX10_init_59 fl_X10_41_9 hk_a0 (Or.inl rfl) rfl hk_q17 (fun _ => rfl) (fun _ => rfl) ?_
  obtain ⟨S20, eS20⟩ : ∃ z, z = m_sp S19 a0 5 (some q17) := ⟨_, rfl⟩
  rw [← eS20]
  replace h := h S20 eS20
  have hk_a0 : m_kd S20 a0 = 9 := by rw [eS20]; exact hk_a0
  have hk_q1 : m_kd S20 q1 = 100 := by rw [eS20]; exact hk_q1
  have hk_q5 : m_kd S20 q5 = 6 := by rw [eS20]; exact hk_q5
  have hk_q9 : m_kd S20 q9 = 1 := by rw [eS20]; exact hk_q9
  have hk_q13 : m_kd S20 q13 = 2 := by rw [eS20]; exact hk_q13
  have hk_q17 : m_kd S20 q17 = 5 := by rw [eS20]; exact hk_q17
  refine mj_aload_n dX10_init_62 rfl rfl ?_
  refine mj_new dX10_init_63 cn_X10_38 (Nat.le_of_ble_eq_true rfl) (Nat.le_of_ble_eq_true rfl) ?_
  obtain ⟨q21, eq21⟩ : ∃ z, z = S20.1.length := ⟨_, rfl⟩
  rw [← eq21]
  obtain ⟨S22, eS22⟩ : ∃ z, z = m_nw S20 5 (mj_nf 5) := ⟨_, rfl⟩
  rw [← eS22]
  replace h := h q21 eq21 S22 eS22
  have hp : S20.1 <+: S22.1 := by rw [eS22]; exact List.prefix_append _ _
  have hk_q21 : m_kd S22 q21 = 5 := by rw [eS22, eq21]; exact m_kd_nwl
  have hk_a0 : m_kd S22 a0 = 9 := m_kd_pre hp hk_a0 (by decide)
  have hk_q1 : m_kd S22 q1 = 100 := m_kd_pre hp hk_q1 (by decide)
  have hk_q5 : m_kd S22 q5 = 6 := m_kd_pre hp hk_q5 (by decide)
  have hk_q9 : m_kd S22 q9 = 1 := m_kd_pre hp hk_q9 (by decide)
  have hk_q13 : m_kd S22 q13 = 2 := m_kd_pre hp hk_q13 (by decide)
  have hk_q17 : m_kd S22 q17 = 5 := m_kd_pre hp hk_q17 (by decide)
  refine mj_dup dX10_init_66 rfl ?_
  refine mj_callIN (st := [.ref q21, .ref a0]) dX10_init_67 cal_X6_init ln_X10_40 im_X6_init rfl h (Nat.le_of_ble_eq_true rfl) (by decide) ⟨Nat.le_of_ble_eq_true rfl, Nat.le_of_ble_eq_true rfl⟩ (fun S23 h hp => ?_)
  have hk_a0 : m_kd S23 a0 = 9 := m_kd_pre hp hk_a0 (by decide)
  have hk_q1 : m_kd S23 q1 = 100 := m_kd_pre hp hk_q1 (by decide)
  have hk_q5 : m_kd S23 q5 = 6 := m_kd_pre hp hk_q5 (by decide)
  have hk_q9 : m_kd S23 q9 = 1 := m_kd_pre hp hk_q9 (by decide)
  have hk_q13 : m_kd S23 q13 = 2 := m_kd_pre hp hk_q13 (by decide)
  have hk_q17 : m_kd S23 q17 = 5 := m_kd_pre hp hk_q17 (by decide)
  have hk_q21 : m_kd S23 q21 = 5 := m_kd_pre hp hk_q21 (by decide)
  refine mj_putP dX10_init_70 fl_X10_45_9 hk_a0 (Or.inl rfl) rfl hk_q21 (fun _ => rfl) (fun _ => rfl) ?_
  obtain ⟨S24, eS24⟩ : ∃ z, z = m_sp S23 a0 6 (some q21) := ⟨_, rfl⟩
  rw [← eS24]
  replace h := h S24 eS24
  have hk_a0 : m_kd S24 a0 = 9 := by rw [eS24]; exact hk_a0
  have hk_q1 : m_kd S24 q1 = 100 := by rw [eS24]; exact hk_q1
  have hk_q5 : m_kd S24 q5 = 6 := by rw [eS24]; exact hk_q5
  have hk_q9 : m_kd S24 q9 = 1 := by rw [eS24]; exact hk_q9
  have hk_q13 : m_kd S24 q13 = 2 := by rw [eS24]; exact hk_q13
  have hk_q17 : m_kd S24 q17 = 5 := by rw [eS24]; exact hk_q17
  have hk_q21 : m_kd S24 q21 = 5 := by rw [eS24]; exact hk_q21
  refine mj_aload_n dX10_init_73 rfl rfl ?_
  refine mj_new dX10_init_74 cn_X10_48 (Nat.le_of_ble_eq_true rfl) (Nat.le_of_ble_eq_true rfl) ?_
  obtain ⟨q25, eq25⟩ : ∃ z, z = S24.1.length := ⟨_, rfl⟩
  rw [← eq25]
  obtain ⟨S26, eS26⟩ : ∃ z, z = m_nw S24 7 (mj_nf 7) := ⟨_, rfl⟩
  rw [← eS26]
  replace h := h q25 eq25 S26 eS26
  have hp : S24.1 <+: S26.1 := by rw [eS26]; exact List.prefix_append _ _
  have hk_q25 : m_kd S26 q25 = 7 := by rw [eS26, eq25]; exact m_kd_nwl
  have hk_a0 : m_kd S26 a0 = 9 := m_kd_pre hp hk_a0 (by decide)
  have hk_q1 : m_kd S26 q1 = 100 := m_kd_pre hp hk_q1 (by decide)
  have hk_q5 : m_kd S26 q5 = 6 := m_kd_pre hp hk_q5 (by decide)
  have hk_q9 : m_kd S26 q9 = 1 := m_kd_pre hp hk_q9 (by decide)
  have hk_q13 : m_kd S26 q13 = 2 := m_kd_pre hp hk_q13 (by decide)
  have hk_q17 : m_kd S26 q17 = 5 := m_kd_pre hp hk_q17 (by decide)
  have hk_q21 : m_kd S26 q21 = 5 := m_kd_pre hp hk_q21 (by decide)
  refine mj_dup dX10_init_77 rfl ?_
  refine mj_callIN (st := [.ref q25, .ref a0]) dX10_init_78 cal_X8_init ln_X10_50 im_X8_init rfl h (Nat.le_of_ble_eq_true rfl) (by decide) ⟨Nat.le_of_ble_eq_true rfl, Nat.le_of_ble_eq_true rfl⟩ (fun S27 h hp => ?_)
  have hk_a0 : m_kd S27 a0 = 9 := m_kd_pre hp hk_a0 (by decide)
  have hk_q1 : m_kd S27 q1 = 100 := m_kd_pre hp hk_q1 (by decide)
  have hk_q5 : m_kd S27 q5 = 6 := m_kd_pre hp hk_q5 (by decide)
  have hk_q9 : m_kd S27 q9 = 1 := m_kd_pre hp hk_q9 (by decide)
  have hk_q13 : m_kd S27 q13 = 2 := m_kd_pre hp hk_q13 (by decide)
  have hk_q17 : m_kd S27 q17 = 5 := m_kd_pre hp hk_q17 (by decide)
  have hk_q21 : m_kd S27 q21 = 5 := m_kd_pre hp hk_q21 (by decide)
  have hk_q25 : m_kd S27 q25 = 7 := m_kd_pre hp hk_q25 (by decide)
  refine mj_putP dX10_init_81 fl_X10_51_9 hk_a0 (Or.inr ⟨rfl, rfl⟩) rfl hk_q25 (fun _ => rfl) (fun _ => rfl) ?_
  obtain ⟨S28, eS28⟩ : ∃ z, z = m_sp S27 a0 7 (some q25) := ⟨_, rfl⟩
  rw [← eS28]
  replace h := h S28 eS28
  have hk_a0 : m_kd S28 a0 = 9 := by rw [eS28]; exact hk_a0
  have hk_q1 : m_kd S28 q1 = 100 := by rw [eS28]; exact hk_q1
  have hk_q5 : m_kd S28 q5 = 6 := by rw [eS28]; exact hk_q5
  have hk_q9 : m_kd S28 q9 = 1 := by rw [eS28]; exact hk_q9
  have hk_q13 : m_kd S28 q13 = 2 := by rw [eS28]; exact hk_q13
  have hk_q17 : m_kd S28 q17 = 5 := by rw [eS28]; exact hk_q17
  have hk_q21 : m_kd S28 q21 = 5 := by rw [eS28]; exact hk_q21
  have hk_q25 : m_kd S28 q25 = 7 := by rw [eS28]; exact hk_q25
  refine mj_aload_n dX10_init_84 rfl rfl ?_
  refine mj_new dX10_init_85 cn_X10_48 (Nat.le_of_ble_eq_true rfl) (Nat.le_of_ble_eq_true rfl) ?_
  obtain ⟨q29, eq29⟩ : ∃ z, z = S28.1.length := ⟨_, rfl⟩
  rw [← eq29]
  obtain ⟨S30, eS30⟩ : ∃ z, z = m_nw S28 7 (mj_nf 7) := ⟨_, rfl⟩
  rw [← eS30]
  replace h := h q29 eq29 S30 eS30
  have hp : S28.1 <+: S30.1 := by rw [eS30]; exact List.prefix_append _ _
  have hk_q29 : m_kd S30 q29 = 7 := by rw [eS30, eq29]; exact m_kd_nwl
  have hk_a0 : m_kd S30 a0 = 9 := m_kd_pre hp hk_a0 (by decide)
  have hk_q1 : m_kd S30 q1 = 100 := m_kd_pre hp hk_q1 (by decide)
  have hk_q5 : m_kd S30 q5 = 6 := m_kd_pre hp hk_q5 (by decide)
  have hk_q9 : m_kd S30 q9 = 1 := m_kd_pre hp hk_q9 (by decide)
  have hk_q13 : m_kd S30 q13 = 2 := m_kd_pre hp hk_q13 (by decide)
  have hk_q17 : m_kd S30 q17 = 5 := m_kd_pre hp hk_q17 (by decide)
  have hk_q21 : m_kd S30 q21 = 5 := m_kd_pre hp hk_q21 (by decide)
  have hk_q25 : m_kd S30 q25 = 7 := m_kd_pre hp hk_q25 (by decide)
  refine mj_dup dX10_init_88 rfl ?_
  refine mj_callIN (st := [.ref q29, .ref a0]) dX10_init_89 cal_X8_init ln_X10_50 im_X8_init rfl h (Nat.le_of_ble_eq_true rfl) (by decide) ⟨Nat.le_of_ble_eq_true rfl, Nat.le_of_ble_eq_true rfl⟩ (fun S31 h hp => ?_)
  have hk_a0 : m_kd S31 a0 = 9 := m_kd_pre hp hk_a0 (by decide)
  have hk_q1 : m_kd S31 q1 = 100 := m_kd_pre hp hk_q1 (by decide)
  have hk_q5 : m_kd S31 q5 = 6 := m_kd_pre hp hk_q5 (by decide)
  have hk_q9 : m_kd S31 q9 = 1 := m_kd_pre hp hk_q9 (by decide)
  have hk_q13 : m_kd S31 q13 = 2 := m_kd_pre hp hk_q13 (by decide)
  have hk_q17 : m_kd S31 q17 = 5 := m_kd_pre hp hk_q17 (by decide)
  have hk_q21 : m_kd S31 q21 = 5 := m_kd_pre hp hk_q21 (by decide)
  have hk_q25 : m_kd S31 q25 = 7 := m_kd_pre hp hk_q25 (by decide)
  have hk_q29 : m_kd S31 q29 = 7 := m_kd_pre hp hk_q29 (by decide)
  refine mj_putP dX10_init_92 fl_X10_55_9 hk_a0 (Or.inr ⟨rfl, rfl⟩) rfl hk_q29 (fun _ => rfl) (fun _ => rfl) ?_
  obtain ⟨S32, eS32⟩ : ∃ z, z = m_sp S31 a0 8 (some q29) := ⟨_, rfl⟩
  rw [← eS32]
  replace h := h S32 eS32
  have hk_a0 : m_kd S32 a0 = 9 := by rw [eS32]; exact hk_a0
  have hk_q1 : m_kd S32 q1 = 100 := by rw [eS32]; exact hk_q1
  have hk_q5 : m_kd S32 q5 = 6 := by rw [eS32]; exact hk_q5
  have hk_q9 : m_kd S32 q9 = 1 := by rw [eS32]; exact hk_q9
  have hk_q13 : m_kd S32 q13 = 2 := by rw [eS32]; exact hk_q13
  have hk_q17 : m_kd S32 q17 = 5 := by rw [eS32]; exact hk_q17
  have hk_q21 : m_kd S32 q21 = 5 := by rw [eS32]; exact hk_q21
  have hk_q25 : m_kd S32 q25 = 7 := by rw [eS32]; exact hk_q25
  have hk_q29 : m_kd S32 q29 = 7 := by rw [eS32]; exact hk_q29
  refine mj_aload_n dX10_init_95 rfl rfl ?_
  refine mj_new dX10_init_96 cn_X10_58 (Nat.le_of_ble_eq_true rfl) (Nat.le_of_ble_eq_true rfl) ?_
  obtain ⟨q33, eq33⟩ : ∃ z, z = S32.1.length := ⟨_, rfl⟩
  rw [← eq33]
  obtain ⟨S34, eS34⟩ : ∃ z, z = m_nw S32 4 (mj_nf 4) := ⟨_, rfl⟩
  rw [← eS34]
  replace h := h q33 eq33 S34 eS34
  have hp : S32.1 <+: S34.1 := by rw [eS34]; exact List.prefix_append _ _
  have hk_q33 : m_kd S34 q33 = 4 := by rw [eS34, eq33]; exact m_kd_nwl
  have hk_a0 : m_kd S34 a0 = 9 := m_kd_pre hp hk_a0 (by decide)
  have hk_q1 : m_kd S34 q1 = 100 := m_kd_pre hp hk_q1 (by decide)
  have hk_q5 : m_kd S34 q5 = 6 := m_kd_pre hp hk_q5 (by decide)
  have hk_q9 : m_kd S34 q9 = 1 := m_kd_pre hp hk_q9 (by decide)
  have hk_q13 : m_kd S34 q13 = 2 := m_kd_pre hp hk_q13 (by decide)
  have hk_q17 : m_kd S34 q17 = 5 := m_kd_pre hp hk_q17 (by decide)
  have hk_q21 : m_kd S34 q21 = 5 := m_kd_pre hp hk_q21 (by decide)
  have hk_q25 : m_kd S34 q25 = 7 := m_kd_pre hp hk_q25 (by decide)
  have hk_q29 : m_kd S34 q29 = 7 := m_kd_pre hp hk_q29 (by decide)
  refine mj_dup dX10_init_99 rfl ?_
  refine mj_callIN (st := [.ref q33, .ref a0]) dX10_init_100 cal_X4_init ln_X10_60 im_X4_init rfl h (Nat.le_of_ble_eq_true rfl) (by decide) ⟨Nat.le_of_ble_eq_true rfl, Nat.le_of_ble_eq_true rfl⟩ (fun S35 h hp => ?_)
  have hk_a0 : m_kd S35 a0 = 9 := m_kd_pre hp hk_a0 (by decide)
  have hk_q1 : m_kd S35 q1 = 100 := m_kd_pre hp hk_q1 (by decide)
  have hk_q5 : m_kd S35 q5 = 6 := m_kd_pre hp hk_q5 (by decide)
  have hk_q9 : m_kd S35 q9 = 1 := m_kd_pre hp hk_q9 (by decide)
  have hk_q13 : m_kd S35 q13 = 2 := m_kd_pre hp hk_q13 (by decide)
  have hk_q17 : m_kd S35 q17 = 5 := m_kd_pre hp hk_q17 (by decide)
  have hk_q21 : m_kd S35 q21 = 5 := m_kd_pre hp hk_q21 (by decide)
  have hk_q25 : m_kd S35 q25 = 7 := m_kd_pre hp hk_q25 (by decide)
  have hk_q29 : m_kd S35 q29 = 7 := m_kd_pre hp hk_q29 (by decide)
  have hk_q33 : m_kd S35 q33 = 4 := m_kd_pre hp hk_q33 (by decide)
  refine mj_putP dX10_init_103 fl_X10_61_9 hk_a0 (Or.inr ⟨rfl, rfl⟩) rfl hk_q33 (fun _ => rfl) (fun _ => rfl) ?_
  obtain ⟨S36, eS36⟩ : ∃ z, z = m_sp S35 a0 9 (some q33) := ⟨_, rfl⟩
  rw [← eS36]
  replace h := h S36 eS36
  have hk_a0 : m_kd S36 a0 = 9 := by rw [eS36]; exact hk_a0
  have hk_q1 : m_kd S36 q1 = 100 := by rw [eS36]; exact hk_q1
  have hk_q5 : m_kd S36 q5 = 6 := by rw [eS36]; exact hk_q5
  have hk_q9 : m_kd S36 q9 = 1 := by rw [eS36]; exact hk_q9
  have hk_q13 : m_kd S36 q13 = 2 := by rw [eS36]; exact hk_q13
  have hk_q17 : m_kd S36 q17 = 5 := by rw [eS36]; exact hk_q17
  have hk_q21 : m_kd S36 q21 = 5 := by rw [eS36]; exact hk_q21
  have hk_q25 : m_kd S36 q25 = 7 := by rw [eS36]; exact hk_q25
  have hk_q29 : m_kd S36 q29 = 7 := by rw [eS36]; exact hk_q29
  have hk_q33 : m_kd S36 q33 = 4 := by rw [eS36]; exact hk_q33
  refine mj_aload_n dX10_init_106 rfl rfl ?_
  refine mj_new dX10_init_107 cn_X10_65 (Nat.le_of_ble_eq_true rfl) (Nat.le_of_ble_eq_true rfl) ?_
  obtain ⟨q37, eq37⟩ : ∃ z, z = S36.1.length := ⟨_, rfl⟩
  rw [← eq37]
  obtain ⟨S38, eS38⟩ : ∃ z, z = m_nw S36 0 (mj_nf 0) := ⟨_, rfl⟩
  rw [← eS38]
  replace h := h q37 eq37 S38 eS38
  have hp : S36.1 <+: S38.1 := by rw [eS38]; exact List.prefix_append _ _
  have hk_q37 : m_kd S38 q37 = 0 := by rw [eS38, eq37]; exact m_kd_nwl
  have hk_a0 : m_kd S38 a0 = 9 := m_kd_pre hp hk_a0 (by decide)
  have hk_q1 : m_kd S38 q1 = 100 := m_kd_pre hp hk_q1 (by decide)
  have hk_q5 : m_kd S38 q5 = 6 := m_kd_pre hp hk_q5 (by decide)
  have hk_q9 : m_kd S38 q9 = 1 := m_kd_pre hp hk_q9 (by decide)
  have hk_q13 : m_kd S38 q13 = 2 := m_kd_pre hp hk_q13 (by decide)
  have hk_q17 : m_kd S38 q17 = 5 := m_kd_pre hp hk_q17 (by decide)
  have hk_q21 : m_kd S38 q21 = 5 := m_kd_pre hp hk_q21 (by decide)
  have hk_q25 : m_kd S38 q25 = 7 := m_kd_pre hp hk_q25 (by decide)
  have hk_q29 : m_kd S38 q29 = 7 := m_kd_pre hp hk_q29 (by decide)
  have hk_q33 : m_kd S38 q33 = 4 := m_kd_pre hp hk_q33 (by decide)
  refine mj_dup dX10_init_110 rfl ?_
  refine mj_callIN (st := [.ref q37, .ref a0]) dX10_init_111 cal_X0_init ln_X10_67 im_X0_init rfl h (Nat.le_of_ble_eq_true rfl) (by decide) ⟨Nat.le_of_ble_eq_true rfl, Nat.le_of_ble_eq_true rfl⟩ (fun S39 h hp => ?_)
  have hk_a0 : m_kd S39 a0 = 9 := m_kd_pre hp hk_a0 (by decide)
  have hk_q1 : m_kd S39 q1 = 100 := m_kd_pre hp hk_q1 (by decide)
  have hk_q5 : m_kd S39 q5 = 6 := m_kd_pre hp hk_q5 (by decide)
  have hk_q9 : m_kd S39 q9 = 1 := m_kd_pre hp hk_q9 (by decide)
  have hk_q13 : m_kd S39 q13 = 2 := m_kd_pre hp hk_q13 (by decide)
  have hk_q17 : m_kd S39 q17 = 5 := m_kd_pre hp hk_q17 (by decide)
  have hk_q21 : m_kd S39 q21 = 5 := m_kd_pre hp hk_q21 (by decide)
  have hk_q25 : m_kd S39 q25 = 7 := m_kd_pre hp hk_q25 (by decide)
  have hk_q29 : m_kd S39 q29 = 7 := m_kd_pre hp hk_q29 (by decide)
  have hk_q33 : m_kd S39 q33 = 4 := m_kd_pre hp hk_q33 (by decide)
  have hk_q37 : m_kd S39 q37 = 0 := m_kd_pre hp hk_q37 (by decide)
  refine mj_putP dX10_init_114 fl_X10_68_9 hk_a0 (Or.inr ⟨rfl, rfl⟩) rfl hk_q37 (fun _ => rfl) (fun _ => rfl) ?_
  obtain ⟨S40, eS40⟩ : ∃ z, z = m_sp S39 a0 10 (some q37) := ⟨_, rfl⟩
  rw [← eS40]
  replace h := h S40 eS40
  have hk_a0 : m_kd S40 a0 = 9 := by rw [eS40]; exact hk_a0
  have hk_q1 : m_kd S40 q1 = 100 := by rw [eS40]; exact hk_q1
  have hk_q5 : m_kd S40 q5 = 6 := by rw [eS40]; exact hk_q5
  have hk_q9 : m_kd S40 q9 = 1 := by rw [eS40]; exact hk_q9
  have hk_q13 : m_kd S40 q13 = 2 := by rw [eS40]; exact hk_q13
  have hk_q17 : m_kd S40 q17 = 5 := by rw [eS40]; exact hk_q17
  have hk_q21 : m_kd S40 q21 = 5 := by rw [eS40]; exact hk_q21
  have hk_q25 : m_kd S40 q25 = 7 := by rw [eS40]; exact hk_q25
  have hk_q29 : m_kd S40 q29 = 7 := by rw [eS40]; exact hk_q29
  have hk_q33 : m_kd S40 q33 = 4 := by rw [eS40]; exact hk_q33
  have hk_q37 : m_kd S40 q37 = 0 := by rw [eS40]; exact hk_q37
  refine mj_aload_n dX10_init_117 rfl rfl ?_
  refine mj_new dX10_init_118 cn_X10_72 (Nat.le_of_ble_eq_true rfl) (Nat.le_of_ble_eq_true rfl) ?_
  obtain ⟨q41, eq41⟩ : ∃ z, z = S40.1.length := ⟨_, rfl⟩
  rw [← eq41]
  obtain ⟨S42, eS42⟩ : ∃ z, z = m_nw S40 3 (mj_nf 3) := ⟨_, rfl⟩
  rw [← eS42]
  replace h := h q41 eq41 S42 eS42
  have hp : S40.1 <+: S42.1 := by rw [eS42]; exact List.prefix_append _ _
  have hk_q41 : m_kd S42 q41 = 3 := by rw [eS42, eq41]; exact m_kd_nwl
  have hk_a0 : m_kd S42 a0 = 9 := m_kd_pre hp hk_a0 (by decide)
  have hk_q1 : m_kd S42 q1 = 100 := m_kd_pre hp hk_q1 (by decide)
  have hk_q5 : m_kd S42 q5 = 6 := m_kd_pre hp hk_q5 (by decide)
  have hk_q9 : m_kd S42 q9 = 1 := m_kd_pre hp hk_q9 (by decide)
  have hk_q13 : m_kd S42 q13 = 2 := m_kd_pre hp hk_q13 (by decide)
  have hk_q17 : m_kd S42 q17 = 5 := m_kd_pre hp hk_q17 (by decide)
  have hk_q21 : m_kd S42 q21 = 5 := m_kd_pre hp hk_q21 (by decide)
  have hk_q25 : m_kd S42 q25 = 7 := m_kd_pre hp hk_q25 (by decide)
  have hk_q29 : m_kd S42 q29 = 7 := m_kd_pre hp hk_q29 (by decide)
  have hk_q33 : m_kd S42 q33 = 4 := m_kd_pre hp hk_q33 (by decide)
  have hk_q37 : m_kd S42 q37 = 0 := m_kd_pre hp hk_q37 (by decide)
  refine mj_dup dX10_init_121 rfl ?_
  refine mj_callIN (st := [.ref q41, .ref a0]) dX10_init_122 cal_X3_init ln_X10_74 im_X3_init rfl h (Nat.le_of_ble_eq_true rfl) (by decide) ⟨Nat.le_of_ble_eq_true rfl, Nat.le_of_ble_eq_true rfl⟩ (fun S43 h hp => ?_)
  have hk_a0 : m_kd S43 a0 = 9 := m_kd_pre hp hk_a0 (by decide)
  have hk_q1 : m_kd S43 q1 = 100 := m_kd_pre hp hk_q1 (by decide)
  have hk_q5 : m_kd S43 q5 = 6 := m_kd_pre hp hk_q5 (by decide)
  have hk_q9 : m_kd S43 q9 = 1 := m_kd_pre hp hk_q9 (by decide)
  have hk_q13 : m_kd S43 q13 = 2 := m_kd_pre hp hk_q13 (by decide)
  have hk_q17 : m_kd S43 q17 = 5 := m_kd_pre hp hk_q17 (by decide)
  have hk_q21 : m_kd S43 q21 = 5 := m_kd_pre hp hk_q21 (by decide)
  have hk_q25 : m_kd S43 q25 = 7 := m_kd_pre hp hk_q25 (by decide)
  have hk_q29 : m_kd S43 q29 = 7 := m_kd_pre hp hk_q29 (by decide)
  have hk_q33 : m_kd S43 q33 = 4 := m_kd_pre hp hk_q33 (by decide)
  have hk_q37 : m_kd S43 q37 = 0 := m_kd_pre hp hk_q37 (by decide)
  have hk_q41 : m_kd S43 q41 = 3 := m_kd_pre hp hk_q41 (by decide)
  refine mj_putP dX10_init_125 fl_X10_75_9 hk_a0 (Or.inr ⟨rfl, rfl⟩) rfl hk_q41 (fun _ => rfl) (fun _ => rfl) ?_
  obtain ⟨S44, eS44⟩ : ∃ z, z = m_sp S43 a0 11 (some q41) := ⟨_, rfl⟩
  rw [← eS44]
  replace h := h S44 eS44
  have hk_a0 : m_kd S44 a0 = 9 := by rw [eS44]; exact hk_a0
  have hk_q1 : m_kd S44 q1 = 100 := by rw [eS44]; exact hk_q1
  have hk_q5 : m_kd S44 q5 = 6 := by rw [eS44]; exact hk_q5
  have hk_q9 : m_kd S44 q9 = 1 := by rw [eS44]; exact hk_q9
  have hk_q13 : m_kd S44 q13 = 2 := by rw [eS44]; exact hk_q13
  have hk_q17 : m_kd S44 q17 = 5 := by rw [eS44]; exact hk_q17
  have hk_q21 : m_kd S44 q21 = 5 := by rw [eS44]; exact hk_q21
  have hk_q25 : m_kd S44 q25 = 7 := by rw [eS44]; exact hk_q25
  have hk_q29 : m_kd S44 q29 = 7 := by rw [eS44]; exact hk_q29
  have hk_q33 : m_kd S44 q33 = 4 := by rw [eS44]; exact hk_q33
  have hk_q37 : m_kd S44 q37 = 0 := by rw [eS44]; exact hk_q37
  have hk_q41 : m_kd S44 q41 = 3 := by rw [eS44]; exact hk_q41
  refine mj_aload_n dX10_init_128 rfl rfl ?_
  refine mj_new dX10_init_129 cn_X10_79 (Nat.le_of_ble_eq_true rfl) (Nat.le_of_ble_eq_true rfl) ?_
  obtain ⟨q45, eq45⟩ : ∃ z, z = S44.1.length := ⟨_, rfl⟩
  rw [← eq45]
  obtain ⟨S46, eS46⟩ : ∃ z, z = m_nw S44 8 (mj_nf 8) := ⟨_, rfl⟩
  rw [← eS46]
  replace h := h q45 eq45 S46 eS46
  have hp : S44.1 <+: S46.1 := by rw [eS46]; exact List.prefix_append _ _
  have hk_q45 : m_kd S46 q45 = 8 := by rw [eS46, eq45]; exact m_kd_nwl
  have hk_a0 : m_kd S46 a0 = 9 := m_kd_pre hp hk_a0 (by decide)
  have hk_q1 : m_kd S46 q1 = 100 := m_kd_pre hp hk_q1 (by decide)
  have hk_q5 : m_kd S46 q5 = 6 := m_kd_pre hp hk_q5 (by decide)
  have hk_q9 : m_kd S46 q9 = 1 := m_kd_pre hp hk_q9 (by decide)
  have hk_q13 : m_kd S46 q13 = 2 := m_kd_pre hp hk_q13 (by decide)
  have hk_q17 : m_kd S46 q17 = 5 := m_kd_pre hp hk_q17 (by decide)
  have hk_q21 : m_kd S46 q21 = 5 := m_kd_pre hp hk_q21 (by decide)
  have hk_q25 : m_kd S46 q25 = 7 := m_kd_pre hp hk_q25 (by decide)
  have hk_q29 : m_kd S46 q29 = 7 := m_kd_pre hp hk_q29 (by decide)
  have hk_q33 : m_kd S46 q33 = 4 := m_kd_pre hp hk_q33 (by decide)
  have hk_q37 : m_kd S46 q37 = 0 := m_kd_pre hp hk_q37 (by decide)
  have hk_q41 : m_kd S46 q41 = 3 := m_kd_pre hp hk_q41 (by decide)
  refine mj_dup dX10_init_132 rfl ?_
  refine mj_callIN (st := [.ref q45, .ref a0]) dX10_init_133 cal_X9_init ln_X10_81 im_X9_init rfl h (Nat.le_of_ble_eq_true rfl) (by decide) ⟨Nat.le_of_ble_eq_true rfl, Nat.le_of_ble_eq_true rfl⟩ (fun S47 h hp => ?_)
  have hk_a0 : m_kd S47 a0 = 9 := m_kd_pre hp hk_a0 (by decide)
  have hk_q1 : m_kd S47 q1 = 100 := m_kd_pre hp hk_q1 (by decide)
  have hk_q5 : m_kd S47 q5 = 6 := m_kd_pre hp hk_q5 (by decide)
  have hk_q9 : m_kd S47 q9 = 1 := m_kd_pre hp hk_q9 (by decide)
  have hk_q13 : m_kd S47 q13 = 2 := m_kd_pre hp hk_q13 (by decide)
  have hk_q17 : m_kd S47 q17 = 5 := m_kd_pre hp hk_q17 (by decide)
  have hk_q21 : m_kd S47 q21 = 5 := m_kd_pre hp hk_q21 (by decide)
  have hk_q25 : m_kd S47 q25 = 7 := m_kd_pre hp hk_q25 (by decide)
  have hk_q29 : m_kd S47 q29 = 7 := m_kd_pre hp hk_q29 (by decide)
  have hk_q33 : m_kd S47 q33 = 4 := m_kd_pre hp hk_q33 (by decide)
  have hk_q37 : m_kd S47 q37 = 0 := m_kd_pre hp hk_q37 (by decide)
  have hk_q41 : m_kd S47 q41 = 3 := m_kd_pre hp hk_q41 (by decide)
  have hk_q45 : m_kd S47 q45 = 8 := m_kd_pre hp hk_q45 (by decide)
  refine mj_putP dX10_init_136 fl_X10_82_9 hk_a0 (Or.inr ⟨rfl, rfl⟩) rfl hk_q45 (fun _ => rfl) (fun _ => rfl) ?_
  obtain ⟨S48, eS48⟩ : ∃ z, z = m_sp S47 a0 12 (some q45) := ⟨_, rfl⟩
  rw [← eS48]
  replace h := h S48 eS48
  have hk_a0 : m_kd S48 a0 = 9 := by rw [eS48]; exact hk_a0
  have hk_q1 : m_kd S48 q1 = 100 := by rw [eS48]; exact hk_q1
  have hk_q5 : m_kd S48 q5 = 6 := by rw [eS48]; exact hk_q5
  have hk_q9 : m_kd S48 q9 = 1 := by rw [eS48]; exact hk_q9
  have hk_q13 : m_kd S48 q13 = 2 := by rw [eS48]; exact hk_q13
  have hk_q17 : m_kd S48 q17 = 5 := by rw [eS48]; exact hk_q17
  have hk_q21 : m_kd S48 q21 = 5 := by rw [eS48]; exact hk_q21
  have hk_q25 : m_kd S48 q25 = 7 := by rw [eS48]; exact hk_q25
  have hk_q29 : m_kd S48 q29 = 7 := by rw [eS48]; exact hk_q29
  have hk_q33 : m_kd S48 q33 = 4 := by rw [eS48]; exact hk_q33
  have hk_q37 : m_kd S48 q37 = 0 := by rw [eS48]; exact hk_q37
  have hk_q41 : m_kd S48 q41 = 3 := by rw [eS48]; exact hk_q41
  have hk_q45 : m_kd S48 q45 = 8 := by rw [eS48]; exact hk_q45
  refine mj_aload_n dX10_init_139 rfl rfl ?_
  refine mj_iconst (v := 5) dX10_init_140 (by decide) ?_
  refine mj_newI (N := 5) dX10_init_141 ar_int (by decide) (by decide) (by decide) (Nat.le_of_ble_eq_true rfl) (Nat.le_of_ble_eq_true rfl) ?_
  obtain ⟨q49, eq49⟩ : ∃ z, z = S48.1.length := ⟨_, rfl⟩
  rw [← eq49]
  obtain ⟨S50, eS50⟩ : ∃ z, z = m_nw S48 100 5 := ⟨_, rfl⟩
  rw [← eS50]
  replace h := h q49 eq49 S50 eS50
  have hp : S48.1 <+: S50.1 := by rw [eS50]; exact List.prefix_append _ _
  have hk_q49 : m_kd S50 q49 = 100 := by rw [eS50, eq49]; exact m_kd_nwl
  have hk_a0 : m_kd S50 a0 = 9 := m_kd_pre hp hk_a0 (by decide)
  have hk_q1 : m_kd S50 q1 = 100 := m_kd_pre hp hk_q1 (by decide)
  have hk_q5 : m_kd S50 q5 = 6 := m_kd_pre hp hk_q5 (by decide)
  have hk_q9 : m_kd S50 q9 = 1 := m_kd_pre hp hk_q9 (by decide)
  have hk_q13 : m_kd S50 q13 = 2 := m_kd_pre hp hk_q13 (by decide)
  have hk_q17 : m_kd S50 q17 = 5 := m_kd_pre hp hk_q17 (by decide)
  have hk_q21 : m_kd S50 q21 = 5 := m_kd_pre hp hk_q21 (by decide)
  have hk_q25 : m_kd S50 q25 = 7 := m_kd_pre hp hk_q25 (by decide)
  have hk_q29 : m_kd S50 q29 = 7 := m_kd_pre hp hk_q29 (by decide)
  have hk_q33 : m_kd S50 q33 = 4 := m_kd_pre hp hk_q33 (by decide)
  have hk_q37 : m_kd S50 q37 = 0 := m_kd_pre hp hk_q37 (by decide)
  have hk_q41 : m_kd S50 q41 = 3 := m_kd_pre hp hk_q41 (by decide)
  have hk_q45 : m_kd S50 q45 = 8 := m_kd_pre hp hk_q45 (by decide)
  refine mj_putP dX10_init_143 fl_X10_86_9 hk_a0 (Or.inr ⟨rfl, rfl⟩) rfl hk_q49 (fun _ => rfl) (fun _ => rfl) ?_
  obtain ⟨S51, eS51⟩ : ∃ z, z = m_sp S50 a0 13 (some q49) := ⟨_, rfl⟩
  rw [← eS51]
  replace h := h S51 eS51
  have hk_a0 : m_kd S51 a0 = 9 := by rw [eS51]; exact hk_a0
  have hk_q1 : m_kd S51 q1 = 100 := by rw [eS51]; exact hk_q1
  have hk_q5 : m_kd S51 q5 = 6 := by rw [eS51]; exact hk_q5
  have hk_q9 : m_kd S51 q9 = 1 := by rw [eS51]; exact hk_q9
  have hk_q13 : m_kd S51 q13 = 2 := by rw [eS51]; exact hk_q13
  have hk_q17 : m_kd S51 q17 = 5 := by rw [eS51]; exact hk_q17
  have hk_q21 : m_kd S51 q21 = 5 := by rw [eS51]; exact hk_q21
  have hk_q25 : m_kd S51 q25 = 7 := by rw [eS51]; exact hk_q25
  have hk_q29 : m_kd S51 q29 = 7 := by rw [eS51]; exact hk_q29
  have hk_q33 : m_kd S51 q33 = 4 := by rw [eS51]; exact hk_q33
  have hk_q37 : m_kd S51 q37 = 0 := by rw [eS51]; exact hk_q37
  have hk_q41 : m_kd S51 q41 = 3 := by rw [eS51]; exact hk_q41
  have hk_q45 : m_kd S51 q45 = 8 := by rw [eS51]; exact hk_q45
  have hk_q49 : m_kd S51 q49 = 100 := by rw [eS51]; exact hk_q49
  refine mj_aload_n dX10_init_146 rfl rfl ?_
  refine mj_iconst (v := 0) dX10_init_147 (by decide) ?_
  refine mj_putI dX10_init_148 fl_X10_89_9 hk_a0 (Or.inl rfl) rfl rfl rfl ?_
  obtain ⟨S52, eS52⟩ : ∃ z, z = m_si S51 a0 14 (0 : Int32) := ⟨_, rfl⟩
  rw [← eS52]
  replace h := h S52 eS52
  have hk_a0 : m_kd S52 a0 = 9 := by rw [eS52]; exact hk_a0
  have hk_q1 : m_kd S52 q1 = 100 := by rw [eS52]; exact hk_q1
  have hk_q5 : m_kd S52 q5 = 6 := by rw [eS52]; exact hk_q5
  have hk_q9 : m_kd S52 q9 = 1 := by rw [eS52]; exact hk_q9
  have hk_q13 : m_kd S52 q13 = 2 := by rw [eS52]; exact hk_q13
  have hk_q17 : m_kd S52 q17 = 5 := by rw [eS52]; exact hk_q17
  have hk_q21 : m_kd S52 q21 = 5 := by rw [eS52]; exact hk_q21
  have hk_q25 : m_kd S52 q25 = 7 := by rw [eS52]; exact hk_q25
  have hk_q29 : m_kd S52 q29 = 7 := by rw [eS52]; exact hk_q29
  have hk_q33 : m_kd S52 q33 = 4 := by rw [eS52]; exact hk_q33
  have hk_q37 : m_kd S52 q37 = 0 := by rw [eS52]; exact hk_q37
  have hk_q41 : m_kd S52 q41 = 3 := by rw [eS52]; exact hk_q41
  have hk_q45 : m_kd S52 q45 = 8 := by rw [eS52]; exact hk_q45
  have hk_q49 : m_kd S52 q49 = 100 := by rw [eS52]; exact hk_q49
  refine mj_aload_n dX10_init_151 rfl rfl ?_
  refine mj_lconst (v := 0) dX10_init_152 (by decide) ?_
  refine mj_putL dX10_init_153 fl_X10_92_9 hk_a0 (Or.inl rfl) rfl ?_
  obtain ⟨S53, eS53⟩ : ∃ z, z = m_sl S52 a0 15 (0 : Int64) := ⟨_, rfl⟩
  rw [← eS53]
  replace h := h S53 eS53
  have hk_a0 : m_kd S53 a0 = 9 := by rw [eS53]; exact hk_a0
  have hk_q1 : m_kd S53 q1 = 100 := by rw [eS53]; exact hk_q1
  have hk_q5 : m_kd S53 q5 = 6 := by rw [eS53]; exact hk_q5
  have hk_q9 : m_kd S53 q9 = 1 := by rw [eS53]; exact hk_q9
  have hk_q13 : m_kd S53 q13 = 2 := by rw [eS53]; exact hk_q13
  have hk_q17 : m_kd S53 q17 = 5 := by rw [eS53]; exact hk_q17
  have hk_q21 : m_kd S53 q21 = 5 := by rw [eS53]; exact hk_q21
  have hk_q25 : m_kd S53 q25 = 7 := by rw [eS53]; exact hk_q25
  have hk_q29 : m_kd S53 q29 = 7 := by rw [eS53]; exact hk_q29
  have hk_q33 : m_kd S53 q33 = 4 := by rw [eS53]; exact hk_q33
  have hk_q37 : m_kd S53 q37 = 0 := by rw [eS53]; exact hk_q37
  have hk_q41 : m_kd S53 q41 = 3 := by rw [eS53]; exact hk_q41
  have hk_q45 : m_kd S53 q45 = 8 := by rw [eS53]; exact hk_q45
  have hk_q49 : m_kd S53 q49 = 100 := by rw [eS53]; exact hk_q49
  refine mj_aload_n dX10_init_156 rfl rfl ?_
  refine mj_iconst (v := 0) dX10_init_157 (by decide) ?_
  refine mj_putI dX10_init_158 fl_X10_96_9 hk_a0 (Or.inl rfl) rfl rfl rfl ?_
  obtain ⟨S54, eS54⟩ : ∃ z, z = m_si S53 a0 16 (0 : Int32) := ⟨_, rfl⟩
  rw [← eS54]
  replace h := h S54 eS54
  have hk_a0 : m_kd S54 a0 = 9 := by rw [eS54]; exact hk_a0
  have hk_q1 : m_kd S54 q1 = 100 := by rw [eS54]; exact hk_q1
  have hk_q5 : m_kd S54 q5 = 6 := by rw [eS54]; exact hk_q5
  have hk_q9 : m_kd S54 q9 = 1 := by rw [eS54]; exact hk_q9
  have hk_q13 : m_kd S54 q13 = 2 := by rw [eS54]; exact hk_q13
  have hk_q17 : m_kd S54 q17 = 5 := by rw [eS54]; exact hk_q17
  have hk_q21 : m_kd S54 q21 = 5 := by rw [eS54]; exact hk_q21
  have hk_q25 : m_kd S54 q25 = 7 := by rw [eS54]; exact hk_q25
  have hk_q29 : m_kd S54 q29 = 7 := by rw [eS54]; exact hk_q29
  have hk_q33 : m_kd S54 q33 = 4 := by rw [eS54]; exact hk_q33
  have hk_q37 : m_kd S54 q37 = 0 := by rw [eS54]; exact hk_q37
  have hk_q41 : m_kd S54 q41 = 3 := by rw [eS54]; exact hk_q41
  have hk_q45 : m_kd S54 q45 = 8 := by rw [eS54]; exact hk_q45
  have hk_q49 : m_kd S54 q49 = 100 := by rw [eS54]; exact hk_q49
  refine mj_aload_n dX10_init_161 rfl rfl ?_
  refine mj_iconst (v := 0) dX10_init_162 (by decide) ?_
  refine mj_putI dX10_init_163 fl_X10_99_9 hk_a0 (Or.inl rfl) rfl rfl rfl ?_
  obtain ⟨S55, eS55⟩ : ∃ z, z = m_si S54 a0 17 (0 : Int32) := ⟨_, rfl⟩
  rw [← eS55]
  replace h := h S55 eS55
  have hk_a0 : m_kd S55 a0 = 9 := by rw [eS55]; exact hk_a0
  have hk_q1 : m_kd S55 q1 = 100 := by rw [eS55]; exact hk_q1
  have hk_q5 : m_kd S55 q5 = 6 := by rw [eS55]; exact hk_q5
  have hk_q9 : m_kd S55 q9 = 1 := by rw [eS55]; exact hk_q9
  have hk_q13 : m_kd S55 q13 = 2 := by rw [eS55]; exact hk_q13
  have hk_q17 : m_kd S55 q17 = 5 := by rw [eS55]; exact hk_q17
  have hk_q21 : m_kd S55 q21 = 5 := by rw [eS55]; exact hk_q21
  have hk_q25 : m_kd S55 q25 = 7 := by rw [eS55]; exact hk_q25
  have hk_q29 : m_kd S55 q29 = 7 := by rw [eS55]; exact hk_q29
  have hk_q33 : m_kd S55 q33 = 4 := by rw [eS55]; exact hk_q33
  have hk_q37 : m_kd S55 q37 = 0 := by rw [eS55]; exact hk_q37
  have hk_q41 : m_kd S55 q41 = 3 := by rw [eS55]; exact hk_q41
  have hk_q45 : m_kd S55 q45 = 8 := by rw [eS55]; exact hk_q45
  have hk_q49 : m_kd S55 q49 = 100 := by rw [eS55]; exact hk_q49
  refine mj_aload_n dX10_init_166 rfl rfl ?_
  refine mj_iconst (v := 0) dX10_init_167 (by decide) ?_
  refine mj_putI dX10_init_168 fl_X10_102_9 hk_a0 (Or.inl rfl) rfl rfl rfl ?_
  obtain ⟨S56, eS56⟩ : ∃ z, z = m_si S55 a0 18 (0 : Int32) := ⟨_, rfl⟩
  rw [← eS56]
  replace h := h S56 eS56
  have hk_a0 : m_kd S56 a0 = 9 := by rw [eS56]; exact hk_a0
  have hk_q1 : m_kd S56 q1 = 100 := by rw [eS56]; exact hk_q1
  have hk_q5 : m_kd S56 q5 = 6 := by rw [eS56]; exact hk_q5
  have hk_q9 : m_kd S56 q9 = 1 := by rw [eS56]; exact hk_q9
  have hk_q13 : m_kd S56 q13 = 2 := by rw [eS56]; exact hk_q13
  have hk_q17 : m_kd S56 q17 = 5 := by rw [eS56]; exact hk_q17
  have hk_q21 : m_kd S56 q21 = 5 := by rw [eS56]; exact hk_q21
  have hk_q25 : m_kd S56 q25 = 7 := by rw [eS56]; exact hk_q25
  have hk_q29 : m_kd S56 q29 = 7 := by rw [eS56]; exact hk_q29
  have hk_q33 : m_kd S56 q33 = 4 := by rw [eS56]; exact hk_q33
  have hk_q37 : m_kd S56 q37 = 0 := by rw [eS56]; exact hk_q37
  have hk_q41 : m_kd S56 q41 = 3 := by rw [eS56]; exact hk_q41
  have hk_q45 : m_kd S56 q45 = 8 := by rw [eS56]; exact hk_q45
  have hk_q49 : m_kd S56 q49 = 100 := by rw [eS56]; exact hk_q49
  exact mj_retv dX10_init_171 rfl ⟨Nat.le_of_ble_eq_true rfl, Nat.le_of_ble_eq_true rfl⟩ h
abbrev V_X10_feed_0 (l : Launch) (G : mj_G) (a0 : Nat) (x1 : Int32) (x2 : Int32) (x3 : Int32) (x4 : Int32) (x5 : Int32) (S : mj_S) (Q : mj_S → Int32 → Prop) : Prop := mj_V l G (mj_room 2 0 0) RX10 cX10_feed 7 (some .int) false 0 [some (.ref a0), some (.int x1), some (.int x2), some (.int x3), some (.int x4), some (.int x5), none] [] S 0 0 (mj_std G (some .int) (mj_room 2 0 0) (mj_qi Q))
theorem e_X10_feed {l : Launch} {G : mj_G} {a0 : Nat} {x1 : Int32} {x2 : Int32} {x3 : Int32} {x4 : Int32} {x5 : Int32} {S : mj_S} {Q : mj_S → Int32 → Prop} (h : V_X10_feed_0 l G a0 x1 x2 x3 x4 x5 S Q) : M_X10_feed l G a0 x1 x2 x3 x4 x5 S Q := mj_enter (r := 1) (ini := false) (by decide +kernel) (fun h => by cases h) (fun _ => Nat.le_of_ble_eq_true rfl) rfl h
set_option maxRecDepth 20000 in
set_option maxHeartbeats 1000000 in
theorem b_X10_feed_0 {l : Launch} {G : mj_G} {a0 : Nat} {x1 : Int32} {x2 : Int32} {x3 : Int32} {x4 : Int32} {x5 : Int32} {S : mj_S} {Q : mj_S → Int32 → Prop} (hk_a0 : m_kd S a0 = 9) (h : M_X10_bytesIn l G x1 S (fun S1 r2 => M_X10_bytesIn l G x2 S1 (fun S3 r4 => M_X10_bytesIn l G x3 S3 (fun S5 r6 => M_X10_bytesIn l G x4 S5 (fun S7 r8 => M_X10_bytesIn l G x5 S7 (fun S9 r10 => ∀ v11 : Int32, v11 = ((((r2 + r4) + r6) + r8) + r10) → ((((m_gi S9 a0 1) + v11) ≤ (240 : Int32)) → M_X10_put l G a0 x1 S9 (fun S12 => M_X10_put l G a0 x2 S12 (fun S13 => M_X10_put l G a0 x3 S13 (fun S14 => M_X10_put l G a0 x4 S14 (fun S15 => M_X10_put l G a0 x5 S15 (fun S16 => Q S16 (m_gi S16 a0 1))))))) ∧ ((¬ (((m_gi S9 a0 1) + v11) ≤ (240 : Int32))) → Q S9 (-1 : Int32)))))))) : V_X10_feed_0 l G a0 x1 x2 x3 x4 x5 S Q := by
  refine mj_iload_n dX10_feed_0 rfl rfl ?_
  refine mj_callSi (as := [.int x1]) (st := []) dX10_feed_1 cal_X10_bytesIn lk_X10_105 sm_X10_bytesIn h rfl (Nat.le_of_ble_eq_true rfl) (by decide) ⟨Nat.le_of_ble_eq_true rfl, Nat.le_of_ble_eq_true rfl⟩ (fun S1 r2 h hn_r2 hp => ?_)
  have hk_a0 : m_kd S1 a0 = 9 := m_kd_pre hp hk_a0 (by decide)
  refine mj_iload_n dX10_feed_4 rfl rfl ?_
  refine mj_callSi (as := [.int x2]) (st := [.int r2]) dX10_feed_5 cal_X10_bytesIn lk_X10_105 sm_X10_bytesIn h rfl (Nat.le_of_ble_eq_true rfl) (by decide) ⟨Nat.le_of_ble_eq_true rfl, Nat.le_of_ble_eq_true rfl⟩ (fun S3 r4 h hn_r4 hp => ?_)
  have hk_a0 : m_kd S3 a0 = 9 := m_kd_pre hp hk_a0 (by decide)
  refine mj_iadd dX10_feed_8 ?_
  refine mj_iload_n dX10_feed_9 rfl rfl ?_
  refine mj_callSi (as := [.int x3]) (st := [.int (r2 + r4)]) dX10_feed_10 cal_X10_bytesIn lk_X10_105 sm_X10_bytesIn h rfl (Nat.le_of_ble_eq_true rfl) (by decide) ⟨Nat.le_of_ble_eq_true rfl, Nat.le_of_ble_eq_true rfl⟩ (fun S5 r6 h hn_r6 hp => ?_)
  have hk_a0 : m_kd S5 a0 = 9 := m_kd_pre hp hk_a0 (by decide)
  refine mj_iadd dX10_feed_13 ?_
  refine mj_iload dX10_feed_14 rfl ?_
  refine mj_callSi (as := [.int x4]) (st := [.int ((r2 + r4) + r6)]) dX10_feed_16 cal_X10_bytesIn lk_X10_105 sm_X10_bytesIn h rfl (Nat.le_of_ble_eq_true rfl) (by decide) ⟨Nat.le_of_ble_eq_true rfl, Nat.le_of_ble_eq_true rfl⟩ (fun S7 r8 h hn_r8 hp => ?_)
  have hk_a0 : m_kd S7 a0 = 9 := m_kd_pre hp hk_a0 (by decide)
  refine mj_iadd dX10_feed_19 ?_
  refine mj_iload dX10_feed_20 rfl ?_
  refine mj_callSi (as := [.int x5]) (st := [.int (((r2 + r4) + r6) + r8)]) dX10_feed_22 cal_X10_bytesIn lk_X10_105 sm_X10_bytesIn h rfl (Nat.le_of_ble_eq_true rfl) (by decide) ⟨Nat.le_of_ble_eq_true rfl, Nat.le_of_ble_eq_true rfl⟩ (fun S9 r10 h hn_r10 hp => ?_)
  have hk_a0 : m_kd S9 a0 = 9 := m_kd_pre hp hk_a0 (by decide)
  refine mj_iadd dX10_feed_25 ?_
  refine mj_nmi (fun v11 ev11 => ?_)
  replace h := h v11 ev11
  refine mj_istore dX10_feed_26 (by decide) rfl rfl ?_
  refine mj_aload_n dX10_feed_28 rfl rfl ?_
  refine mj_getI dX10_feed_29 fl_X10_13_9 hk_a0 rfl ?_
  refine mj_iload dX10_feed_32 rfl ?_
  refine mj_iadd dX10_feed_34 ?_
  refine mj_sipush (v := 240) dX10_feed_35 (by decide) ?_
  refine mj_icmp_le (tgt := 43) dX10_feed_38 (by decide) ⟨fun hc => ?_, fun hc => ?_⟩
  · replace h := h.1 hc
    refine mj_aload_n dX10_feed_43 rfl rfl ?_
    refine mj_iload_n dX10_feed_44 rfl rfl ?_
    refine mj_callVv (as := [.int x1]) (st := []) dX10_feed_45 cal_X10_put lk_X10_109 im_X10_put se_X10_put (ci := 9) rfl (by decide) hk_a0 h rfl (Nat.le_of_ble_eq_true rfl) (by decide) ⟨Nat.le_of_ble_eq_true rfl, Nat.le_of_ble_eq_true rfl⟩ (fun S12 h hp => ?_)
    have hk_a0 : m_kd S12 a0 = 9 := m_kd_pre hp hk_a0 (by decide)
    refine mj_aload_n dX10_feed_48 rfl rfl ?_
    refine mj_iload_n dX10_feed_49 rfl rfl ?_
    refine mj_callVv (as := [.int x2]) (st := []) dX10_feed_50 cal_X10_put lk_X10_109 im_X10_put se_X10_put (ci := 9) rfl (by decide) hk_a0 h rfl (Nat.le_of_ble_eq_true rfl) (by decide) ⟨Nat.le_of_ble_eq_true rfl, Nat.le_of_ble_eq_true rfl⟩ (fun S13 h hp => ?_)
    have hk_a0 : m_kd S13 a0 = 9 := m_kd_pre hp hk_a0 (by decide)
    refine mj_aload_n dX10_feed_53 rfl rfl ?_
    refine mj_iload_n dX10_feed_54 rfl rfl ?_
    refine mj_callVv (as := [.int x3]) (st := []) dX10_feed_55 cal_X10_put lk_X10_109 im_X10_put se_X10_put (ci := 9) rfl (by decide) hk_a0 h rfl (Nat.le_of_ble_eq_true rfl) (by decide) ⟨Nat.le_of_ble_eq_true rfl, Nat.le_of_ble_eq_true rfl⟩ (fun S14 h hp => ?_)
    have hk_a0 : m_kd S14 a0 = 9 := m_kd_pre hp hk_a0 (by decide)
    refine mj_aload_n dX10_feed_58 rfl rfl ?_
    refine mj_iload dX10_feed_59 rfl ?_
    refine mj_callVv (as := [.int x4]) (st := []) dX10_feed_61 cal_X10_put lk_X10_109 im_X10_put se_X10_put (ci := 9) rfl (by decide) hk_a0 h rfl (Nat.le_of_ble_eq_true rfl) (by decide) ⟨Nat.le_of_ble_eq_true rfl, Nat.le_of_ble_eq_true rfl⟩ (fun S15 h hp => ?_)
    have hk_a0 : m_kd S15 a0 = 9 := m_kd_pre hp hk_a0 (by decide)
    refine mj_aload_n dX10_feed_64 rfl rfl ?_
    refine mj_iload dX10_feed_65 rfl ?_
    refine mj_callVv (as := [.int x5]) (st := []) dX10_feed_67 cal_X10_put lk_X10_109 im_X10_put se_X10_put (ci := 9) rfl (by decide) hk_a0 h rfl (Nat.le_of_ble_eq_true rfl) (by decide) ⟨Nat.le_of_ble_eq_true rfl, Nat.le_of_ble_eq_true rfl⟩ (fun S16 h hp => ?_)
    have hk_a0 : m_kd S16 a0 = 9 := m_kd_pre hp hk_a0 (by decide)
    refine mj_aload_n dX10_feed_70 rfl rfl ?_
    refine mj_getI dX10_feed_71 fl_X10_13_9 hk_a0 rfl ?_
    exact mj_reti dX10_feed_74 rfl ⟨Nat.le_of_ble_eq_true rfl, Nat.le_of_ble_eq_true rfl⟩ h
  · replace h := h.2 hc
    refine mj_iconst (v := (-1)) dX10_feed_41 (by decide) ?_
    exact mj_reti dX10_feed_42 rfl ⟨Nat.le_of_ble_eq_true rfl, Nat.le_of_ble_eq_true rfl⟩ h
abbrev V_X10_bytesIn_0 (l : Launch) (G : mj_G) (x0 : Int32) (S : mj_S) (Q : mj_S → Int32 → Prop) : Prop := mj_V l G (mj_room 1 0 0) RX10 cX10_bytesIn 3 (some .int) false 0 [some (.int x0), none, none] [] S 0 0 (mj_std G (some .int) (mj_room 1 0 0) (mj_qi Q))
abbrev V_X10_bytesIn_5 (l : Launch) (G : mj_G) (x0 : Int32) (x1 : Int32) (x2 : Int32) (S : mj_S) (Q : mj_S → Int32 → Prop) : Prop := mj_V l G (mj_room 1 0 0) RX10 cX10_bytesIn 3 (some .int) false 5 [some (.int x0), some (.int x1), some (.int x2)] [] S 0 0 (mj_std G (some .int) (mj_room 1 0 0) (mj_qi Q))
theorem e_X10_bytesIn {l : Launch} {G : mj_G} {x0 : Int32} {S : mj_S} {Q : mj_S → Int32 → Prop} (h : V_X10_bytesIn_0 l G x0 S Q) : M_X10_bytesIn l G x0 S Q := mj_enter (r := 2) (ini := false) (by decide +kernel) (fun h => by cases h) (fun _ => Nat.le_of_ble_eq_true rfl) rfl h
set_option maxRecDepth 20000 in
set_option maxHeartbeats 1000000 in
theorem b_X10_bytesIn_0 {l : Launch} {G : mj_G} {x0 : Int32} {S : mj_S} {Q : mj_S → Int32 → Prop} (h : V_X10_bytesIn_5 l G x0 (0 : Int32) (24 : Int32) S Q) : V_X10_bytesIn_0 l G x0 S Q := by
  refine mj_iconst (v := 0) dX10_bytesIn_0 (by decide) ?_
  refine mj_istore_n dX10_bytesIn_1 rfl (by decide) rfl rfl ?_
  refine mj_bipush (v := 24) dX10_bytesIn_2 (by decide) ?_
  refine mj_istore_n dX10_bytesIn_4 rfl (by decide) rfl rfl ?_
  exact h
set_option maxRecDepth 20000 in
set_option maxHeartbeats 1000000 in
theorem b_X10_bytesIn_5 {l : Launch} {G : mj_G} {x0 : Int32} {x1 : Int32} {x2 : Int32} {S : mj_S} {Q : mj_S → Int32 → Prop} (h : ((x2 < 0) → Q S x1) ∧ ((¬ (x2 < 0)) → ((((((x0).toUInt32 >>> ((x2).toUInt32 &&& Int32.toUInt32 31)).toInt32) &&& (255 : Int32)) = 0) → ∀ v1 : Int32, v1 = x2 + (-8 : Int32) → V_X10_bytesIn_5 l G x0 x1 v1 S Q) ∧ ((¬ (((((x0).toUInt32 >>> ((x2).toUInt32 &&& Int32.toUInt32 31)).toInt32) &&& (255 : Int32)) = 0)) → ∀ v2 : Int32, v2 = x1 + (1 : Int32) → ∀ v3 : Int32, v3 = x2 + (-8 : Int32) → V_X10_bytesIn_5 l G x0 v2 v3 S Q))) : V_X10_bytesIn_5 l G x0 x1 x2 S Q := by
  refine mj_iload_n dX10_bytesIn_5 rfl rfl ?_
  refine mj_if_lt (tgt := 28) dX10_bytesIn_6 (by decide) ⟨fun hc => ?_, fun hc => ?_⟩
  · replace h := h.1 hc
    refine mj_iload_n dX10_bytesIn_28 rfl rfl ?_
    exact mj_reti dX10_bytesIn_29 rfl ⟨Nat.le_of_ble_eq_true rfl, Nat.le_of_ble_eq_true rfl⟩ h
  · replace h := h.2 hc
    refine mj_iload_n dX10_bytesIn_9 rfl rfl ?_
    refine mj_iload_n dX10_bytesIn_10 rfl rfl ?_
    refine mj_iushr dX10_bytesIn_11 ?_
    refine mj_sipush (v := 255) dX10_bytesIn_12 (by decide) ?_
    refine mj_iand dX10_bytesIn_15 ?_
    refine mj_if_eq (tgt := 22) dX10_bytesIn_16 (by decide) ⟨fun hc => ?_, fun hc => ?_⟩
    · replace h := h.1 hc
      obtain ⟨v1, ev1⟩ : ∃ z : Int32, z = x2 + (-8 : Int32) := ⟨_, rfl⟩
      refine mj_iinc (v := v1) dX10_bytesIn_22 rfl (by rw [ev1]; rfl) (by decide) rfl rfl ?_
      replace h := h v1 ev1
      refine mj_goto (tgt := 5) dX10_bytesIn_25 (by decide) ?_
      exact h
    · replace h := h.2 hc
      obtain ⟨v2, ev2⟩ : ∃ z : Int32, z = x1 + (1 : Int32) := ⟨_, rfl⟩
      refine mj_iinc (v := v2) dX10_bytesIn_19 rfl (by rw [ev2]; rfl) (by decide) rfl rfl ?_
      replace h := h v2 ev2
      obtain ⟨v3, ev3⟩ : ∃ z : Int32, z = x2 + (-8 : Int32) := ⟨_, rfl⟩
      refine mj_iinc (v := v3) dX10_bytesIn_22 rfl (by rw [ev3]; rfl) (by decide) rfl rfl ?_
      replace h := h v3 ev3
      refine mj_goto (tgt := 5) dX10_bytesIn_25 (by decide) ?_
      exact h
abbrev V_X10_put_0 (l : Launch) (G : mj_G) (a0 : Nat) (x1 : Int32) (S : mj_S) (Q : mj_S → Prop) : Prop := mj_V l G (mj_room 1 0 0) RX10 cX10_put 4 none false 0 [some (.ref a0), some (.int x1), none, none] [] S 0 0 (mj_std G none (mj_room 1 0 0) (mj_qv Q))
abbrev V_X10_put_3 (l : Launch) (G : mj_G) (a0 : Nat) (x1 : Int32) (x2 : Int32) (S : mj_S) (Q : mj_S → Prop) : Prop := mj_V l G (mj_room 1 0 0) RX10 cX10_put 4 none false 3 [some (.ref a0), some (.int x1), some (.int x2), none] [] S 0 0 (mj_std G none (mj_room 1 0 0) (mj_qv Q))
theorem e_X10_put {l : Launch} {G : mj_G} {a0 : Nat} {x1 : Int32} {S : mj_S} {Q : mj_S → Prop} (h : V_X10_put_0 l G a0 x1 S Q) : M_X10_put l G a0 x1 S Q := mj_enter (r := 2) (ini := false) (by decide +kernel) (fun h => by cases h) (fun _ => Nat.le_of_ble_eq_true rfl) rfl h
set_option maxRecDepth 20000 in
set_option maxHeartbeats 1000000 in
theorem b_X10_put_0 {l : Launch} {G : mj_G} {a0 : Nat} {x1 : Int32} {S : mj_S} {Q : mj_S → Prop} (hk_a0 : m_kd S a0 = 9) (h : V_X10_put_3 l G a0 x1 (24 : Int32) S Q) : V_X10_put_0 l G a0 x1 S Q := by
  refine mj_bipush (v := 24) dX10_put_0 (by decide) ?_
  refine mj_istore_n dX10_put_2 rfl (by decide) rfl rfl ?_
  exact h
set_option maxRecDepth 20000 in
set_option maxHeartbeats 1000000 in
theorem b_X10_put_3 {l : Launch} {G : mj_G} {a0 : Nat} {x1 : Int32} {x2 : Int32} {S : mj_S} {Q : mj_S → Prop} (hk_a0 : m_kd S a0 = 9) (h : ((x2 < 0) → Q S) ∧ ((¬ (x2 < 0)) → ∀ v1 : Int32, v1 = ((((x1).toUInt32 >>> ((x2).toUInt32 &&& Int32.toUInt32 31)).toInt32) &&& (255 : Int32)) → ((v1 = 0) → ∀ v2 : Int32, v2 = x2 + (-8 : Int32) → V_X10_put_3 l G a0 x1 v2 S Q) ∧ ((¬ (v1 = 0)) → (((240 : Int32) ≤ (m_gi S a0 1)) → ∀ v3 : Int32, v3 = x2 + (-8 : Int32) → V_X10_put_3 l G a0 x1 v3 S Q) ∧ ((¬ ((240 : Int32) ≤ (m_gi S a0 1))) → ∃ b4, m_gp S a0 0 = some b4 ∧ (vp_in (m_gi S a0 1) (m_ln S b4) ∧ (∀ S5 : mj_S, S5 = m_si S b4 ((m_gi S a0 1)).toNatClampNeg v1 → ∀ S6 : mj_S, S6 = m_si S5 a0 1 ((m_gi S5 a0 1) + (1 : Int32)) → ∀ v7 : Int32, v7 = x2 + (-8 : Int32) → V_X10_put_3 l G a0 x1 v7 S6 Q)))))) : V_X10_put_3 l G a0 x1 x2 S Q := by
  refine mj_iload_n dX10_put_3 rfl rfl ?_
  refine mj_if_lt (tgt := 55) dX10_put_4 (by decide) ⟨fun hc => ?_, fun hc => ?_⟩
  · replace h := h.1 hc
    exact mj_retv dX10_put_55 rfl ⟨Nat.le_of_ble_eq_true rfl, Nat.le_of_ble_eq_true rfl⟩ h
  · replace h := h.2 hc
    refine mj_iload_n dX10_put_7 rfl rfl ?_
    refine mj_iload_n dX10_put_8 rfl rfl ?_
    refine mj_iushr dX10_put_9 ?_
    refine mj_sipush (v := 255) dX10_put_10 (by decide) ?_
    refine mj_iand dX10_put_13 ?_
    refine mj_nmi (fun v1 ev1 => ?_)
    replace h := h v1 ev1
    refine mj_istore_n dX10_put_14 rfl (by decide) rfl rfl ?_
    refine mj_iload_n dX10_put_15 rfl rfl ?_
    refine mj_if_eq (tgt := 49) dX10_put_16 (by decide) ⟨fun hc => ?_, fun hc => ?_⟩
    · replace h := h.1 hc
      obtain ⟨v2, ev2⟩ : ∃ z : Int32, z = x2 + (-8 : Int32) := ⟨_, rfl⟩
      refine mj_iinc (v := v2) dX10_put_49 rfl (by rw [ev2]; rfl) (by decide) rfl rfl ?_
      replace h := h v2 ev2
      refine mj_goto (tgt := 3) dX10_put_52 (by decide) ?_
      exact mj_lessm [true, true, true, false] rfl h
    · replace h := h.2 hc
      refine mj_aload_n dX10_put_19 rfl rfl ?_
      refine mj_getI dX10_put_20 fl_X10_13_9 hk_a0 rfl ?_
      refine mj_sipush (v := 240) dX10_put_23 (by decide) ?_
      refine mj_icmp_ge (tgt := 49) dX10_put_26 (by decide) ⟨fun hc => ?_, fun hc => ?_⟩
      · replace h := h.1 hc
        obtain ⟨v3, ev3⟩ : ∃ z : Int32, z = x2 + (-8 : Int32) := ⟨_, rfl⟩
        refine mj_iinc (v := v3) dX10_put_49 rfl (by rw [ev3]; rfl) (by decide) rfl rfl ?_
        replace h := h v3 ev3
        refine mj_goto (tgt := 3) dX10_put_52 (by decide) ?_
        exact mj_lessm [true, true, true, false] rfl h
      · replace h := h.2 hc
        refine mj_aload_n dX10_put_29 rfl rfl ?_
        obtain ⟨b4, eb4, h⟩ := h
        refine mj_getP dX10_put_30 fl_X10_9_9 hk_a0 rfl ⟨b4, eb4, fun hk_b4 => ?_⟩
        refine mj_aload_n dX10_put_33 rfl rfl ?_
        refine mj_getI dX10_put_34 fl_X10_13_9 hk_a0 rfl ?_
        refine mj_iload_n dX10_put_37 rfl rfl ?_
        refine mj_iast dX10_put_38 hk_b4 ⟨h.1, ?_⟩
        replace h := h.2
        obtain ⟨S5, eS5⟩ : ∃ z, z = m_si S b4 ((m_gi S a0 1)).toNatClampNeg v1 := ⟨_, rfl⟩
        rw [← eS5]
        replace h := h S5 eS5
        have hk_a0 : m_kd S5 a0 = 9 := by rw [eS5]; exact hk_a0
        have hk_b4 : m_kd S5 b4 = 100 := by rw [eS5]; exact hk_b4
        refine mj_aload_n dX10_put_39 rfl rfl ?_
        refine mj_dup dX10_put_40 rfl ?_
        refine mj_getI dX10_put_41 fl_X10_13_9 hk_a0 rfl ?_
        refine mj_iconst (v := 1) dX10_put_44 (by decide) ?_
        refine mj_iadd dX10_put_45 ?_
        refine mj_putI dX10_put_46 fl_X10_13_9 hk_a0 (Or.inl rfl) rfl rfl rfl ?_
        obtain ⟨S6, eS6⟩ : ∃ z, z = m_si S5 a0 1 ((m_gi S5 a0 1) + (1 : Int32)) := ⟨_, rfl⟩
        rw [← eS6]
        replace h := h S6 eS6
        have hk_a0 : m_kd S6 a0 = 9 := by rw [eS6]; exact hk_a0
        have hk_b4 : m_kd S6 b4 = 100 := by rw [eS6]; exact hk_b4
        obtain ⟨v7, ev7⟩ : ∃ z : Int32, z = x2 + (-8 : Int32) := ⟨_, rfl⟩
        refine mj_iinc (v := v7) dX10_put_49 rfl (by rw [ev7]; rfl) (by decide) rfl rfl ?_
        replace h := h v7 ev7
        refine mj_goto (tgt := 3) dX10_put_52 (by decide) ?_
        exact mj_lessm [true, true, true, false] rfl h
abbrev V_X10_end_0 (l : Launch) (G : mj_G) (a0 : Nat) (x1 : Int32) (S : mj_S) (Q : mj_S → Int32 → Prop) : Prop := mj_V l G (mj_room 1 0 0) RX10 cX10_end 2 (some .boolean) false 0 [some (.ref a0), some (.int x1)] [] S 0 0 (mj_std G (some .boolean) (mj_room 1 0 0) (mj_qi Q))
theorem e_X10_end {l : Launch} {G : mj_G} {a0 : Nat} {x1 : Int32} {S : mj_S} {Q : mj_S → Int32 → Prop} (h : V_X10_end_0 l G a0 x1 S Q) : M_X10_end l G a0 x1 S Q := mj_enter (r := 0) (ini := false) (by decide +kernel) (fun h => by cases h) (fun _ => Nat.le_of_ble_eq_true rfl) rfl h
set_option maxRecDepth 20000 in
set_option maxHeartbeats 1000000 in
theorem b_X10_end_0 {l : Launch} {G : mj_G} {a0 : Nat} {x1 : Int32} {S : mj_S} {Q : mj_S → Int32 → Prop} (hk_a0 : m_kd S a0 = 9) (h : ((x1 < 0) → Q S (0 : Int32)) ∧ ((¬ (x1 < 0)) → ((x1 ≤ (m_gi S a0 1)) → ∀ S1 : mj_S, S1 = m_si S a0 1 x1 → Q S1 (1 : Int32)) ∧ ((¬ (x1 ≤ (m_gi S a0 1))) → Q S (0 : Int32)))) : V_X10_end_0 l G a0 x1 S Q := by
  refine mj_iload_n dX10_end_0 rfl rfl ?_
  refine mj_if_lt (tgt := 12) dX10_end_1 (by decide) ⟨fun hc => ?_, fun hc => ?_⟩
  · replace h := h.1 hc
    refine mj_iconst (v := 0) dX10_end_12 (by decide) ?_
    exact mj_retz dX10_end_13 rfl (rfl) ⟨Nat.le_of_ble_eq_true rfl, Nat.le_of_ble_eq_true rfl⟩ h
  · replace h := h.2 hc
    refine mj_iload_n dX10_end_4 rfl rfl ?_
    refine mj_aload_n dX10_end_5 rfl rfl ?_
    refine mj_getI dX10_end_6 fl_X10_13_9 hk_a0 rfl ?_
    refine mj_icmp_le (tgt := 14) dX10_end_9 (by decide) ⟨fun hc => ?_, fun hc => ?_⟩
    · replace h := h.1 hc
      refine mj_aload_n dX10_end_14 rfl rfl ?_
      refine mj_iload_n dX10_end_15 rfl rfl ?_
      refine mj_putI dX10_end_16 fl_X10_13_9 hk_a0 (Or.inl rfl) rfl rfl rfl ?_
      obtain ⟨S1, eS1⟩ : ∃ z, z = m_si S a0 1 x1 := ⟨_, rfl⟩
      rw [← eS1]
      replace h := h S1 eS1
      have hk_a0 : m_kd S1 a0 = 9 := by rw [eS1]; exact hk_a0
      refine mj_iconst (v := 1) dX10_end_19 (by decide) ?_
      exact mj_retz dX10_end_20 rfl (rfl) ⟨Nat.le_of_ble_eq_true rfl, Nat.le_of_ble_eq_true rfl⟩ h
    · replace h := h.2 hc
      refine mj_iconst (v := 0) dX10_end_12 (by decide) ?_
      exact mj_retz dX10_end_13 rfl (rfl) ⟨Nat.le_of_ble_eq_true rfl, Nat.le_of_ble_eq_true rfl⟩ h
abbrev V_X10_fault_0 (l : Launch) (G : mj_G) (a0 : Nat) (x1 : Int32) (S : mj_S) (Q : mj_S → Int32 → Prop) : Prop := mj_V l G (mj_room 84 0 0) RX10 cX10_fault 2 (some .int) false 0 [some (.ref a0), some (.int x1)] [] S 0 0 (mj_std G (some .int) (mj_room 84 0 0) (mj_qi Q))
theorem e_X10_fault {l : Launch} {G : mj_G} {a0 : Nat} {x1 : Int32} {S : mj_S} {Q : mj_S → Int32 → Prop} (h : V_X10_fault_0 l G a0 x1 S Q) : M_X10_fault l G a0 x1 S Q := mj_enter (r := 0) (ini := false) (by decide +kernel) (fun h => by cases h) (fun _ => Nat.le_of_ble_eq_true rfl) rfl h
set_option maxRecDepth 20000 in
set_option maxHeartbeats 1000000 in
theorem b_X10_fault_0 {l : Launch} {G : mj_G} {a0 : Nat} {x1 : Int32} {S : mj_S} {Q : mj_S → Int32 → Prop} (hk_a0 : m_kd S a0 = 9) (h : ((¬ x1 = 0) → ((¬ x1 = (1 : Int32)) → Q S (-2 : Int32)) ∧ ((x1 = (1 : Int32)) → ∃ b1, m_gp S a0 3 = some b1 ∧ (∃ b2, m_gp S a0 0 = some b2 ∧ (M_X1_read l G b1 b2 (m_gi S a0 1) S (fun S3 r4 => Q S3 r4))))) ∧ ((x1 = 0) → ∃ b5, m_gp S a0 2 = some b5 ∧ (∃ b6, m_gp S a0 0 = some b6 ∧ (∃ b7, m_gp S a0 6 = some b7 ∧ (M_X7_read l G b5 b6 (m_gi S a0 1) b7 S (fun S8 r9 => Q S8 r9)))))) : V_X10_fault_0 l G a0 x1 S Q := by
  refine mj_iload_n dX10_fault_0 rfl rfl ?_
  refine mj_if_ne (tgt := 24) dX10_fault_1 (by decide) ⟨fun hc => ?_, fun hc => ?_⟩
  · replace h := h.1 hc
    refine mj_iload_n dX10_fault_24 rfl rfl ?_
    refine mj_iconst (v := 1) dX10_fault_25 (by decide) ?_
    refine mj_icmp_ne (tgt := 45) dX10_fault_26 (by decide) ⟨fun hc => ?_, fun hc => ?_⟩
    · replace h := h.1 hc
      refine mj_bipush (v := (-2)) dX10_fault_45 (by decide) ?_
      exact mj_reti dX10_fault_47 rfl ⟨Nat.le_of_ble_eq_true rfl, Nat.le_of_ble_eq_true rfl⟩ h
    · replace h := h.2 hc
      refine mj_aload_n dX10_fault_29 rfl rfl ?_
      obtain ⟨b1, eb1, h⟩ := h
      refine mj_getP dX10_fault_30 fl_X10_27_9 hk_a0 rfl ⟨b1, eb1, fun hk_b1 => ?_⟩
      refine mj_aload_n dX10_fault_33 rfl rfl ?_
      obtain ⟨b2, eb2, h⟩ := h
      refine mj_getP dX10_fault_34 fl_X10_9_9 hk_a0 rfl ⟨b2, eb2, fun hk_b2 => ?_⟩
      refine mj_aload_n dX10_fault_37 rfl rfl ?_
      refine mj_getI dX10_fault_38 fl_X10_13_9 hk_a0 rfl ?_
      refine mj_callVi (as := [.ref b2, .int (m_gi S a0 1)]) (st := []) dX10_fault_41 cal_X1_read lk_X10_117 im_X1_read se_X1_read (ci := 1) rfl (by decide) hk_b1 h rfl (Nat.le_of_ble_eq_true rfl) (by decide) ⟨Nat.le_of_ble_eq_true rfl, Nat.le_of_ble_eq_true rfl⟩ (fun S3 r4 h hn_r4 hp => ?_)
      have hk_a0 : m_kd S3 a0 = 9 := m_kd_pre hp hk_a0 (by decide)
      have hk_b1 : m_kd S3 b1 = 1 := m_kd_pre hp hk_b1 (by decide)
      have hk_b2 : m_kd S3 b2 = 100 := m_kd_pre hp hk_b2 (by decide)
      exact mj_reti dX10_fault_44 rfl ⟨Nat.le_of_ble_eq_true rfl, Nat.le_of_ble_eq_true rfl⟩ h
  · replace h := h.2 hc
    refine mj_aload_n dX10_fault_4 rfl rfl ?_
    obtain ⟨b5, eb5, h⟩ := h
    refine mj_getP dX10_fault_5 fl_X10_20_9 hk_a0 rfl ⟨b5, eb5, fun hk_b5 => ?_⟩
    refine mj_aload_n dX10_fault_8 rfl rfl ?_
    obtain ⟨b6, eb6, h⟩ := h
    refine mj_getP dX10_fault_9 fl_X10_9_9 hk_a0 rfl ⟨b6, eb6, fun hk_b6 => ?_⟩
    refine mj_aload_n dX10_fault_12 rfl rfl ?_
    refine mj_getI dX10_fault_13 fl_X10_13_9 hk_a0 rfl ?_
    refine mj_aload_n dX10_fault_16 rfl rfl ?_
    obtain ⟨b7, eb7, h⟩ := h
    refine mj_getP dX10_fault_17 fl_X10_45_9 hk_a0 rfl ⟨b7, eb7, fun hk_b7 => ?_⟩
    refine mj_callVi (as := [.ref b6, .int (m_gi S a0 1), .ref b7]) (st := []) dX10_fault_20 cal_X7_read lk_X10_113 im_X7_read se_X7_read (ci := 6) rfl (by decide) hk_b5 h rfl (Nat.le_of_ble_eq_true rfl) (by decide) ⟨Nat.le_of_ble_eq_true rfl, Nat.le_of_ble_eq_true rfl⟩ (fun S8 r9 h hn_r9 hp => ?_)
    have hk_a0 : m_kd S8 a0 = 9 := m_kd_pre hp hk_a0 (by decide)
    have hk_b5 : m_kd S8 b5 = 6 := m_kd_pre hp hk_b5 (by decide)
    have hk_b6 : m_kd S8 b6 = 100 := m_kd_pre hp hk_b6 (by decide)
    have hk_b7 : m_kd S8 b7 = 5 := m_kd_pre hp hk_b7 (by decide)
    exact mj_reti dX10_fault_23 rfl ⟨Nat.le_of_ble_eq_true rfl, Nat.le_of_ble_eq_true rfl⟩ h
abbrev V_X10_text_0 (l : Launch) (G : mj_G) (a0 : Nat) (x1 : Int32) (S : mj_S) (Q : mj_S → Int32 → Prop) : Prop := mj_V l G (mj_room 84 0 0) RX10 cX10_text 2 (some .int) false 0 [some (.ref a0), some (.int x1)] [] S 0 0 (mj_std G (some .int) (mj_room 84 0 0) (mj_qi Q))
abbrev V_X10_text_37 (l : Launch) (G : mj_G) (a0 : Nat) (x1 : Int32) (S : mj_S) (Q : mj_S → Int32 → Prop) : Prop := mj_V l G (mj_room 84 0 0) RX10 cX10_text 2 (some .int) false 37 [some (.ref a0), some (.int x1)] [] S 0 0 (mj_std G (some .int) (mj_room 84 0 0) (mj_qi Q))
theorem e_X10_text {l : Launch} {G : mj_G} {a0 : Nat} {x1 : Int32} {S : mj_S} {Q : mj_S → Int32 → Prop} (h : V_X10_text_0 l G a0 x1 S Q) : M_X10_text l G a0 x1 S Q := mj_enter (r := 0) (ini := false) (by decide +kernel) (fun h => by cases h) (fun _ => Nat.le_of_ble_eq_true rfl) rfl h
set_option maxRecDepth 20000 in
set_option maxHeartbeats 1000000 in
theorem b_X10_text_0 {l : Launch} {G : mj_G} {a0 : Nat} {x1 : Int32} {S : mj_S} {Q : mj_S → Int32 → Prop} (hk_a0 : m_kd S a0 = 9) (h : ((¬ x1 = 0) → V_X10_text_37 l G a0 x1 S Q) ∧ ((x1 = 0) → ∃ b1, m_gp S a0 2 = some b1 ∧ (∃ b2, m_gp S a0 0 = some b2 ∧ (∃ b3, m_gp S a0 6 = some b3 ∧ (M_X7_read l G b1 b2 (m_gi S a0 1) b3 S (fun S4 r5 => ((¬ r5 = (-1 : Int32)) → V_X10_text_37 l G a0 x1 S4 Q) ∧ ((r5 = (-1 : Int32)) → ∀ S6 : mj_S, S6 = m_si S4 a0 1 (0 : Int32) → M_X10_enterSpare l G a0 S6 (fun S7 r8 => Q S7 r8)))))))) : V_X10_text_0 l G a0 x1 S Q := by
  refine mj_iload_n dX10_text_0 rfl rfl ?_
  refine mj_if_ne (tgt := 37) dX10_text_1 (by decide) ⟨fun hc => ?_, fun hc => ?_⟩
  · replace h := h.1 hc
    exact h
  · replace h := h.2 hc
    refine mj_aload_n dX10_text_4 rfl rfl ?_
    obtain ⟨b1, eb1, h⟩ := h
    refine mj_getP dX10_text_5 fl_X10_20_9 hk_a0 rfl ⟨b1, eb1, fun hk_b1 => ?_⟩
    refine mj_aload_n dX10_text_8 rfl rfl ?_
    obtain ⟨b2, eb2, h⟩ := h
    refine mj_getP dX10_text_9 fl_X10_9_9 hk_a0 rfl ⟨b2, eb2, fun hk_b2 => ?_⟩
    refine mj_aload_n dX10_text_12 rfl rfl ?_
    refine mj_getI dX10_text_13 fl_X10_13_9 hk_a0 rfl ?_
    refine mj_aload_n dX10_text_16 rfl rfl ?_
    obtain ⟨b3, eb3, h⟩ := h
    refine mj_getP dX10_text_17 fl_X10_45_9 hk_a0 rfl ⟨b3, eb3, fun hk_b3 => ?_⟩
    refine mj_callVi (as := [.ref b2, .int (m_gi S a0 1), .ref b3]) (st := []) dX10_text_20 cal_X7_read lk_X10_113 im_X7_read se_X7_read (ci := 6) rfl (by decide) hk_b1 h rfl (Nat.le_of_ble_eq_true rfl) (by decide) ⟨Nat.le_of_ble_eq_true rfl, Nat.le_of_ble_eq_true rfl⟩ (fun S4 r5 h hn_r5 hp => ?_)
    have hk_a0 : m_kd S4 a0 = 9 := m_kd_pre hp hk_a0 (by decide)
    have hk_b1 : m_kd S4 b1 = 6 := m_kd_pre hp hk_b1 (by decide)
    have hk_b2 : m_kd S4 b2 = 100 := m_kd_pre hp hk_b2 (by decide)
    have hk_b3 : m_kd S4 b3 = 5 := m_kd_pre hp hk_b3 (by decide)
    refine mj_iconst (v := (-1)) dX10_text_23 (by decide) ?_
    refine mj_icmp_ne (tgt := 37) dX10_text_24 (by decide) ⟨fun hc => ?_, fun hc => ?_⟩
    · replace h := h.1 hc
      exact h
    · replace h := h.2 hc
      refine mj_aload_n dX10_text_27 rfl rfl ?_
      refine mj_iconst (v := 0) dX10_text_28 (by decide) ?_
      refine mj_putI dX10_text_29 fl_X10_13_9 hk_a0 (Or.inl rfl) rfl rfl rfl ?_
      obtain ⟨S6, eS6⟩ : ∃ z, z = m_si S4 a0 1 (0 : Int32) := ⟨_, rfl⟩
      rw [← eS6]
      replace h := h S6 eS6
      have hk_a0 : m_kd S6 a0 = 9 := by rw [eS6]; exact hk_a0
      have hk_b1 : m_kd S6 b1 = 6 := by rw [eS6]; exact hk_b1
      have hk_b2 : m_kd S6 b2 = 100 := by rw [eS6]; exact hk_b2
      have hk_b3 : m_kd S6 b3 = 5 := by rw [eS6]; exact hk_b3
      refine mj_aload_n dX10_text_32 rfl rfl ?_
      refine mj_callVi (as := []) (st := []) dX10_text_33 cal_X10_enterSpare lk_X10_120 im_X10_enterSpare se_X10_enterSpare (ci := 9) rfl (by decide) hk_a0 h rfl (Nat.le_of_ble_eq_true rfl) (by decide) ⟨Nat.le_of_ble_eq_true rfl, Nat.le_of_ble_eq_true rfl⟩ (fun S7 r8 h hn_r8 hp => ?_)
      have hk_a0 : m_kd S7 a0 = 9 := m_kd_pre hp hk_a0 (by decide)
      have hk_b1 : m_kd S7 b1 = 6 := m_kd_pre hp hk_b1 (by decide)
      have hk_b2 : m_kd S7 b2 = 100 := m_kd_pre hp hk_b2 (by decide)
      have hk_b3 : m_kd S7 b3 = 5 := m_kd_pre hp hk_b3 (by decide)
      exact mj_reti dX10_text_36 rfl ⟨Nat.le_of_ble_eq_true rfl, Nat.le_of_ble_eq_true rfl⟩ h
set_option maxRecDepth 20000 in
set_option maxHeartbeats 1000000 in
theorem b_X10_text_37 {l : Launch} {G : mj_G} {a0 : Nat} {x1 : Int32} {S : mj_S} {Q : mj_S → Int32 → Prop} (hk_a0 : m_kd S a0 = 9) (h : ((¬ x1 = (1 : Int32)) → Q S (-1 : Int32)) ∧ ((x1 = (1 : Int32)) → ∃ b1, m_gp S a0 4 = some b1 ∧ ((((4 : Int32) ≤ (m_gi S b1 0)) → Q S (-1 : Int32)) ∧ ((¬ ((4 : Int32) ≤ (m_gi S b1 0))) → ∃ b2, m_gp S a0 3 = some b2 ∧ (∃ b3, m_gp S a0 0 = some b3 ∧ (M_X1_read l G b2 b3 (m_gi S a0 1) S (fun S4 r5 => ((¬ r5 = (-1 : Int32)) → Q S4 (-1 : Int32)) ∧ ((r5 = (-1 : Int32)) → ∀ S6 : mj_S, S6 = m_si S4 a0 1 (0 : Int32) → ∃ b7, m_gp S6 a0 4 = some b7 ∧ (∃ b8, m_gp S6 a0 3 = some b8 ∧ (∃ b9, m_gp S6 b8 3 = some b9 ∧ (∃ b10, m_gp S6 a0 3 = some b10 ∧ (M_X2_add l G b7 b9 (m_gi S6 b10 4) S6 (fun S11 r12 => Q S11 r12))))))))))))) : V_X10_text_37 l G a0 x1 S Q := by
  refine mj_iload_n dX10_text_37 rfl rfl ?_
  refine mj_iconst (v := 1) dX10_text_38 (by decide) ?_
  refine mj_icmp_ne (tgt := 99) dX10_text_39 (by decide) ⟨fun hc => ?_, fun hc => ?_⟩
  · replace h := h.1 hc
    refine mj_iconst (v := (-1)) dX10_text_99 (by decide) ?_
    exact mj_reti dX10_text_100 rfl ⟨Nat.le_of_ble_eq_true rfl, Nat.le_of_ble_eq_true rfl⟩ h
  · replace h := h.2 hc
    refine mj_aload_n dX10_text_42 rfl rfl ?_
    obtain ⟨b1, eb1, h⟩ := h
    refine mj_getP dX10_text_43 fl_X10_34_9 hk_a0 rfl ⟨b1, eb1, fun hk_b1 => ?_⟩
    refine mj_getI dX10_text_46 fl_X10_124_2 hk_b1 rfl ?_
    refine mj_iconst (v := 4) dX10_text_49 (by decide) ?_
    refine mj_icmp_ge (tgt := 99) dX10_text_50 (by decide) ⟨fun hc => ?_, fun hc => ?_⟩
    · replace h := h.1 hc
      refine mj_iconst (v := (-1)) dX10_text_99 (by decide) ?_
      exact mj_reti dX10_text_100 rfl ⟨Nat.le_of_ble_eq_true rfl, Nat.le_of_ble_eq_true rfl⟩ h
    · replace h := h.2 hc
      refine mj_aload_n dX10_text_53 rfl rfl ?_
      obtain ⟨b2, eb2, h⟩ := h
      refine mj_getP dX10_text_54 fl_X10_27_9 hk_a0 rfl ⟨b2, eb2, fun hk_b2 => ?_⟩
      refine mj_aload_n dX10_text_57 rfl rfl ?_
      obtain ⟨b3, eb3, h⟩ := h
      refine mj_getP dX10_text_58 fl_X10_9_9 hk_a0 rfl ⟨b3, eb3, fun hk_b3 => ?_⟩
      refine mj_aload_n dX10_text_61 rfl rfl ?_
      refine mj_getI dX10_text_62 fl_X10_13_9 hk_a0 rfl ?_
      refine mj_callVi (as := [.ref b3, .int (m_gi S a0 1)]) (st := []) dX10_text_65 cal_X1_read lk_X10_117 im_X1_read se_X1_read (ci := 1) rfl (by decide) hk_b2 h rfl (Nat.le_of_ble_eq_true rfl) (by decide) ⟨Nat.le_of_ble_eq_true rfl, Nat.le_of_ble_eq_true rfl⟩ (fun S4 r5 h hn_r5 hp => ?_)
      have hk_a0 : m_kd S4 a0 = 9 := m_kd_pre hp hk_a0 (by decide)
      have hk_b1 : m_kd S4 b1 = 2 := m_kd_pre hp hk_b1 (by decide)
      have hk_b2 : m_kd S4 b2 = 1 := m_kd_pre hp hk_b2 (by decide)
      have hk_b3 : m_kd S4 b3 = 100 := m_kd_pre hp hk_b3 (by decide)
      refine mj_iconst (v := (-1)) dX10_text_68 (by decide) ?_
      refine mj_icmp_ne (tgt := 99) dX10_text_69 (by decide) ⟨fun hc => ?_, fun hc => ?_⟩
      · replace h := h.1 hc
        refine mj_iconst (v := (-1)) dX10_text_99 (by decide) ?_
        exact mj_reti dX10_text_100 rfl ⟨Nat.le_of_ble_eq_true rfl, Nat.le_of_ble_eq_true rfl⟩ h
      · replace h := h.2 hc
        refine mj_aload_n dX10_text_72 rfl rfl ?_
        refine mj_iconst (v := 0) dX10_text_73 (by decide) ?_
        refine mj_putI dX10_text_74 fl_X10_13_9 hk_a0 (Or.inl rfl) rfl rfl rfl ?_
        obtain ⟨S6, eS6⟩ : ∃ z, z = m_si S4 a0 1 (0 : Int32) := ⟨_, rfl⟩
        rw [← eS6]
        replace h := h S6 eS6
        have hk_a0 : m_kd S6 a0 = 9 := by rw [eS6]; exact hk_a0
        have hk_b1 : m_kd S6 b1 = 2 := by rw [eS6]; exact hk_b1
        have hk_b2 : m_kd S6 b2 = 1 := by rw [eS6]; exact hk_b2
        have hk_b3 : m_kd S6 b3 = 100 := by rw [eS6]; exact hk_b3
        refine mj_aload_n dX10_text_77 rfl rfl ?_
        obtain ⟨b7, eb7, h⟩ := h
        refine mj_getP dX10_text_78 fl_X10_34_9 hk_a0 rfl ⟨b7, eb7, fun hk_b7 => ?_⟩
        refine mj_aload_n dX10_text_81 rfl rfl ?_
        obtain ⟨b8, eb8, h⟩ := h
        refine mj_getP dX10_text_82 fl_X10_27_9 hk_a0 rfl ⟨b8, eb8, fun hk_b8 => ?_⟩
        obtain ⟨b9, eb9, h⟩ := h
        refine mj_getP dX10_text_85 fl_X10_127_1 hk_b8 rfl ⟨b9, eb9, fun hk_b9 => ?_⟩
        refine mj_aload_n dX10_text_88 rfl rfl ?_
        obtain ⟨b10, eb10, h⟩ := h
        refine mj_getP dX10_text_89 fl_X10_27_9 hk_a0 rfl ⟨b10, eb10, fun hk_b10 => ?_⟩
        refine mj_getI dX10_text_92 fl_X10_130_1 hk_b10 rfl ?_
        refine mj_callVi (as := [.ref b9, .int (m_gi S6 b10 4)]) (st := []) dX10_text_95 cal_X2_add lk_X10_133 im_X2_add se_X2_add (ci := 2) rfl (by decide) hk_b7 h rfl (Nat.le_of_ble_eq_true rfl) (by decide) ⟨Nat.le_of_ble_eq_true rfl, Nat.le_of_ble_eq_true rfl⟩ (fun S11 r12 h hn_r12 hp => ?_)
        have hk_a0 : m_kd S11 a0 = 9 := m_kd_pre hp hk_a0 (by decide)
        have hk_b1 : m_kd S11 b1 = 2 := m_kd_pre hp hk_b1 (by decide)
        have hk_b2 : m_kd S11 b2 = 1 := m_kd_pre hp hk_b2 (by decide)
        have hk_b3 : m_kd S11 b3 = 100 := m_kd_pre hp hk_b3 (by decide)
        have hk_b7 : m_kd S11 b7 = 2 := m_kd_pre hp hk_b7 (by decide)
        have hk_b8 : m_kd S11 b8 = 1 := m_kd_pre hp hk_b8 (by decide)
        have hk_b9 : m_kd S11 b9 = 100 := m_kd_pre hp hk_b9 (by decide)
        have hk_b10 : m_kd S11 b10 = 1 := m_kd_pre hp hk_b10 (by decide)
        exact mj_reti dX10_text_98 rfl ⟨Nat.le_of_ble_eq_true rfl, Nat.le_of_ble_eq_true rfl⟩ h
abbrev V_X10_enterSpare_0 (l : Launch) (G : mj_G) (a0 : Nat) (S : mj_S) (Q : mj_S → Int32 → Prop) : Prop := mj_V l G (mj_room 2 0 0) RX10 cX10_enterSpare 2 (some .int) false 0 [some (.ref a0), none] [] S 0 0 (mj_std G (some .int) (mj_room 2 0 0) (mj_qi Q))
theorem e_X10_enterSpare {l : Launch} {G : mj_G} {a0 : Nat} {S : mj_S} {Q : mj_S → Int32 → Prop} (h : V_X10_enterSpare_0 l G a0 S Q) : M_X10_enterSpare l G a0 S Q := mj_enter (r := 1) (ini := false) (by decide +kernel) (fun h => by cases h) (fun _ => Nat.le_of_ble_eq_true rfl) rfl h
set_option maxRecDepth 20000 in
set_option maxHeartbeats 1000000 in
theorem b_X10_enterSpare_0 {l : Launch} {G : mj_G} {a0 : Nat} {S : mj_S} {Q : mj_S → Int32 → Prop} (hk_a0 : m_kd S a0 = 9) (h : ∃ b1, m_gp S a0 5 = some b1 ∧ (∃ b2, m_gp S a0 6 = some b2 ∧ (∀ S3 : mj_S, S3 = m_sp S a0 5 (some b2) → ∀ S4 : mj_S, S4 = m_sp S3 a0 6 (some b1) → ∃ b5, m_gp S4 a0 7 = some b5 ∧ (∃ b6, m_gp S4 a0 5 = some b6 ∧ (M_X8_enter l G b5 b6 S4 (fun S7 => ∃ b8, m_gp S7 a0 9 = some b8 ∧ (M_X4_forget l G b8 S7 (fun S9 => ∀ S10 : mj_S, S10 = m_si S9 a0 16 (0 : Int32) → ∀ S11 : mj_S, S11 = m_si S10 a0 17 (0 : Int32) → ∀ S12 : mj_S, S12 = m_si S11 a0 18 (0 : Int32) → ∃ b13, m_gp S12 a0 5 = some b13 ∧ (Q S12 (m_gi S12 b13 4)))))))))) : V_X10_enterSpare_0 l G a0 S Q := by
  refine mj_aload_n dX10_enterSpare_0 rfl rfl ?_
  obtain ⟨b1, eb1, h⟩ := h
  refine mj_getP dX10_enterSpare_1 fl_X10_41_9 hk_a0 rfl ⟨b1, eb1, fun hk_b1 => ?_⟩
  refine mj_astore_n dX10_enterSpare_4 rfl (by decide) rfl rfl ?_
  refine mj_aload_n dX10_enterSpare_5 rfl rfl ?_
  refine mj_aload_n dX10_enterSpare_6 rfl rfl ?_
  obtain ⟨b2, eb2, h⟩ := h
  refine mj_getP dX10_enterSpare_7 fl_X10_45_9 hk_a0 rfl ⟨b2, eb2, fun hk_b2 => ?_⟩
  refine mj_putP dX10_enterSpare_10 fl_X10_41_9 hk_a0 (Or.inl rfl) rfl hk_b2 (fun _ => rfl) (fun _ => rfl) ?_
  obtain ⟨S3, eS3⟩ : ∃ z, z = m_sp S a0 5 (some b2) := ⟨_, rfl⟩
  rw [← eS3]
  replace h := h S3 eS3
  have hk_a0 : m_kd S3 a0 = 9 := by rw [eS3]; exact hk_a0
  have hk_b1 : m_kd S3 b1 = 5 := by rw [eS3]; exact hk_b1
  have hk_b2 : m_kd S3 b2 = 5 := by rw [eS3]; exact hk_b2
  refine mj_aload_n dX10_enterSpare_13 rfl rfl ?_
  refine mj_aload_n dX10_enterSpare_14 rfl rfl ?_
  refine mj_putP dX10_enterSpare_15 fl_X10_45_9 hk_a0 (Or.inl rfl) rfl hk_b1 (fun _ => rfl) (fun _ => rfl) ?_
  obtain ⟨S4, eS4⟩ : ∃ z, z = m_sp S3 a0 6 (some b1) := ⟨_, rfl⟩
  rw [← eS4]
  replace h := h S4 eS4
  have hk_a0 : m_kd S4 a0 = 9 := by rw [eS4]; exact hk_a0
  have hk_b1 : m_kd S4 b1 = 5 := by rw [eS4]; exact hk_b1
  have hk_b2 : m_kd S4 b2 = 5 := by rw [eS4]; exact hk_b2
  refine mj_aload_n dX10_enterSpare_18 rfl rfl ?_
  obtain ⟨b5, eb5, h⟩ := h
  refine mj_getP dX10_enterSpare_19 fl_X10_51_9 hk_a0 rfl ⟨b5, eb5, fun hk_b5 => ?_⟩
  refine mj_aload_n dX10_enterSpare_22 rfl rfl ?_
  obtain ⟨b6, eb6, h⟩ := h
  refine mj_getP dX10_enterSpare_23 fl_X10_41_9 hk_a0 rfl ⟨b6, eb6, fun hk_b6 => ?_⟩
  refine mj_callVv (as := [.ref b6]) (st := []) dX10_enterSpare_26 cal_X8_enter lk_X10_136 im_X8_enter se_X8_enter (ci := 7) rfl (by decide) hk_b5 h rfl (Nat.le_of_ble_eq_true rfl) (by decide) ⟨Nat.le_of_ble_eq_true rfl, Nat.le_of_ble_eq_true rfl⟩ (fun S7 h hp => ?_)
  have hk_a0 : m_kd S7 a0 = 9 := m_kd_pre hp hk_a0 (by decide)
  have hk_b1 : m_kd S7 b1 = 5 := m_kd_pre hp hk_b1 (by decide)
  have hk_b2 : m_kd S7 b2 = 5 := m_kd_pre hp hk_b2 (by decide)
  have hk_b5 : m_kd S7 b5 = 7 := m_kd_pre hp hk_b5 (by decide)
  have hk_b6 : m_kd S7 b6 = 5 := m_kd_pre hp hk_b6 (by decide)
  refine mj_aload_n dX10_enterSpare_29 rfl rfl ?_
  obtain ⟨b8, eb8, h⟩ := h
  refine mj_getP dX10_enterSpare_30 fl_X10_61_9 hk_a0 rfl ⟨b8, eb8, fun hk_b8 => ?_⟩
  refine mj_callVv (as := []) (st := []) dX10_enterSpare_33 cal_X4_forget lk_X10_140 im_X4_forget se_X4_forget (ci := 4) rfl (by decide) hk_b8 h rfl (Nat.le_of_ble_eq_true rfl) (by decide) ⟨Nat.le_of_ble_eq_true rfl, Nat.le_of_ble_eq_true rfl⟩ (fun S9 h hp => ?_)
  have hk_a0 : m_kd S9 a0 = 9 := m_kd_pre hp hk_a0 (by decide)
  have hk_b1 : m_kd S9 b1 = 5 := m_kd_pre hp hk_b1 (by decide)
  have hk_b2 : m_kd S9 b2 = 5 := m_kd_pre hp hk_b2 (by decide)
  have hk_b5 : m_kd S9 b5 = 7 := m_kd_pre hp hk_b5 (by decide)
  have hk_b6 : m_kd S9 b6 = 5 := m_kd_pre hp hk_b6 (by decide)
  have hk_b8 : m_kd S9 b8 = 4 := m_kd_pre hp hk_b8 (by decide)
  refine mj_aload_n dX10_enterSpare_36 rfl rfl ?_
  refine mj_iconst (v := 0) dX10_enterSpare_37 (by decide) ?_
  refine mj_putI dX10_enterSpare_38 fl_X10_96_9 hk_a0 (Or.inl rfl) rfl rfl rfl ?_
  obtain ⟨S10, eS10⟩ : ∃ z, z = m_si S9 a0 16 (0 : Int32) := ⟨_, rfl⟩
  rw [← eS10]
  replace h := h S10 eS10
  have hk_a0 : m_kd S10 a0 = 9 := by rw [eS10]; exact hk_a0
  have hk_b1 : m_kd S10 b1 = 5 := by rw [eS10]; exact hk_b1
  have hk_b2 : m_kd S10 b2 = 5 := by rw [eS10]; exact hk_b2
  have hk_b5 : m_kd S10 b5 = 7 := by rw [eS10]; exact hk_b5
  have hk_b6 : m_kd S10 b6 = 5 := by rw [eS10]; exact hk_b6
  have hk_b8 : m_kd S10 b8 = 4 := by rw [eS10]; exact hk_b8
  refine mj_aload_n dX10_enterSpare_41 rfl rfl ?_
  refine mj_iconst (v := 0) dX10_enterSpare_42 (by decide) ?_
  refine mj_putI dX10_enterSpare_43 fl_X10_99_9 hk_a0 (Or.inl rfl) rfl rfl rfl ?_
  obtain ⟨S11, eS11⟩ : ∃ z, z = m_si S10 a0 17 (0 : Int32) := ⟨_, rfl⟩
  rw [← eS11]
  replace h := h S11 eS11
  have hk_a0 : m_kd S11 a0 = 9 := by rw [eS11]; exact hk_a0
  have hk_b1 : m_kd S11 b1 = 5 := by rw [eS11]; exact hk_b1
  have hk_b2 : m_kd S11 b2 = 5 := by rw [eS11]; exact hk_b2
  have hk_b5 : m_kd S11 b5 = 7 := by rw [eS11]; exact hk_b5
  have hk_b6 : m_kd S11 b6 = 5 := by rw [eS11]; exact hk_b6
  have hk_b8 : m_kd S11 b8 = 4 := by rw [eS11]; exact hk_b8
  refine mj_aload_n dX10_enterSpare_46 rfl rfl ?_
  refine mj_iconst (v := 0) dX10_enterSpare_47 (by decide) ?_
  refine mj_putI dX10_enterSpare_48 fl_X10_102_9 hk_a0 (Or.inl rfl) rfl rfl rfl ?_
  obtain ⟨S12, eS12⟩ : ∃ z, z = m_si S11 a0 18 (0 : Int32) := ⟨_, rfl⟩
  rw [← eS12]
  replace h := h S12 eS12
  have hk_a0 : m_kd S12 a0 = 9 := by rw [eS12]; exact hk_a0
  have hk_b1 : m_kd S12 b1 = 5 := by rw [eS12]; exact hk_b1
  have hk_b2 : m_kd S12 b2 = 5 := by rw [eS12]; exact hk_b2
  have hk_b5 : m_kd S12 b5 = 7 := by rw [eS12]; exact hk_b5
  have hk_b6 : m_kd S12 b6 = 5 := by rw [eS12]; exact hk_b6
  have hk_b8 : m_kd S12 b8 = 4 := by rw [eS12]; exact hk_b8
  refine mj_aload_n dX10_enterSpare_51 rfl rfl ?_
  obtain ⟨b13, eb13, h⟩ := h
  refine mj_getP dX10_enterSpare_52 fl_X10_41_9 hk_a0 rfl ⟨b13, eb13, fun hk_b13 => ?_⟩
  refine mj_getI dX10_enterSpare_55 fl_X10_143_5 hk_b13 rfl ?_
  exact mj_reti dX10_enterSpare_58 rfl ⟨Nat.le_of_ble_eq_true rfl, Nat.le_of_ble_eq_true rfl⟩ h
abbrev V_X10_hasRoom_0 (l : Launch) (G : mj_G) (a0 : Nat) (S : mj_S) (Q : mj_S → Int32 → Prop) : Prop := mj_V l G (mj_room 1 0 0) RX10 cX10_hasRoom 1 (some .boolean) false 0 [some (.ref a0)] [] S 0 0 (mj_std G (some .boolean) (mj_room 1 0 0) (mj_qi Q))
theorem e_X10_hasRoom {l : Launch} {G : mj_G} {a0 : Nat} {S : mj_S} {Q : mj_S → Int32 → Prop} (h : V_X10_hasRoom_0 l G a0 S Q) : M_X10_hasRoom l G a0 S Q := mj_enter (r := 0) (ini := false) (by decide +kernel) (fun h => by cases h) (fun _ => Nat.le_of_ble_eq_true rfl) rfl h
set_option maxRecDepth 20000 in
set_option maxHeartbeats 1000000 in
theorem b_X10_hasRoom_0 {l : Launch} {G : mj_G} {a0 : Nat} {S : mj_S} {Q : mj_S → Int32 → Prop} (hk_a0 : m_kd S a0 = 9) (h : ∃ b1, m_gp S a0 5 = some b1 ∧ ((((m_gi S b1 4) ≤ 0) → Q S (0 : Int32)) ∧ ((¬ ((m_gi S b1 4) ≤ 0)) → Q S (1 : Int32)))) : V_X10_hasRoom_0 l G a0 S Q := by
  refine mj_aload_n dX10_hasRoom_0 rfl rfl ?_
  obtain ⟨b1, eb1, h⟩ := h
  refine mj_getP dX10_hasRoom_1 fl_X10_41_9 hk_a0 rfl ⟨b1, eb1, fun hk_b1 => ?_⟩
  refine mj_getI dX10_hasRoom_4 fl_X10_143_5 hk_b1 rfl ?_
  refine mj_if_le (tgt := 14) dX10_hasRoom_7 (by decide) ⟨fun hc => ?_, fun hc => ?_⟩
  · replace h := h.1 hc
    refine mj_iconst (v := 0) dX10_hasRoom_14 (by decide) ?_
    exact mj_retz dX10_hasRoom_15 rfl (rfl) ⟨Nat.le_of_ble_eq_true rfl, Nat.le_of_ble_eq_true rfl⟩ h
  · replace h := h.2 hc
    refine mj_iconst (v := 1) dX10_hasRoom_10 (by decide) ?_
    refine mj_goto (tgt := 15) dX10_hasRoom_11 (by decide) ?_
    exact mj_retz dX10_hasRoom_15 rfl (rfl) ⟨Nat.le_of_ble_eq_true rfl, Nat.le_of_ble_eq_true rfl⟩ h
abbrev V_X10_isSquare_0 (l : Launch) (G : mj_G) (a0 : Nat) (x1 : Int32) (S : mj_S) (Q : mj_S → Int32 → Prop) : Prop := mj_V l G (mj_room 1 0 0) RX10 cX10_isSquare 2 (some .boolean) false 0 [some (.ref a0), some (.int x1)] [] S 0 0 (mj_std G (some .boolean) (mj_room 1 0 0) (mj_qi Q))
theorem e_X10_isSquare {l : Launch} {G : mj_G} {a0 : Nat} {x1 : Int32} {S : mj_S} {Q : mj_S → Int32 → Prop} (h : V_X10_isSquare_0 l G a0 x1 S Q) : M_X10_isSquare l G a0 x1 S Q := mj_enter (r := 0) (ini := false) (by decide +kernel) (fun h => by cases h) (fun _ => Nat.le_of_ble_eq_true rfl) rfl h
set_option maxRecDepth 20000 in
set_option maxHeartbeats 1000000 in
theorem b_X10_isSquare_0 {l : Launch} {G : mj_G} {a0 : Nat} {x1 : Int32} {S : mj_S} {Q : mj_S → Int32 → Prop} (hk_a0 : m_kd S a0 = 9) (h : ((x1 < 0) → Q S (0 : Int32)) ∧ ((¬ (x1 < 0)) → ∃ b1, m_gp S a0 5 = some b1 ∧ ((((m_gi S b1 4) ≤ x1) → Q S (0 : Int32)) ∧ ((¬ ((m_gi S b1 4) ≤ x1)) → Q S (1 : Int32))))) : V_X10_isSquare_0 l G a0 x1 S Q := by
  refine mj_iload_n dX10_isSquare_0 rfl rfl ?_
  refine mj_if_lt (tgt := 19) dX10_isSquare_1 (by decide) ⟨fun hc => ?_, fun hc => ?_⟩
  · replace h := h.1 hc
    refine mj_iconst (v := 0) dX10_isSquare_19 (by decide) ?_
    exact mj_retz dX10_isSquare_20 rfl (rfl) ⟨Nat.le_of_ble_eq_true rfl, Nat.le_of_ble_eq_true rfl⟩ h
  · replace h := h.2 hc
    refine mj_iload_n dX10_isSquare_4 rfl rfl ?_
    refine mj_aload_n dX10_isSquare_5 rfl rfl ?_
    obtain ⟨b1, eb1, h⟩ := h
    refine mj_getP dX10_isSquare_6 fl_X10_41_9 hk_a0 rfl ⟨b1, eb1, fun hk_b1 => ?_⟩
    refine mj_getI dX10_isSquare_9 fl_X10_143_5 hk_b1 rfl ?_
    refine mj_icmp_ge (tgt := 19) dX10_isSquare_12 (by decide) ⟨fun hc => ?_, fun hc => ?_⟩
    · replace h := h.1 hc
      refine mj_iconst (v := 0) dX10_isSquare_19 (by decide) ?_
      exact mj_retz dX10_isSquare_20 rfl (rfl) ⟨Nat.le_of_ble_eq_true rfl, Nat.le_of_ble_eq_true rfl⟩ h
    · replace h := h.2 hc
      refine mj_iconst (v := 1) dX10_isSquare_15 (by decide) ?_
      refine mj_goto (tgt := 20) dX10_isSquare_16 (by decide) ?_
      exact mj_retz dX10_isSquare_20 rfl (rfl) ⟨Nat.le_of_ble_eq_true rfl, Nat.le_of_ble_eq_true rfl⟩ h
abbrev V_X10_isCurtain_0 (l : Launch) (G : mj_G) (a0 : Nat) (x1 : Int32) (S : mj_S) (Q : mj_S → Int32 → Prop) : Prop := mj_V l G (mj_room 1 0 0) RX10 cX10_isCurtain 2 (some .boolean) false 0 [some (.ref a0), some (.int x1)] [] S 0 0 (mj_std G (some .boolean) (mj_room 1 0 0) (mj_qi Q))
theorem e_X10_isCurtain {l : Launch} {G : mj_G} {a0 : Nat} {x1 : Int32} {S : mj_S} {Q : mj_S → Int32 → Prop} (h : V_X10_isCurtain_0 l G a0 x1 S Q) : M_X10_isCurtain l G a0 x1 S Q := mj_enter (r := 0) (ini := false) (by decide +kernel) (fun h => by cases h) (fun _ => Nat.le_of_ble_eq_true rfl) rfl h
set_option maxRecDepth 20000 in
set_option maxHeartbeats 1000000 in
theorem b_X10_isCurtain_0 {l : Launch} {G : mj_G} {a0 : Nat} {x1 : Int32} {S : mj_S} {Q : mj_S → Int32 → Prop} (hk_a0 : m_kd S a0 = 9) (h : ((x1 < 0) → Q S (0 : Int32)) ∧ ((¬ (x1 < 0)) → ∃ b1, m_gp S a0 5 = some b1 ∧ ((((m_gi S b1 7) ≤ x1) → Q S (0 : Int32)) ∧ ((¬ ((m_gi S b1 7) ≤ x1)) → Q S (1 : Int32))))) : V_X10_isCurtain_0 l G a0 x1 S Q := by
  refine mj_iload_n dX10_isCurtain_0 rfl rfl ?_
  refine mj_if_lt (tgt := 19) dX10_isCurtain_1 (by decide) ⟨fun hc => ?_, fun hc => ?_⟩
  · replace h := h.1 hc
    refine mj_iconst (v := 0) dX10_isCurtain_19 (by decide) ?_
    exact mj_retz dX10_isCurtain_20 rfl (rfl) ⟨Nat.le_of_ble_eq_true rfl, Nat.le_of_ble_eq_true rfl⟩ h
  · replace h := h.2 hc
    refine mj_iload_n dX10_isCurtain_4 rfl rfl ?_
    refine mj_aload_n dX10_isCurtain_5 rfl rfl ?_
    obtain ⟨b1, eb1, h⟩ := h
    refine mj_getP dX10_isCurtain_6 fl_X10_41_9 hk_a0 rfl ⟨b1, eb1, fun hk_b1 => ?_⟩
    refine mj_getI dX10_isCurtain_9 fl_X10_146_5 hk_b1 rfl ?_
    refine mj_icmp_ge (tgt := 19) dX10_isCurtain_12 (by decide) ⟨fun hc => ?_, fun hc => ?_⟩
    · replace h := h.1 hc
      refine mj_iconst (v := 0) dX10_isCurtain_19 (by decide) ?_
      exact mj_retz dX10_isCurtain_20 rfl (rfl) ⟨Nat.le_of_ble_eq_true rfl, Nat.le_of_ble_eq_true rfl⟩ h
    · replace h := h.2 hc
      refine mj_iconst (v := 1) dX10_isCurtain_15 (by decide) ?_
      refine mj_goto (tgt := 20) dX10_isCurtain_16 (by decide) ?_
      exact mj_retz dX10_isCurtain_20 rfl (rfl) ⟨Nat.le_of_ble_eq_true rfl, Nat.le_of_ble_eq_true rfl⟩ h
abbrev V_X10_isPerson_0 (l : Launch) (G : mj_G) (a0 : Nat) (x1 : Int32) (S : mj_S) (Q : mj_S → Int32 → Prop) : Prop := mj_V l G (mj_room 1 0 0) RX10 cX10_isPerson 2 (some .boolean) false 0 [some (.ref a0), some (.int x1)] [] S 0 0 (mj_std G (some .boolean) (mj_room 1 0 0) (mj_qi Q))
theorem e_X10_isPerson {l : Launch} {G : mj_G} {a0 : Nat} {x1 : Int32} {S : mj_S} {Q : mj_S → Int32 → Prop} (h : V_X10_isPerson_0 l G a0 x1 S Q) : M_X10_isPerson l G a0 x1 S Q := mj_enter (r := 0) (ini := false) (by decide +kernel) (fun h => by cases h) (fun _ => Nat.le_of_ble_eq_true rfl) rfl h
set_option maxRecDepth 20000 in
set_option maxHeartbeats 1000000 in
theorem b_X10_isPerson_0 {l : Launch} {G : mj_G} {a0 : Nat} {x1 : Int32} {S : mj_S} {Q : mj_S → Int32 → Prop} (hk_a0 : m_kd S a0 = 9) (h : ((x1 < 0) → Q S (0 : Int32)) ∧ ((¬ (x1 < 0)) → ∃ b1, m_gp S a0 5 = some b1 ∧ ((((m_gi S b1 15) ≤ x1) → Q S (0 : Int32)) ∧ ((¬ ((m_gi S b1 15) ≤ x1)) → Q S (1 : Int32))))) : V_X10_isPerson_0 l G a0 x1 S Q := by
  refine mj_iload_n dX10_isPerson_0 rfl rfl ?_
  refine mj_if_lt (tgt := 19) dX10_isPerson_1 (by decide) ⟨fun hc => ?_, fun hc => ?_⟩
  · replace h := h.1 hc
    refine mj_iconst (v := 0) dX10_isPerson_19 (by decide) ?_
    exact mj_retz dX10_isPerson_20 rfl (rfl) ⟨Nat.le_of_ble_eq_true rfl, Nat.le_of_ble_eq_true rfl⟩ h
  · replace h := h.2 hc
    refine mj_iload_n dX10_isPerson_4 rfl rfl ?_
    refine mj_aload_n dX10_isPerson_5 rfl rfl ?_
    obtain ⟨b1, eb1, h⟩ := h
    refine mj_getP dX10_isPerson_6 fl_X10_41_9 hk_a0 rfl ⟨b1, eb1, fun hk_b1 => ?_⟩
    refine mj_getI dX10_isPerson_9 fl_X10_149_5 hk_b1 rfl ?_
    refine mj_icmp_ge (tgt := 19) dX10_isPerson_12 (by decide) ⟨fun hc => ?_, fun hc => ?_⟩
    · replace h := h.1 hc
      refine mj_iconst (v := 0) dX10_isPerson_19 (by decide) ?_
      exact mj_retz dX10_isPerson_20 rfl (rfl) ⟨Nat.le_of_ble_eq_true rfl, Nat.le_of_ble_eq_true rfl⟩ h
    · replace h := h.2 hc
      refine mj_iconst (v := 1) dX10_isPerson_15 (by decide) ?_
      refine mj_goto (tgt := 20) dX10_isPerson_16 (by decide) ?_
      exact mj_retz dX10_isPerson_20 rfl (rfl) ⟨Nat.le_of_ble_eq_true rfl, Nat.le_of_ble_eq_true rfl⟩ h
abbrev V_X10_has_0 (l : Launch) (G : mj_G) (x0 : Int32) (x1 : Int32) (S : mj_S) (Q : mj_S → Int32 → Prop) : Prop := mj_V l G (mj_room 1 0 0) RX10 cX10_has 2 (some .boolean) false 0 [some (.int x0), some (.int x1)] [] S 0 0 (mj_std G (some .boolean) (mj_room 1 0 0) (mj_qi Q))
theorem e_X10_has {l : Launch} {G : mj_G} {x0 : Int32} {x1 : Int32} {S : mj_S} {Q : mj_S → Int32 → Prop} (h : V_X10_has_0 l G x0 x1 S Q) : M_X10_has l G x0 x1 S Q := mj_enter (r := 0) (ini := false) (by decide +kernel) (fun h => by cases h) (fun _ => Nat.le_of_ble_eq_true rfl) rfl h
set_option maxRecDepth 20000 in
set_option maxHeartbeats 1000000 in
theorem b_X10_has_0 {l : Launch} {G : mj_G} {x0 : Int32} {x1 : Int32} {S : mj_S} {Q : mj_S → Int32 → Prop} (h : ((((x0 >>> (x1 &&& 31)) &&& (1 : Int32)) = 0) → Q S (0 : Int32)) ∧ ((¬ (((x0 >>> (x1 &&& 31)) &&& (1 : Int32)) = 0)) → Q S (1 : Int32))) : V_X10_has_0 l G x0 x1 S Q := by
  refine mj_iload_n dX10_has_0 rfl rfl ?_
  refine mj_iload_n dX10_has_1 rfl rfl ?_
  refine mj_ishr dX10_has_2 ?_
  refine mj_iconst (v := 1) dX10_has_3 (by decide) ?_
  refine mj_iand dX10_has_4 ?_
  refine mj_if_eq (tgt := 12) dX10_has_5 (by decide) ⟨fun hc => ?_, fun hc => ?_⟩
  · replace h := h.1 hc
    refine mj_iconst (v := 0) dX10_has_12 (by decide) ?_
    exact mj_retz dX10_has_13 rfl (rfl) ⟨Nat.le_of_ble_eq_true rfl, Nat.le_of_ble_eq_true rfl⟩ h
  · replace h := h.2 hc
    refine mj_iconst (v := 1) dX10_has_8 (by decide) ?_
    refine mj_goto (tgt := 13) dX10_has_9 (by decide) ?_
    exact mj_retz dX10_has_13 rfl (rfl) ⟨Nat.le_of_ble_eq_true rfl, Nat.le_of_ble_eq_true rfl⟩ h
abbrev V_X10_within_0 (l : Launch) (G : mj_G) (x0 : Int32) (x1 : Int32) (x2 : Int32) (S : mj_S) (Q : mj_S → Int32 → Prop) : Prop := mj_V l G (mj_room 1 0 0) RX10 cX10_within 3 (some .boolean) false 0 [some (.int x0), some (.int x1), some (.int x2)] [] S 0 0 (mj_std G (some .boolean) (mj_room 1 0 0) (mj_qi Q))
theorem e_X10_within {l : Launch} {G : mj_G} {x0 : Int32} {x1 : Int32} {x2 : Int32} {S : mj_S} {Q : mj_S → Int32 → Prop} (h : V_X10_within_0 l G x0 x1 x2 S Q) : M_X10_within l G x0 x1 x2 S Q := mj_enter (r := 0) (ini := false) (by decide +kernel) (fun h => by cases h) (fun _ => Nat.le_of_ble_eq_true rfl) rfl h
set_option maxRecDepth 20000 in
set_option maxHeartbeats 1000000 in
theorem b_X10_within_0 {l : Launch} {G : mj_G} {x0 : Int32} {x1 : Int32} {x2 : Int32} {S : mj_S} {Q : mj_S → Int32 → Prop} (h : ((x0 < x1) → Q S (0 : Int32)) ∧ ((¬ (x0 < x1)) → ((x2 < x0) → Q S (0 : Int32)) ∧ ((¬ (x2 < x0)) → Q S (1 : Int32)))) : V_X10_within_0 l G x0 x1 x2 S Q := by
  refine mj_iload_n dX10_within_0 rfl rfl ?_
  refine mj_iload_n dX10_within_1 rfl rfl ?_
  refine mj_icmp_lt (tgt := 14) dX10_within_2 (by decide) ⟨fun hc => ?_, fun hc => ?_⟩
  · replace h := h.1 hc
    refine mj_iconst (v := 0) dX10_within_14 (by decide) ?_
    exact mj_retz dX10_within_15 rfl (rfl) ⟨Nat.le_of_ble_eq_true rfl, Nat.le_of_ble_eq_true rfl⟩ h
  · replace h := h.2 hc
    refine mj_iload_n dX10_within_5 rfl rfl ?_
    refine mj_iload_n dX10_within_6 rfl rfl ?_
    refine mj_icmp_gt (tgt := 14) dX10_within_7 (by decide) ⟨fun hc => ?_, fun hc => ?_⟩
    · replace h := h.1 hc
      refine mj_iconst (v := 0) dX10_within_14 (by decide) ?_
      exact mj_retz dX10_within_15 rfl (rfl) ⟨Nat.le_of_ble_eq_true rfl, Nat.le_of_ble_eq_true rfl⟩ h
    · replace h := h.2 hc
      refine mj_iconst (v := 1) dX10_within_10 (by decide) ?_
      refine mj_goto (tgt := 15) dX10_within_11 (by decide) ?_
      exact mj_retz dX10_within_15 rfl (rfl) ⟨Nat.le_of_ble_eq_true rfl, Nat.le_of_ble_eq_true rfl⟩ h
abbrev V_X10_rule_0 (l : Launch) (G : mj_G) (a0 : Nat) (x1 : Int32) (S : mj_S) (Q : mj_S → Int32 → Prop) : Prop := mj_V l G (mj_room 2 0 0) RX10 cX10_rule 2 (some .int) false 0 [some (.ref a0), some (.int x1)] [] S 0 0 (mj_std G (some .int) (mj_room 2 0 0) (mj_qi Q))
theorem e_X10_rule {l : Launch} {G : mj_G} {a0 : Nat} {x1 : Int32} {S : mj_S} {Q : mj_S → Int32 → Prop} (h : V_X10_rule_0 l G a0 x1 S Q) : M_X10_rule l G a0 x1 S Q := mj_enter (r := 0) (ini := false) (by decide +kernel) (fun h => by cases h) (fun _ => Nat.le_of_ble_eq_true rfl) rfl h
set_option maxRecDepth 20000 in
set_option maxHeartbeats 1000000 in
theorem b_X10_rule_0 {l : Launch} {G : mj_G} {a0 : Nat} {x1 : Int32} {S : mj_S} {Q : mj_S → Int32 → Prop} (hk_a0 : m_kd S a0 = 9) (h : M_X10_hasRoom l G a0 S (fun S1 r2 => ((¬ r2 = 0) → (x1.toInt < 0 ∨ 3 < x1.toInt → Q S1 (-1 : Int32)) ∧ (x1.toInt = 0 → ∃ b3, m_gp S1 a0 5 = some b3 ∧ (Q S1 (m_gi S1 b3 0))) ∧ (x1.toInt = 1 → ∃ b4, m_gp S1 a0 5 = some b4 ∧ (Q S1 (m_gi S1 b4 1))) ∧ (x1.toInt = 2 → ∃ b5, m_gp S1 a0 5 = some b5 ∧ (Q S1 (m_gi S1 b5 2))) ∧ (x1.toInt = 3 → ∃ b6, m_gp S1 a0 5 = some b6 ∧ (Q S1 (m_gi S1 b6 3)))) ∧ ((r2 = 0) → Q S1 (-1 : Int32)))) : V_X10_rule_0 l G a0 x1 S Q := by
  refine mj_aload_n dX10_rule_0 rfl rfl ?_
  refine mj_callVi (as := []) (st := []) dX10_rule_1 cal_X10_hasRoom lk_X10_152 im_X10_hasRoom se_X10_hasRoom (ci := 9) rfl (by decide) hk_a0 h rfl (Nat.le_of_ble_eq_true rfl) (by decide) ⟨Nat.le_of_ble_eq_true rfl, Nat.le_of_ble_eq_true rfl⟩ (fun S1 r2 h hn_r2 hp => ?_)
  have hk_a0 : m_kd S1 a0 = 9 := m_kd_pre hp hk_a0 (by decide)
  refine mj_if_ne (tgt := 9) dX10_rule_4 (by decide) ⟨fun hc => ?_, fun hc => ?_⟩
  · replace h := h.1 hc
    refine mj_iload_n dX10_rule_9 rfl rfl ?_
    by_cases hlo : x1.toInt < 0 ∨ 3 < x1.toInt
    · replace h := h.1 hlo
      refine mj_tabOut (tgt := 72) dX10_rule_10 hlo (by decide) ?_
      refine mj_iconst (v := (-1)) dX10_rule_72 (by decide) ?_
      exact mj_reti dX10_rule_73 rfl ⟨Nat.le_of_ble_eq_true rfl, Nat.le_of_ble_eq_true rfl⟩ h
    · replace h := h.2
      rcases (show x1.toInt = 0 ∨ x1.toInt = 1 ∨ x1.toInt = 2 ∨ x1.toInt = 3 by omega) with e | e | e | e
      · replace h := h.1 e
        refine mj_tabIn (tgt := 40) (off := 30) dX10_rule_10 (by omega) (by omega) (by rw [e]; rfl) (by decide) ?_
        refine mj_aload_n dX10_rule_40 rfl rfl ?_
        obtain ⟨b3, eb3, h⟩ := h
        refine mj_getP dX10_rule_41 fl_X10_41_9 hk_a0 rfl ⟨b3, eb3, fun hk_b3 => ?_⟩
        refine mj_getI dX10_rule_44 fl_X10_156_5 hk_b3 rfl ?_
        exact mj_reti dX10_rule_47 rfl ⟨Nat.le_of_ble_eq_true rfl, Nat.le_of_ble_eq_true rfl⟩ h
      · replace h := h.2.1 e
        refine mj_tabIn (tgt := 48) (off := 38) dX10_rule_10 (by omega) (by omega) (by rw [e]; rfl) (by decide) ?_
        refine mj_aload_n dX10_rule_48 rfl rfl ?_
        obtain ⟨b4, eb4, h⟩ := h
        refine mj_getP dX10_rule_49 fl_X10_41_9 hk_a0 rfl ⟨b4, eb4, fun hk_b4 => ?_⟩
        refine mj_getI dX10_rule_52 fl_X10_159_5 hk_b4 rfl ?_
        exact mj_reti dX10_rule_55 rfl ⟨Nat.le_of_ble_eq_true rfl, Nat.le_of_ble_eq_true rfl⟩ h
      · replace h := h.2.2.1 e
        refine mj_tabIn (tgt := 56) (off := 46) dX10_rule_10 (by omega) (by omega) (by rw [e]; rfl) (by decide) ?_
        refine mj_aload_n dX10_rule_56 rfl rfl ?_
        obtain ⟨b5, eb5, h⟩ := h
        refine mj_getP dX10_rule_57 fl_X10_41_9 hk_a0 rfl ⟨b5, eb5, fun hk_b5 => ?_⟩
        refine mj_getI dX10_rule_60 fl_X10_162_5 hk_b5 rfl ?_
        exact mj_reti dX10_rule_63 rfl ⟨Nat.le_of_ble_eq_true rfl, Nat.le_of_ble_eq_true rfl⟩ h
      · replace h := h.2.2.2 e
        refine mj_tabIn (tgt := 64) (off := 54) dX10_rule_10 (by omega) (by omega) (by rw [e]; rfl) (by decide) ?_
        refine mj_aload_n dX10_rule_64 rfl rfl ?_
        obtain ⟨b6, eb6, h⟩ := h
        refine mj_getP dX10_rule_65 fl_X10_41_9 hk_a0 rfl ⟨b6, eb6, fun hk_b6 => ?_⟩
        refine mj_getI dX10_rule_68 fl_X10_165_5 hk_b6 rfl ?_
        exact mj_reti dX10_rule_71 rfl ⟨Nat.le_of_ble_eq_true rfl, Nat.le_of_ble_eq_true rfl⟩ h
  · replace h := h.2 hc
    refine mj_iconst (v := (-1)) dX10_rule_7 (by decide) ?_
    exact mj_reti dX10_rule_8 rfl ⟨Nat.le_of_ble_eq_true rfl, Nat.le_of_ble_eq_true rfl⟩ h
abbrev V_X10_curtain_0 (l : Launch) (G : mj_G) (a0 : Nat) (x1 : Int32) (x2 : Int32) (S : mj_S) (Q : mj_S → Int32 → Prop) : Prop := mj_V l G (mj_room 5 0 0) RX10 cX10_curtain 3 (some .int) false 0 [some (.ref a0), some (.int x1), some (.int x2)] [] S 0 0 (mj_std G (some .int) (mj_room 5 0 0) (mj_qi Q))
theorem e_X10_curtain {l : Launch} {G : mj_G} {a0 : Nat} {x1 : Int32} {x2 : Int32} {S : mj_S} {Q : mj_S → Int32 → Prop} (h : V_X10_curtain_0 l G a0 x1 x2 S Q) : M_X10_curtain l G a0 x1 x2 S Q := mj_enter (r := 0) (ini := false) (by decide +kernel) (fun h => by cases h) (fun _ => Nat.le_of_ble_eq_true rfl) rfl h
set_option maxRecDepth 20000 in
set_option maxHeartbeats 1000000 in
theorem b_X10_curtain_0 {l : Launch} {G : mj_G} {a0 : Nat} {x1 : Int32} {x2 : Int32} {S : mj_S} {Q : mj_S → Int32 → Prop} (hk_a0 : m_kd S a0 = 9) (h : M_X10_isCurtain l G a0 x1 S (fun S1 r2 => ((¬ r2 = 0) → (x2.toInt < 0 ∨ 7 < x2.toInt → Q S1 (-1 : Int32)) ∧ (x2.toInt = 0 → ∃ b3, m_gp S1 a0 5 = some b3 ∧ (∃ b4, m_gp S1 b3 8 = some b4 ∧ (vp_in x1 (m_ln S1 b4) ∧ (Q S1 (m_gi S1 b4 (x1).toNatClampNeg))))) ∧ (x2.toInt = 1 → ∃ b5, m_gp S1 a0 5 = some b5 ∧ (∃ b6, m_gp S1 b5 9 = some b6 ∧ (vp_in x1 (m_ln S1 b6) ∧ (Q S1 (m_gi S1 b6 (x1).toNatClampNeg))))) ∧ (x2.toInt = 2 → ∃ b7, m_gp S1 a0 5 = some b7 ∧ (∃ b8, m_gp S1 b7 11 = some b8 ∧ (vp_in x1 (m_ln S1 b8) ∧ (Q S1 (m_gi S1 b8 (x1).toNatClampNeg))))) ∧ (x2.toInt = 3 → ∃ b9, m_gp S1 a0 7 = some b9 ∧ (∃ b10, m_gp S1 b9 1 = some b10 ∧ (vp_in x1 (m_ln S1 b10) ∧ (Q S1 (m_gi S1 b10 (x1).toNatClampNeg))))) ∧ (x2.toInt = 4 → ∃ b11, m_gp S1 a0 5 = some b11 ∧ (∃ b12, m_gp S1 b11 12 = some b12 ∧ (vp_in x1 (m_ln S1 b12) ∧ (Q S1 (m_gi S1 b12 (x1).toNatClampNeg))))) ∧ (x2.toInt = 5 → ∃ b13, m_gp S1 a0 7 = some b13 ∧ (M_X10_has l G (m_gi S1 b13 3) x1 S1 (fun S14 r15 => ((r15 = 0) → Q S14 (0 : Int32)) ∧ ((¬ (r15 = 0)) → Q S14 (1 : Int32))))) ∧ (x2.toInt = 6 → ∃ b16, m_gp S1 a0 7 = some b16 ∧ (M_X8_hung l G b16 S1 (fun S17 r18 => M_X10_has l G r18 x1 S17 (fun S19 r20 => ((r20 = 0) → Q S19 (0 : Int32)) ∧ ((¬ (r20 = 0)) → Q S19 (1 : Int32)))))) ∧ (x2.toInt = 7 → ∃ b21, m_gp S1 a0 4 = some b21 ∧ (∃ b22, m_gp S1 a0 7 = some b22 ∧ (M_X2_takes l G b21 b22 x1 S1 (fun S23 r24 => Q S23 r24))))) ∧ ((r2 = 0) → Q S1 (-1 : Int32)))) : V_X10_curtain_0 l G a0 x1 x2 S Q := by
  refine mj_aload_n dX10_curtain_0 rfl rfl ?_
  refine mj_iload_n dX10_curtain_1 rfl rfl ?_
  refine mj_callVi (as := [.int x1]) (st := []) dX10_curtain_2 cal_X10_isCurtain lk_X10_168 im_X10_isCurtain se_X10_isCurtain (ci := 9) rfl (by decide) hk_a0 h rfl (Nat.le_of_ble_eq_true rfl) (by decide) ⟨Nat.le_of_ble_eq_true rfl, Nat.le_of_ble_eq_true rfl⟩ (fun S1 r2 h hn_r2 hp => ?_)
  have hk_a0 : m_kd S1 a0 = 9 := m_kd_pre hp hk_a0 (by decide)
  refine mj_if_ne (tgt := 10) dX10_curtain_5 (by decide) ⟨fun hc => ?_, fun hc => ?_⟩
  · replace h := h.1 hc
    refine mj_iload_n dX10_curtain_10 rfl rfl ?_
    by_cases hlo : x2.toInt < 0 ∨ 7 < x2.toInt
    · replace h := h.1 hlo
      refine mj_tabOut (tgt := 159) dX10_curtain_11 hlo (by decide) ?_
      refine mj_iconst (v := (-1)) dX10_curtain_159 (by decide) ?_
      exact mj_reti dX10_curtain_160 rfl ⟨Nat.le_of_ble_eq_true rfl, Nat.le_of_ble_eq_true rfl⟩ h
    · replace h := h.2
      rcases (show x2.toInt = 0 ∨ x2.toInt = 1 ∨ x2.toInt = 2 ∨ x2.toInt = 3 ∨ x2.toInt = 4 ∨ x2.toInt = 5 ∨ x2.toInt = 6 ∨ x2.toInt = 7 by omega) with e | e | e | e | e | e | e | e
      · replace h := h.1 e
        refine mj_tabIn (tgt := 56) (off := 45) dX10_curtain_11 (by omega) (by omega) (by rw [e]; rfl) (by decide) ?_
        refine mj_aload_n dX10_curtain_56 rfl rfl ?_
        obtain ⟨b3, eb3, h⟩ := h
        refine mj_getP dX10_curtain_57 fl_X10_41_9 hk_a0 rfl ⟨b3, eb3, fun hk_b3 => ?_⟩
        obtain ⟨b4, eb4, h⟩ := h
        refine mj_getP dX10_curtain_60 fl_X10_172_5 hk_b3 rfl ⟨b4, eb4, fun hk_b4 => ?_⟩
        refine mj_iload_n dX10_curtain_63 rfl rfl ?_
        refine mj_iald dX10_curtain_64 (Or.inl hk_b4) ⟨h.1, ?_⟩
        replace h := h.2
        exact mj_reti dX10_curtain_65 rfl ⟨Nat.le_of_ble_eq_true rfl, Nat.le_of_ble_eq_true rfl⟩ h
      · replace h := h.2.1 e
        refine mj_tabIn (tgt := 66) (off := 55) dX10_curtain_11 (by omega) (by omega) (by rw [e]; rfl) (by decide) ?_
        refine mj_aload_n dX10_curtain_66 rfl rfl ?_
        obtain ⟨b5, eb5, h⟩ := h
        refine mj_getP dX10_curtain_67 fl_X10_41_9 hk_a0 rfl ⟨b5, eb5, fun hk_b5 => ?_⟩
        obtain ⟨b6, eb6, h⟩ := h
        refine mj_getP dX10_curtain_70 fl_X10_175_5 hk_b5 rfl ⟨b6, eb6, fun hk_b6 => ?_⟩
        refine mj_iload_n dX10_curtain_73 rfl rfl ?_
        refine mj_iald dX10_curtain_74 (Or.inl hk_b6) ⟨h.1, ?_⟩
        replace h := h.2
        exact mj_reti dX10_curtain_75 rfl ⟨Nat.le_of_ble_eq_true rfl, Nat.le_of_ble_eq_true rfl⟩ h
      · replace h := h.2.2.1 e
        refine mj_tabIn (tgt := 76) (off := 65) dX10_curtain_11 (by omega) (by omega) (by rw [e]; rfl) (by decide) ?_
        refine mj_aload_n dX10_curtain_76 rfl rfl ?_
        obtain ⟨b7, eb7, h⟩ := h
        refine mj_getP dX10_curtain_77 fl_X10_41_9 hk_a0 rfl ⟨b7, eb7, fun hk_b7 => ?_⟩
        obtain ⟨b8, eb8, h⟩ := h
        refine mj_getP dX10_curtain_80 fl_X10_178_5 hk_b7 rfl ⟨b8, eb8, fun hk_b8 => ?_⟩
        refine mj_iload_n dX10_curtain_83 rfl rfl ?_
        refine mj_iald dX10_curtain_84 (Or.inl hk_b8) ⟨h.1, ?_⟩
        replace h := h.2
        exact mj_reti dX10_curtain_85 rfl ⟨Nat.le_of_ble_eq_true rfl, Nat.le_of_ble_eq_true rfl⟩ h
      · replace h := h.2.2.2.1 e
        refine mj_tabIn (tgt := 86) (off := 75) dX10_curtain_11 (by omega) (by omega) (by rw [e]; rfl) (by decide) ?_
        refine mj_aload_n dX10_curtain_86 rfl rfl ?_
        obtain ⟨b9, eb9, h⟩ := h
        refine mj_getP dX10_curtain_87 fl_X10_51_9 hk_a0 rfl ⟨b9, eb9, fun hk_b9 => ?_⟩
        obtain ⟨b10, eb10, h⟩ := h
        refine mj_getP dX10_curtain_90 fl_X10_181_7 hk_b9 rfl ⟨b10, eb10, fun hk_b10 => ?_⟩
        refine mj_iload_n dX10_curtain_93 rfl rfl ?_
        refine mj_iald dX10_curtain_94 (Or.inl hk_b10) ⟨h.1, ?_⟩
        replace h := h.2
        exact mj_reti dX10_curtain_95 rfl ⟨Nat.le_of_ble_eq_true rfl, Nat.le_of_ble_eq_true rfl⟩ h
      · replace h := h.2.2.2.2.1 e
        refine mj_tabIn (tgt := 96) (off := 85) dX10_curtain_11 (by omega) (by omega) (by rw [e]; rfl) (by decide) ?_
        refine mj_aload_n dX10_curtain_96 rfl rfl ?_
        obtain ⟨b11, eb11, h⟩ := h
        refine mj_getP dX10_curtain_97 fl_X10_41_9 hk_a0 rfl ⟨b11, eb11, fun hk_b11 => ?_⟩
        obtain ⟨b12, eb12, h⟩ := h
        refine mj_getP dX10_curtain_100 fl_X10_184_5 hk_b11 rfl ⟨b12, eb12, fun hk_b12 => ?_⟩
        refine mj_iload_n dX10_curtain_103 rfl rfl ?_
        refine mj_iald dX10_curtain_104 (Or.inl hk_b12) ⟨h.1, ?_⟩
        replace h := h.2
        exact mj_reti dX10_curtain_105 rfl ⟨Nat.le_of_ble_eq_true rfl, Nat.le_of_ble_eq_true rfl⟩ h
      · replace h := h.2.2.2.2.2.1 e
        refine mj_tabIn (tgt := 106) (off := 95) dX10_curtain_11 (by omega) (by omega) (by rw [e]; rfl) (by decide) ?_
        refine mj_aload_n dX10_curtain_106 rfl rfl ?_
        obtain ⟨b13, eb13, h⟩ := h
        refine mj_getP dX10_curtain_107 fl_X10_51_9 hk_a0 rfl ⟨b13, eb13, fun hk_b13 => ?_⟩
        refine mj_getI dX10_curtain_110 fl_X10_187_7 hk_b13 rfl ?_
        refine mj_iload_n dX10_curtain_113 rfl rfl ?_
        refine mj_callSi (as := [.int (m_gi S1 b13 3), .int x1]) (st := []) dX10_curtain_114 cal_X10_has lk_X10_190 sm_X10_has h rfl (Nat.le_of_ble_eq_true rfl) (by decide) ⟨Nat.le_of_ble_eq_true rfl, Nat.le_of_ble_eq_true rfl⟩ (fun S14 r15 h hn_r15 hp => ?_)
        have hk_a0 : m_kd S14 a0 = 9 := m_kd_pre hp hk_a0 (by decide)
        have hk_b13 : m_kd S14 b13 = 7 := m_kd_pre hp hk_b13 (by decide)
        refine mj_if_eq (tgt := 124) dX10_curtain_117 (by decide) ⟨fun hc => ?_, fun hc => ?_⟩
        · replace h := h.1 hc
          refine mj_iconst (v := 0) dX10_curtain_124 (by decide) ?_
          exact mj_reti dX10_curtain_125 rfl ⟨Nat.le_of_ble_eq_true rfl, Nat.le_of_ble_eq_true rfl⟩ h
        · replace h := h.2 hc
          refine mj_iconst (v := 1) dX10_curtain_120 (by decide) ?_
          refine mj_goto (tgt := 125) dX10_curtain_121 (by decide) ?_
          exact mj_reti dX10_curtain_125 rfl ⟨Nat.le_of_ble_eq_true rfl, Nat.le_of_ble_eq_true rfl⟩ h
      · replace h := h.2.2.2.2.2.2.1 e
        refine mj_tabIn (tgt := 126) (off := 115) dX10_curtain_11 (by omega) (by omega) (by rw [e]; rfl) (by decide) ?_
        refine mj_aload_n dX10_curtain_126 rfl rfl ?_
        obtain ⟨b16, eb16, h⟩ := h
        refine mj_getP dX10_curtain_127 fl_X10_51_9 hk_a0 rfl ⟨b16, eb16, fun hk_b16 => ?_⟩
        refine mj_callVi (as := []) (st := []) dX10_curtain_130 cal_X8_hung lk_X10_194 im_X8_hung se_X8_hung (ci := 7) rfl (by decide) hk_b16 h rfl (Nat.le_of_ble_eq_true rfl) (by decide) ⟨Nat.le_of_ble_eq_true rfl, Nat.le_of_ble_eq_true rfl⟩ (fun S17 r18 h hn_r18 hp => ?_)
        have hk_a0 : m_kd S17 a0 = 9 := m_kd_pre hp hk_a0 (by decide)
        have hk_b16 : m_kd S17 b16 = 7 := m_kd_pre hp hk_b16 (by decide)
        refine mj_iload_n dX10_curtain_133 rfl rfl ?_
        refine mj_callSi (as := [.int r18, .int x1]) (st := []) dX10_curtain_134 cal_X10_has lk_X10_190 sm_X10_has h rfl (Nat.le_of_ble_eq_true rfl) (by decide) ⟨Nat.le_of_ble_eq_true rfl, Nat.le_of_ble_eq_true rfl⟩ (fun S19 r20 h hn_r20 hp => ?_)
        have hk_a0 : m_kd S19 a0 = 9 := m_kd_pre hp hk_a0 (by decide)
        have hk_b16 : m_kd S19 b16 = 7 := m_kd_pre hp hk_b16 (by decide)
        refine mj_if_eq (tgt := 144) dX10_curtain_137 (by decide) ⟨fun hc => ?_, fun hc => ?_⟩
        · replace h := h.1 hc
          refine mj_iconst (v := 0) dX10_curtain_144 (by decide) ?_
          exact mj_reti dX10_curtain_145 rfl ⟨Nat.le_of_ble_eq_true rfl, Nat.le_of_ble_eq_true rfl⟩ h
        · replace h := h.2 hc
          refine mj_iconst (v := 1) dX10_curtain_140 (by decide) ?_
          refine mj_goto (tgt := 145) dX10_curtain_141 (by decide) ?_
          exact mj_reti dX10_curtain_145 rfl ⟨Nat.le_of_ble_eq_true rfl, Nat.le_of_ble_eq_true rfl⟩ h
      · replace h := h.2.2.2.2.2.2.2 e
        refine mj_tabIn (tgt := 146) (off := 135) dX10_curtain_11 (by omega) (by omega) (by rw [e]; rfl) (by decide) ?_
        refine mj_aload_n dX10_curtain_146 rfl rfl ?_
        obtain ⟨b21, eb21, h⟩ := h
        refine mj_getP dX10_curtain_147 fl_X10_34_9 hk_a0 rfl ⟨b21, eb21, fun hk_b21 => ?_⟩
        refine mj_aload_n dX10_curtain_150 rfl rfl ?_
        obtain ⟨b22, eb22, h⟩ := h
        refine mj_getP dX10_curtain_151 fl_X10_51_9 hk_a0 rfl ⟨b22, eb22, fun hk_b22 => ?_⟩
        refine mj_iload_n dX10_curtain_154 rfl rfl ?_
        refine mj_callVi (as := [.ref b22, .int x1]) (st := []) dX10_curtain_155 cal_X2_takes lk_X10_197 im_X2_takes se_X2_takes (ci := 2) rfl (by decide) hk_b21 h rfl (Nat.le_of_ble_eq_true rfl) (by decide) ⟨Nat.le_of_ble_eq_true rfl, Nat.le_of_ble_eq_true rfl⟩ (fun S23 r24 h hn_r24 hp => ?_)
        have hk_a0 : m_kd S23 a0 = 9 := m_kd_pre hp hk_a0 (by decide)
        have hk_b21 : m_kd S23 b21 = 2 := m_kd_pre hp hk_b21 (by decide)
        have hk_b22 : m_kd S23 b22 = 7 := m_kd_pre hp hk_b22 (by decide)
        exact mj_reti dX10_curtain_158 rfl ⟨Nat.le_of_ble_eq_true rfl, Nat.le_of_ble_eq_true rfl⟩ h
  · replace h := h.2 hc
    refine mj_iconst (v := (-1)) dX10_curtain_8 (by decide) ?_
    exact mj_reti dX10_curtain_9 rfl ⟨Nat.le_of_ble_eq_true rfl, Nat.le_of_ble_eq_true rfl⟩ h
abbrev V_X10_law_0 (l : Launch) (G : mj_G) (a0 : Nat) (x1 : Int32) (S : mj_S) (Q : mj_S → Int32 → Prop) : Prop := mj_V l G (mj_room 1 0 0) RX10 cX10_law 2 (some .boolean) false 0 [some (.ref a0), some (.int x1)] [] S 0 0 (mj_std G (some .boolean) (mj_room 1 0 0) (mj_qi Q))
theorem e_X10_law {l : Launch} {G : mj_G} {a0 : Nat} {x1 : Int32} {S : mj_S} {Q : mj_S → Int32 → Prop} (h : V_X10_law_0 l G a0 x1 S Q) : M_X10_law l G a0 x1 S Q := mj_enter (r := 0) (ini := false) (by decide +kernel) (fun h => by cases h) (fun _ => Nat.le_of_ble_eq_true rfl) rfl h
set_option maxRecDepth 20000 in
set_option maxHeartbeats 1000000 in
theorem b_X10_law_0 {l : Launch} {G : mj_G} {a0 : Nat} {x1 : Int32} {S : mj_S} {Q : mj_S → Int32 → Prop} (hk_a0 : m_kd S a0 = 9) (h : ((x1 < (-1 : Int32)) → Q S (0 : Int32)) ∧ ((¬ (x1 < (-1 : Int32))) → ∃ b1, m_gp S a0 4 = some b1 ∧ (((x1 < (m_gi S b1 0)) → ∃ b2, m_gp S a0 4 = some b2 ∧ (∀ S3 : mj_S, S3 = m_si S b2 1 x1 → Q S3 (1 : Int32))) ∧ ((¬ (x1 < (m_gi S b1 0))) → Q S (0 : Int32))))) : V_X10_law_0 l G a0 x1 S Q := by
  refine mj_iload_n dX10_law_0 rfl rfl ?_
  refine mj_iconst (v := (-1)) dX10_law_1 (by decide) ?_
  refine mj_icmp_lt (tgt := 16) dX10_law_2 (by decide) ⟨fun hc => ?_, fun hc => ?_⟩
  · replace h := h.1 hc
    refine mj_iconst (v := 0) dX10_law_16 (by decide) ?_
    exact mj_retz dX10_law_17 rfl (rfl) ⟨Nat.le_of_ble_eq_true rfl, Nat.le_of_ble_eq_true rfl⟩ h
  · replace h := h.2 hc
    refine mj_iload_n dX10_law_5 rfl rfl ?_
    refine mj_aload_n dX10_law_6 rfl rfl ?_
    obtain ⟨b1, eb1, h⟩ := h
    refine mj_getP dX10_law_7 fl_X10_34_9 hk_a0 rfl ⟨b1, eb1, fun hk_b1 => ?_⟩
    refine mj_getI dX10_law_10 fl_X10_124_2 hk_b1 rfl ?_
    refine mj_icmp_lt (tgt := 18) dX10_law_13 (by decide) ⟨fun hc => ?_, fun hc => ?_⟩
    · replace h := h.1 hc
      refine mj_aload_n dX10_law_18 rfl rfl ?_
      obtain ⟨b2, eb2, h⟩ := h
      refine mj_getP dX10_law_19 fl_X10_34_9 hk_a0 rfl ⟨b2, eb2, fun hk_b2 => ?_⟩
      refine mj_iload_n dX10_law_22 rfl rfl ?_
      refine mj_putI dX10_law_23 fl_X10_226_2 hk_b2 (Or.inl rfl) rfl rfl rfl ?_
      obtain ⟨S3, eS3⟩ : ∃ z, z = m_si S b2 1 x1 := ⟨_, rfl⟩
      rw [← eS3]
      replace h := h S3 eS3
      have hk_a0 : m_kd S3 a0 = 9 := by rw [eS3]; exact hk_a0
      have hk_b1 : m_kd S3 b1 = 2 := by rw [eS3]; exact hk_b1
      have hk_b2 : m_kd S3 b2 = 2 := by rw [eS3]; exact hk_b2
      refine mj_iconst (v := 1) dX10_law_26 (by decide) ?_
      exact mj_retz dX10_law_27 rfl (rfl) ⟨Nat.le_of_ble_eq_true rfl, Nat.le_of_ble_eq_true rfl⟩ h
    · replace h := h.2 hc
      refine mj_iconst (v := 0) dX10_law_16 (by decide) ?_
      exact mj_retz dX10_law_17 rfl (rfl) ⟨Nat.le_of_ble_eq_true rfl, Nat.le_of_ble_eq_true rfl⟩ h
abbrev V_X10_lowest_0 (l : Launch) (G : mj_G) (x0 : Int32) (S : mj_S) (Q : mj_S → Int32 → Prop) : Prop := mj_V l G (mj_room 2 0 0) RX10 cX10_lowest 1 (some .int) false 0 [some (.int x0)] [] S 0 0 (mj_std G (some .int) (mj_room 2 0 0) (mj_qi Q))
theorem e_X10_lowest {l : Launch} {G : mj_G} {x0 : Int32} {S : mj_S} {Q : mj_S → Int32 → Prop} (h : V_X10_lowest_0 l G x0 S Q) : M_X10_lowest l G x0 S Q := mj_enter (r := 0) (ini := false) (by decide +kernel) (fun h => by cases h) (fun _ => Nat.le_of_ble_eq_true rfl) rfl h
set_option maxRecDepth 20000 in
set_option maxHeartbeats 1000000 in
theorem b_X10_lowest_0 {l : Launch} {G : mj_G} {x0 : Int32} {S : mj_S} {Q : mj_S → Int32 → Prop} (h : ((¬ x0 = 0) → M_J6_numberOfTrailingZeros_0f7a4 l G x0 S (fun S1 r2 => Q S1 r2)) ∧ ((x0 = 0) → Q S (-1 : Int32))) : V_X10_lowest_0 l G x0 S Q := by
  refine mj_iload_n dX10_lowest_0 rfl rfl ?_
  refine mj_if_ne (tgt := 8) dX10_lowest_1 (by decide) ⟨fun hc => ?_, fun hc => ?_⟩
  · replace h := h.1 hc
    refine mj_iload_n dX10_lowest_8 rfl rfl ?_
    refine mj_callSi (as := [.int x0]) (st := []) dX10_lowest_9 cal_J6_numberOfTrailingZeros_0f7a4 lk_X10_229 sm_J6_numberOfTrailingZeros_0f7a4 h rfl (Nat.le_of_ble_eq_true rfl) (by decide) ⟨Nat.le_of_ble_eq_true rfl, Nat.le_of_ble_eq_true rfl⟩ (fun S1 r2 h hn_r2 hp => ?_)
    exact mj_reti dX10_lowest_12 rfl ⟨Nat.le_of_ble_eq_true rfl, Nat.le_of_ble_eq_true rfl⟩ h
  · replace h := h.2 hc
    refine mj_iconst (v := (-1)) dX10_lowest_4 (by decide) ?_
    refine mj_goto (tgt := 12) dX10_lowest_5 (by decide) ?_
    exact mj_reti dX10_lowest_12 rfl ⟨Nat.le_of_ble_eq_true rfl, Nat.le_of_ble_eq_true rfl⟩ h
abbrev V_X10_stateAround_0 (l : Launch) (G : mj_G) (a0 : Nat) (x1 : Int32) (S : mj_S) (Q : mj_S → Int32 → Prop) : Prop := mj_V l G (mj_room 3 0 0) RX10 cX10_stateAround 2 (some .int) false 0 [some (.ref a0), some (.int x1)] [] S 0 0 (mj_std G (some .int) (mj_room 3 0 0) (mj_qi Q))
theorem e_X10_stateAround {l : Launch} {G : mj_G} {a0 : Nat} {x1 : Int32} {S : mj_S} {Q : mj_S → Int32 → Prop} (h : V_X10_stateAround_0 l G a0 x1 S Q) : M_X10_stateAround l G a0 x1 S Q := mj_enter (r := 0) (ini := false) (by decide +kernel) (fun h => by cases h) (fun _ => Nat.le_of_ble_eq_true rfl) rfl h
set_option maxRecDepth 20000 in
set_option maxHeartbeats 1000000 in
theorem b_X10_stateAround_0 {l : Launch} {G : mj_G} {a0 : Nat} {x1 : Int32} {S : mj_S} {Q : mj_S → Int32 → Prop} (hk_a0 : m_kd S a0 = 9) (h : ∃ b1, m_gp S a0 10 = some b1 ∧ (∃ b2, m_gp S a0 5 = some b2 ∧ (∃ b3, m_gp S a0 7 = some b3 ∧ (M_X8_hung l G b3 S (fun S4 r5 => M_X0_part l G b1 b2 r5 S4 (fun S6 => ∃ b7, m_gp S6 a0 10 = some b7 ∧ (M_X0_reach l G b7 ((1 : Int32) <<< (x1 &&& 31)) S6 (fun S8 r9 => Q S8 r9)))))))) : V_X10_stateAround_0 l G a0 x1 S Q := by
  refine mj_aload_n dX10_stateAround_0 rfl rfl ?_
  obtain ⟨b1, eb1, h⟩ := h
  refine mj_getP dX10_stateAround_1 fl_X10_68_9 hk_a0 rfl ⟨b1, eb1, fun hk_b1 => ?_⟩
  refine mj_aload_n dX10_stateAround_4 rfl rfl ?_
  obtain ⟨b2, eb2, h⟩ := h
  refine mj_getP dX10_stateAround_5 fl_X10_41_9 hk_a0 rfl ⟨b2, eb2, fun hk_b2 => ?_⟩
  refine mj_aload_n dX10_stateAround_8 rfl rfl ?_
  obtain ⟨b3, eb3, h⟩ := h
  refine mj_getP dX10_stateAround_9 fl_X10_51_9 hk_a0 rfl ⟨b3, eb3, fun hk_b3 => ?_⟩
  refine mj_callVi (as := []) (st := [.ref b2, .ref b1]) dX10_stateAround_12 cal_X8_hung lk_X10_194 im_X8_hung se_X8_hung (ci := 7) rfl (by decide) hk_b3 h rfl (Nat.le_of_ble_eq_true rfl) (by decide) ⟨Nat.le_of_ble_eq_true rfl, Nat.le_of_ble_eq_true rfl⟩ (fun S4 r5 h hn_r5 hp => ?_)
  have hk_a0 : m_kd S4 a0 = 9 := m_kd_pre hp hk_a0 (by decide)
  have hk_b1 : m_kd S4 b1 = 0 := m_kd_pre hp hk_b1 (by decide)
  have hk_b2 : m_kd S4 b2 = 5 := m_kd_pre hp hk_b2 (by decide)
  have hk_b3 : m_kd S4 b3 = 7 := m_kd_pre hp hk_b3 (by decide)
  refine mj_callVv (as := [.ref b2, .int r5]) (st := []) dX10_stateAround_15 cal_X0_part lk_X10_234 im_X0_part se_X0_part (ci := 0) rfl (by decide) hk_b1 h rfl (Nat.le_of_ble_eq_true rfl) (by decide) ⟨Nat.le_of_ble_eq_true rfl, Nat.le_of_ble_eq_true rfl⟩ (fun S6 h hp => ?_)
  have hk_a0 : m_kd S6 a0 = 9 := m_kd_pre hp hk_a0 (by decide)
  have hk_b1 : m_kd S6 b1 = 0 := m_kd_pre hp hk_b1 (by decide)
  have hk_b2 : m_kd S6 b2 = 5 := m_kd_pre hp hk_b2 (by decide)
  have hk_b3 : m_kd S6 b3 = 7 := m_kd_pre hp hk_b3 (by decide)
  refine mj_aload_n dX10_stateAround_18 rfl rfl ?_
  obtain ⟨b7, eb7, h⟩ := h
  refine mj_getP dX10_stateAround_19 fl_X10_68_9 hk_a0 rfl ⟨b7, eb7, fun hk_b7 => ?_⟩
  refine mj_iconst (v := 1) dX10_stateAround_22 (by decide) ?_
  refine mj_iload_n dX10_stateAround_23 rfl rfl ?_
  refine mj_ishl dX10_stateAround_24 ?_
  refine mj_callVi (as := [.int ((1 : Int32) <<< (x1 &&& 31))]) (st := []) dX10_stateAround_25 cal_X0_reach lk_X10_238 im_X0_reach se_X0_reach (ci := 0) rfl (by decide) hk_b7 h rfl (Nat.le_of_ble_eq_true rfl) (by decide) ⟨Nat.le_of_ble_eq_true rfl, Nat.le_of_ble_eq_true rfl⟩ (fun S8 r9 h hn_r9 hp => ?_)
  have hk_a0 : m_kd S8 a0 = 9 := m_kd_pre hp hk_a0 (by decide)
  have hk_b1 : m_kd S8 b1 = 0 := m_kd_pre hp hk_b1 (by decide)
  have hk_b2 : m_kd S8 b2 = 5 := m_kd_pre hp hk_b2 (by decide)
  have hk_b3 : m_kd S8 b3 = 7 := m_kd_pre hp hk_b3 (by decide)
  have hk_b7 : m_kd S8 b7 = 0 := m_kd_pre hp hk_b7 (by decide)
  exact mj_reti dX10_stateAround_28 rfl ⟨Nat.le_of_ble_eq_true rfl, Nat.le_of_ble_eq_true rfl⟩ h
abbrev V_X10_statesOf_0 (l : Launch) (G : mj_G) (a0 : Nat) (a1 : Nat) (S : mj_S) (Q : mj_S → Int32 → Prop) : Prop := mj_V l G (mj_room 3 0 0) RX10 cX10_statesOf 2 (some .int) false 0 [some (.ref a0), some (.ref a1)] [] S 0 0 (mj_std G (some .int) (mj_room 3 0 0) (mj_qi Q))
theorem e_X10_statesOf {l : Launch} {G : mj_G} {a0 : Nat} {a1 : Nat} {S : mj_S} {Q : mj_S → Int32 → Prop} (h : V_X10_statesOf_0 l G a0 a1 S Q) : M_X10_statesOf l G a0 a1 S Q := mj_enter (r := 0) (ini := false) (by decide +kernel) (fun h => by cases h) (fun _ => Nat.le_of_ble_eq_true rfl) rfl h
set_option maxRecDepth 20000 in
set_option maxHeartbeats 1000000 in
theorem b_X10_statesOf_0 {l : Launch} {G : mj_G} {a0 : Nat} {a1 : Nat} {S : mj_S} {Q : mj_S → Int32 → Prop} (hk_a0 : m_kd S a0 = 9) (hk_a1 : m_kd S a1 = 7) (h : ∃ b1, m_gp S a0 10 = some b1 ∧ (∃ b2, m_gp S a0 5 = some b2 ∧ (M_X8_hung l G a1 S (fun S3 r4 => M_X0_part l G b1 b2 r4 S3 (fun S5 => ∃ b6, m_gp S5 a0 10 = some b6 ∧ (∃ b7, m_gp S5 a0 5 = some b7 ∧ (M_X6_allSquares l G b7 S5 (fun S8 r9 => M_X0_parts l G b6 r9 S8 (fun S10 r11 => Q S10 r11))))))))) : V_X10_statesOf_0 l G a0 a1 S Q := by
  refine mj_aload_n dX10_statesOf_0 rfl rfl ?_
  obtain ⟨b1, eb1, h⟩ := h
  refine mj_getP dX10_statesOf_1 fl_X10_68_9 hk_a0 rfl ⟨b1, eb1, fun hk_b1 => ?_⟩
  refine mj_aload_n dX10_statesOf_4 rfl rfl ?_
  obtain ⟨b2, eb2, h⟩ := h
  refine mj_getP dX10_statesOf_5 fl_X10_41_9 hk_a0 rfl ⟨b2, eb2, fun hk_b2 => ?_⟩
  refine mj_aload_n dX10_statesOf_8 rfl rfl ?_
  refine mj_callVi (as := []) (st := [.ref b2, .ref b1]) dX10_statesOf_9 cal_X8_hung lk_X10_194 im_X8_hung se_X8_hung (ci := 7) rfl (by decide) hk_a1 h rfl (Nat.le_of_ble_eq_true rfl) (by decide) ⟨Nat.le_of_ble_eq_true rfl, Nat.le_of_ble_eq_true rfl⟩ (fun S3 r4 h hn_r4 hp => ?_)
  have hk_a0 : m_kd S3 a0 = 9 := m_kd_pre hp hk_a0 (by decide)
  have hk_a1 : m_kd S3 a1 = 7 := m_kd_pre hp hk_a1 (by decide)
  have hk_b1 : m_kd S3 b1 = 0 := m_kd_pre hp hk_b1 (by decide)
  have hk_b2 : m_kd S3 b2 = 5 := m_kd_pre hp hk_b2 (by decide)
  refine mj_callVv (as := [.ref b2, .int r4]) (st := []) dX10_statesOf_12 cal_X0_part lk_X10_234 im_X0_part se_X0_part (ci := 0) rfl (by decide) hk_b1 h rfl (Nat.le_of_ble_eq_true rfl) (by decide) ⟨Nat.le_of_ble_eq_true rfl, Nat.le_of_ble_eq_true rfl⟩ (fun S5 h hp => ?_)
  have hk_a0 : m_kd S5 a0 = 9 := m_kd_pre hp hk_a0 (by decide)
  have hk_a1 : m_kd S5 a1 = 7 := m_kd_pre hp hk_a1 (by decide)
  have hk_b1 : m_kd S5 b1 = 0 := m_kd_pre hp hk_b1 (by decide)
  have hk_b2 : m_kd S5 b2 = 5 := m_kd_pre hp hk_b2 (by decide)
  refine mj_aload_n dX10_statesOf_15 rfl rfl ?_
  obtain ⟨b6, eb6, h⟩ := h
  refine mj_getP dX10_statesOf_16 fl_X10_68_9 hk_a0 rfl ⟨b6, eb6, fun hk_b6 => ?_⟩
  refine mj_aload_n dX10_statesOf_19 rfl rfl ?_
  obtain ⟨b7, eb7, h⟩ := h
  refine mj_getP dX10_statesOf_20 fl_X10_41_9 hk_a0 rfl ⟨b7, eb7, fun hk_b7 => ?_⟩
  refine mj_callVi (as := []) (st := [.ref b6]) dX10_statesOf_23 cal_X6_allSquares lk_X10_241 im_X6_allSquares se_X6_allSquares (ci := 5) rfl (by decide) hk_b7 h rfl (Nat.le_of_ble_eq_true rfl) (by decide) ⟨Nat.le_of_ble_eq_true rfl, Nat.le_of_ble_eq_true rfl⟩ (fun S8 r9 h hn_r9 hp => ?_)
  have hk_a0 : m_kd S8 a0 = 9 := m_kd_pre hp hk_a0 (by decide)
  have hk_a1 : m_kd S8 a1 = 7 := m_kd_pre hp hk_a1 (by decide)
  have hk_b1 : m_kd S8 b1 = 0 := m_kd_pre hp hk_b1 (by decide)
  have hk_b2 : m_kd S8 b2 = 5 := m_kd_pre hp hk_b2 (by decide)
  have hk_b6 : m_kd S8 b6 = 0 := m_kd_pre hp hk_b6 (by decide)
  have hk_b7 : m_kd S8 b7 = 5 := m_kd_pre hp hk_b7 (by decide)
  refine mj_callVi (as := [.int r9]) (st := []) dX10_statesOf_26 cal_X0_parts lk_X10_244 im_X0_parts se_X0_parts (ci := 0) rfl (by decide) hk_b6 h rfl (Nat.le_of_ble_eq_true rfl) (by decide) ⟨Nat.le_of_ble_eq_true rfl, Nat.le_of_ble_eq_true rfl⟩ (fun S10 r11 h hn_r11 hp => ?_)
  have hk_a0 : m_kd S10 a0 = 9 := m_kd_pre hp hk_a0 (by decide)
  have hk_a1 : m_kd S10 a1 = 7 := m_kd_pre hp hk_a1 (by decide)
  have hk_b1 : m_kd S10 b1 = 0 := m_kd_pre hp hk_b1 (by decide)
  have hk_b2 : m_kd S10 b2 = 5 := m_kd_pre hp hk_b2 (by decide)
  have hk_b6 : m_kd S10 b6 = 0 := m_kd_pre hp hk_b6 (by decide)
  have hk_b7 : m_kd S10 b7 = 5 := m_kd_pre hp hk_b7 (by decide)
  exact mj_reti dX10_statesOf_29 rfl ⟨Nat.le_of_ble_eq_true rfl, Nat.le_of_ble_eq_true rfl⟩ h
abbrev V_X10_lordIn_0 (l : Launch) (G : mj_G) (a0 : Nat) (x1 : Int32) (S : mj_S) (Q : mj_S → Int32 → Prop) : Prop := mj_V l G (mj_room 2 0 0) RX10 cX10_lordIn 4 (some .int) false 0 [some (.ref a0), some (.int x1), none, none] [] S 0 0 (mj_std G (some .int) (mj_room 2 0 0) (mj_qi Q))
abbrev V_X10_lordIn_4 (l : Launch) (G : mj_G) (a0 : Nat) (x1 : Int32) (x2 : Int32) (x3 : Int32) (S : mj_S) (Q : mj_S → Int32 → Prop) : Prop := mj_V l G (mj_room 2 0 0) RX10 cX10_lordIn 4 (some .int) false 4 [some (.ref a0), some (.int x1), some (.int x2), some (.int x3)] [] S 0 0 (mj_std G (some .int) (mj_room 2 0 0) (mj_qi Q))
theorem e_X10_lordIn {l : Launch} {G : mj_G} {a0 : Nat} {x1 : Int32} {S : mj_S} {Q : mj_S → Int32 → Prop} (h : V_X10_lordIn_0 l G a0 x1 S Q) : M_X10_lordIn l G a0 x1 S Q := mj_enter (r := 2) (ini := false) (by decide +kernel) (fun h => by cases h) (fun _ => Nat.le_of_ble_eq_true rfl) rfl h
set_option maxRecDepth 20000 in
set_option maxHeartbeats 1000000 in
theorem b_X10_lordIn_0 {l : Launch} {G : mj_G} {a0 : Nat} {x1 : Int32} {S : mj_S} {Q : mj_S → Int32 → Prop} (hk_a0 : m_kd S a0 = 9) (h : V_X10_lordIn_4 l G a0 x1 (-1 : Int32) (0 : Int32) S Q) : V_X10_lordIn_0 l G a0 x1 S Q := by
  refine mj_iconst (v := (-1)) dX10_lordIn_0 (by decide) ?_
  refine mj_istore_n dX10_lordIn_1 rfl (by decide) rfl rfl ?_
  refine mj_iconst (v := 0) dX10_lordIn_2 (by decide) ?_
  refine mj_istore_n dX10_lordIn_3 rfl (by decide) rfl rfl ?_
  exact h
set_option maxRecDepth 20000 in
set_option maxHeartbeats 1000000 in
theorem b_X10_lordIn_4 {l : Launch} {G : mj_G} {a0 : Nat} {x1 : Int32} {x2 : Int32} {x3 : Int32} {S : mj_S} {Q : mj_S → Int32 → Prop} (hk_a0 : m_kd S a0 = 9) (h : ∃ b1, m_gp S a0 5 = some b1 ∧ ((((m_gi S b1 15) ≤ x3) → Q S x2) ∧ ((¬ ((m_gi S b1 15) ≤ x3)) → ∃ b2, m_gp S a0 7 = some b2 ∧ (∃ b3, m_gp S b2 2 = some b3 ∧ (vp_in x3 (m_ln S b3) ∧ (M_X10_has l G x1 (m_gi S b3 (x3).toNatClampNeg) S (fun S4 r5 => ((r5 = 0) → ∀ v6 : Int32, v6 = x3 + (1 : Int32) → V_X10_lordIn_4 l G a0 x1 x2 v6 S4 Q) ∧ ((¬ (r5 = 0)) → ((x2 < 0) → ∀ v7 : Int32, v7 = x3 + (1 : Int32) → V_X10_lordIn_4 l G a0 x1 x3 v7 S4 Q) ∧ ((¬ (x2 < 0)) → ∃ b8, m_gp S4 a0 5 = some b8 ∧ (∃ b9, m_gp S4 b8 16 = some b9 ∧ (vp_in x3 (m_ln S4 b9) ∧ (∃ b10, m_gp S4 a0 5 = some b10 ∧ (∃ b11, m_gp S4 b10 16 = some b11 ∧ (vp_in x2 (m_ln S4 b11) ∧ ((((m_gi S4 b9 (x3).toNatClampNeg) ≤ (m_gi S4 b11 (x2).toNatClampNeg)) → ∀ v12 : Int32, v12 = x3 + (1 : Int32) → V_X10_lordIn_4 l G a0 x1 x2 v12 S4 Q) ∧ ((¬ ((m_gi S4 b9 (x3).toNatClampNeg) ≤ (m_gi S4 b11 (x2).toNatClampNeg))) → ∀ v13 : Int32, v13 = x3 + (1 : Int32) → V_X10_lordIn_4 l G a0 x1 x3 v13 S4 Q)))))))))))))))) : V_X10_lordIn_4 l G a0 x1 x2 x3 S Q := by
  refine mj_iload_n dX10_lordIn_4 rfl rfl ?_
  refine mj_aload_n dX10_lordIn_5 rfl rfl ?_
  obtain ⟨b1, eb1, h⟩ := h
  refine mj_getP dX10_lordIn_6 fl_X10_41_9 hk_a0 rfl ⟨b1, eb1, fun hk_b1 => ?_⟩
  refine mj_getI dX10_lordIn_9 fl_X10_149_5 hk_b1 rfl ?_
  refine mj_icmp_ge (tgt := 64) dX10_lordIn_12 (by decide) ⟨fun hc => ?_, fun hc => ?_⟩
  · replace h := h.1 hc
    refine mj_iload_n dX10_lordIn_64 rfl rfl ?_
    exact mj_reti dX10_lordIn_65 rfl ⟨Nat.le_of_ble_eq_true rfl, Nat.le_of_ble_eq_true rfl⟩ h
  · replace h := h.2 hc
    refine mj_iload_n dX10_lordIn_15 rfl rfl ?_
    refine mj_aload_n dX10_lordIn_16 rfl rfl ?_
    obtain ⟨b2, eb2, h⟩ := h
    refine mj_getP dX10_lordIn_17 fl_X10_51_9 hk_a0 rfl ⟨b2, eb2, fun hk_b2 => ?_⟩
    obtain ⟨b3, eb3, h⟩ := h
    refine mj_getP dX10_lordIn_20 fl_X10_211_7 hk_b2 rfl ⟨b3, eb3, fun hk_b3 => ?_⟩
    refine mj_iload_n dX10_lordIn_23 rfl rfl ?_
    refine mj_iald dX10_lordIn_24 (Or.inl hk_b3) ⟨h.1, ?_⟩
    replace h := h.2
    refine mj_callSi (as := [.int x1, .int (m_gi S b3 (x3).toNatClampNeg)]) (st := []) dX10_lordIn_25 cal_X10_has lk_X10_190 sm_X10_has h rfl (Nat.le_of_ble_eq_true rfl) (by decide) ⟨Nat.le_of_ble_eq_true rfl, Nat.le_of_ble_eq_true rfl⟩ (fun S4 r5 h hn_r5 hp => ?_)
    have hk_a0 : m_kd S4 a0 = 9 := m_kd_pre hp hk_a0 (by decide)
    have hk_b1 : m_kd S4 b1 = 5 := m_kd_pre hp hk_b1 (by decide)
    have hk_b2 : m_kd S4 b2 = 7 := m_kd_pre hp hk_b2 (by decide)
    have hk_b3 : m_kd S4 b3 = 100 := m_kd_pre hp hk_b3 (by decide)
    refine mj_if_eq (tgt := 58) dX10_lordIn_28 (by decide) ⟨fun hc => ?_, fun hc => ?_⟩
    · replace h := h.1 hc
      obtain ⟨v6, ev6⟩ : ∃ z : Int32, z = x3 + (1 : Int32) := ⟨_, rfl⟩
      refine mj_iinc (v := v6) dX10_lordIn_58 rfl (by rw [ev6]; rfl) (by decide) rfl rfl ?_
      replace h := h v6 ev6
      refine mj_goto (tgt := 4) dX10_lordIn_61 (by decide) ?_
      exact h
    · replace h := h.2 hc
      refine mj_iload_n dX10_lordIn_31 rfl rfl ?_
      refine mj_if_lt (tgt := 56) dX10_lordIn_32 (by decide) ⟨fun hc => ?_, fun hc => ?_⟩
      · replace h := h.1 hc
        refine mj_iload_n dX10_lordIn_56 rfl rfl ?_
        refine mj_istore_n dX10_lordIn_57 rfl (by decide) rfl rfl ?_
        obtain ⟨v7, ev7⟩ : ∃ z : Int32, z = x3 + (1 : Int32) := ⟨_, rfl⟩
        refine mj_iinc (v := v7) dX10_lordIn_58 rfl (by rw [ev7]; rfl) (by decide) rfl rfl ?_
        replace h := h v7 ev7
        refine mj_goto (tgt := 4) dX10_lordIn_61 (by decide) ?_
        exact h
      · replace h := h.2 hc
        refine mj_aload_n dX10_lordIn_35 rfl rfl ?_
        obtain ⟨b8, eb8, h⟩ := h
        refine mj_getP dX10_lordIn_36 fl_X10_41_9 hk_a0 rfl ⟨b8, eb8, fun hk_b8 => ?_⟩
        obtain ⟨b9, eb9, h⟩ := h
        refine mj_getP dX10_lordIn_39 fl_X10_214_5 hk_b8 rfl ⟨b9, eb9, fun hk_b9 => ?_⟩
        refine mj_iload_n dX10_lordIn_42 rfl rfl ?_
        refine mj_iald dX10_lordIn_43 (Or.inl hk_b9) ⟨h.1, ?_⟩
        replace h := h.2
        refine mj_aload_n dX10_lordIn_44 rfl rfl ?_
        obtain ⟨b10, eb10, h⟩ := h
        refine mj_getP dX10_lordIn_45 fl_X10_41_9 hk_a0 rfl ⟨b10, eb10, fun hk_b10 => ?_⟩
        obtain ⟨b11, eb11, h⟩ := h
        refine mj_getP dX10_lordIn_48 fl_X10_214_5 hk_b10 rfl ⟨b11, eb11, fun hk_b11 => ?_⟩
        refine mj_iload_n dX10_lordIn_51 rfl rfl ?_
        refine mj_iald dX10_lordIn_52 (Or.inl hk_b11) ⟨h.1, ?_⟩
        replace h := h.2
        refine mj_icmp_le (tgt := 58) dX10_lordIn_53 (by decide) ⟨fun hc => ?_, fun hc => ?_⟩
        · replace h := h.1 hc
          obtain ⟨v12, ev12⟩ : ∃ z : Int32, z = x3 + (1 : Int32) := ⟨_, rfl⟩
          refine mj_iinc (v := v12) dX10_lordIn_58 rfl (by rw [ev12]; rfl) (by decide) rfl rfl ?_
          replace h := h v12 ev12
          refine mj_goto (tgt := 4) dX10_lordIn_61 (by decide) ?_
          exact h
        · replace h := h.2 hc
          refine mj_iload_n dX10_lordIn_56 rfl rfl ?_
          refine mj_istore_n dX10_lordIn_57 rfl (by decide) rfl rfl ?_
          obtain ⟨v13, ev13⟩ : ∃ z : Int32, z = x3 + (1 : Int32) := ⟨_, rfl⟩
          refine mj_iinc (v := v13) dX10_lordIn_58 rfl (by rw [ev13]; rfl) (by decide) rfl rfl ?_
          replace h := h v13 ev13
          refine mj_goto (tgt := 4) dX10_lordIn_61 (by decide) ?_
          exact h
