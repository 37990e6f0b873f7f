abbrev V_X3_init_0 (l : Launch) (G : mj_G) (a0 : Nat) (S : mj_S) (Q : mj_S → Prop) : Prop := mj_V l G (mj_room 1 4 70) RX3 cX3_init 1 none true 0 [some (.ref a0)] [] S 0 0 (mj_std G none (mj_room 1 4 70) (mj_qv Q))
theorem e_X3_init {l : Launch} {G : mj_G} {a0 : Nat} {S : mj_S} {Q : mj_S → Prop} (h : V_X3_init_0 l G a0 S Q) : M_X3_init l G a0 S Q := mj_enter (r := 0) (ini := true) (by decide +kernel) (fun _ => rfl) (fun _ => Nat.le_of_ble_eq_true rfl) rfl h
set_option maxRecDepth 20000 in
set_option maxHeartbeats 1000000 in
theorem b_X3_init_0 {l : Launch} {G : mj_G} {a0 : Nat} {S : mj_S} {Q : mj_S → Prop} (hk_a0 : m_kd S a0 = 3) (h : ∀ q1 : Nat, q1 = S.1.length → ∀ S2 : mj_S, S2 = m_nw S 100 20 → ∀ S3 : mj_S, S3 = m_sp S2 a0 0 (some q1) → ∀ q4 : Nat, q4 = S3.1.length → ∀ S5 : mj_S, S5 = m_nw S3 100 10 → ∀ S6 : mj_S, S6 = m_sp S5 a0 1 (some q4) → ∀ q7 : Nat, q7 = S6.1.length → ∀ S8 : mj_S, S8 = m_nw S6 100 20 → ∀ S9 : mj_S, S9 = m_sp S8 a0 2 (some q7) → ∀ q10 : Nat, q10 = S9.1.length → ∀ S11 : mj_S, S11 = m_nw S9 100 20 → ∀ S12 : mj_S, S12 = m_sp S11 a0 3 (some q10) → Q S12) : V_X3_init_0 l G a0 S Q := by
  refine mj_aload_n dX3_init_0 rfl rfl ?_
  refine mj_objInit (st := []) dX3_init_1 oi_X3_3 oi_im oi_co (by decide) (Nat.le_of_ble_eq_true rfl) ?_
  refine mj_aload_n dX3_init_4 rfl rfl ?_
  refine mj_bipush (v := 20) dX3_init_5 (by decide) ?_
  refine mj_newI (N := 20) dX3_init_7 ar_int (by decide) (by decide) (by decide) (Nat.le_of_ble_eq_true rfl) (Nat.le_of_ble_eq_true rfl) ?_
  obtain ⟨q1, eq1⟩ : ∃ z, z = S.1.length := ⟨_, rfl⟩
  rw [← eq1]
  obtain ⟨S2, eS2⟩ : ∃ z, z = m_nw S 100 20 := ⟨_, rfl⟩
  rw [← eS2]
  replace h := h q1 eq1 S2 eS2
  have hp : S.1 <+: S2.1 := by rw [eS2]; exact List.prefix_append _ _
  have hk_q1 : m_kd S2 q1 = 100 := by rw [eS2, eq1]; exact m_kd_nwl
  have hk_a0 : m_kd S2 a0 = 3 := m_kd_pre hp hk_a0 (by decide)
  refine mj_putP dX3_init_9 fl_X3_9_3 hk_a0 (Or.inr ⟨rfl, rfl⟩) rfl hk_q1 (fun _ => rfl) (fun _ => rfl) ?_
  obtain ⟨S3, eS3⟩ : ∃ z, z = m_sp S2 a0 0 (some q1) := ⟨_, rfl⟩
  rw [← eS3]
  replace h := h S3 eS3
  have hk_a0 : m_kd S3 a0 = 3 := by rw [eS3]; exact hk_a0
  have hk_q1 : m_kd S3 q1 = 100 := by rw [eS3]; exact hk_q1
  refine mj_aload_n dX3_init_12 rfl rfl ?_
  refine mj_bipush (v := 10) dX3_init_13 (by decide) ?_
  refine mj_newI (N := 10) dX3_init_15 ar_int (by decide) (by decide) (by decide) (Nat.le_of_ble_eq_true rfl) (Nat.le_of_ble_eq_true rfl) ?_
  obtain ⟨q4, eq4⟩ : ∃ z, z = S3.1.length := ⟨_, rfl⟩
  rw [← eq4]
  obtain ⟨S5, eS5⟩ : ∃ z, z = m_nw S3 100 10 := ⟨_, rfl⟩
  rw [← eS5]
  replace h := h q4 eq4 S5 eS5
  have hp : S3.1 <+: S5.1 := by rw [eS5]; exact List.prefix_append _ _
  have hk_q4 : m_kd S5 q4 = 100 := by rw [eS5, eq4]; exact m_kd_nwl
  have hk_a0 : m_kd S5 a0 = 3 := m_kd_pre hp hk_a0 (by decide)
  have hk_q1 : m_kd S5 q1 = 100 := m_kd_pre hp hk_q1 (by decide)
  refine mj_putP dX3_init_17 fl_X3_15_3 hk_a0 (Or.inr ⟨rfl, rfl⟩) rfl hk_q4 (fun _ => rfl) (fun _ => rfl) ?_
  obtain ⟨S6, eS6⟩ : ∃ z, z = m_sp S5 a0 1 (some q4) := ⟨_, rfl⟩
  rw [← eS6]
  replace h := h S6 eS6
  have hk_a0 : m_kd S6 a0 = 3 := by rw [eS6]; exact hk_a0
  have hk_q1 : m_kd S6 q1 = 100 := by rw [eS6]; exact hk_q1
  have hk_q4 : m_kd S6 q4 = 100 := by rw [eS6]; exact hk_q4
  refine mj_aload_n dX3_init_20 rfl rfl ?_
  refine mj_bipush (v := 20) dX3_init_21 (by decide) ?_
  refine mj_newI (N := 20) dX3_init_23 ar_int (by decide) (by decide) (by decide) (Nat.le_of_ble_eq_true rfl) (Nat.le_of_ble_eq_true rfl) ?_
  obtain ⟨q7, eq7⟩ : ∃ z, z = S6.1.length := ⟨_, rfl⟩
  rw [← eq7]
  obtain ⟨S8, eS8⟩ : ∃ z, z = m_nw S6 100 20 := ⟨_, rfl⟩
  rw [← eS8]
  replace h := h q7 eq7 S8 eS8
  have hp : S6.1 <+: S8.1 := by rw [eS8]; exact List.prefix_append _ _
  have hk_q7 : m_kd S8 q7 = 100 := by rw [eS8, eq7]; exact m_kd_nwl
  have hk_a0 : m_kd S8 a0 = 3 := m_kd_pre hp hk_a0 (by decide)
  have hk_q1 : m_kd S8 q1 = 100 := m_kd_pre hp hk_q1 (by decide)
  have hk_q4 : m_kd S8 q4 = 100 := m_kd_pre hp hk_q4 (by decide)
  refine mj_putP dX3_init_25 fl_X3_18_3 hk_a0 (Or.inr ⟨rfl, rfl⟩) rfl hk_q7 (fun _ => rfl) (fun _ => rfl) ?_
  obtain ⟨S9, eS9⟩ : ∃ z, z = m_sp S8 a0 2 (some q7) := ⟨_, rfl⟩
  rw [← eS9]
  replace h := h S9 eS9
  have hk_a0 : m_kd S9 a0 = 3 := by rw [eS9]; exact hk_a0
  have hk_q1 : m_kd S9 q1 = 100 := by rw [eS9]; exact hk_q1
  have hk_q4 : m_kd S9 q4 = 100 := by rw [eS9]; exact hk_q4
  have hk_q7 : m_kd S9 q7 = 100 := by rw [eS9]; exact hk_q7
  refine mj_aload_n dX3_init_28 rfl rfl ?_
  refine mj_bipush (v := 20) dX3_init_29 (by decide) ?_
  refine mj_newI (N := 20) dX3_init_31 ar_int (by decide) (by decide) (by decide) (Nat.le_of_ble_eq_true rfl) (Nat.le_of_ble_eq_true rfl) ?_
  obtain ⟨q10, eq10⟩ : ∃ z, z = S9.1.length := ⟨_, rfl⟩
  rw [← eq10]
  obtain ⟨S11, eS11⟩ : ∃ z, z = m_nw S9 100 20 := ⟨_, rfl⟩
  rw [← eS11]
  replace h := h q10 eq10 S11 eS11
  have hp : S9.1 <+: S11.1 := by rw [eS11]; exact List.prefix_append _ _
  have hk_q10 : m_kd S11 q10 = 100 := by rw [eS11, eq10]; exact m_kd_nwl
  have hk_a0 : m_kd S11 a0 = 3 := m_kd_pre hp hk_a0 (by decide)
  have hk_q1 : m_kd S11 q1 = 100 := m_kd_pre hp hk_q1 (by decide)
  have hk_q4 : m_kd S11 q4 = 100 := m_kd_pre hp hk_q4 (by decide)
  have hk_q7 : m_kd S11 q7 = 100 := m_kd_pre hp hk_q7 (by decide)
  refine mj_putP dX3_init_33 fl_X3_21_3 hk_a0 (Or.inr ⟨rfl, rfl⟩) rfl hk_q10 (fun _ => rfl) (fun _ => rfl) ?_
  obtain ⟨S12, eS12⟩ : ∃ z, z = m_sp S11 a0 3 (some q10) := ⟨_, rfl⟩
  rw [← eS12]
  replace h := h S12 eS12
  have hk_a0 : m_kd S12 a0 = 3 := by rw [eS12]; exact hk_a0
  have hk_q1 : m_kd S12 q1 = 100 := by rw [eS12]; exact hk_q1
  have hk_q4 : m_kd S12 q4 = 100 := by rw [eS12]; exact hk_q4
  have hk_q7 : m_kd S12 q7 = 100 := by rw [eS12]; exact hk_q7
  have hk_q10 : m_kd S12 q10 = 100 := by rw [eS12]; exact hk_q10
  exact mj_retv dX3_init_36 rfl ⟨Nat.le_of_ble_eq_true rfl, Nat.le_of_ble_eq_true rfl⟩ h
abbrev V_X3_weigh_0 (l : Launch) (G : mj_G) (a0 : Nat) (a1 : Nat) (a2 : Nat) (x3 : Int32) (S : mj_S) (Q : mj_S → Prop) : Prop := mj_V l G (mj_room 5 0 0) RX3 cX3_weigh 5 none false 0 [some (.ref a0), some (.ref a1), some (.ref a2), some (.int x3), none] [] S 0 0 (mj_std G none (mj_room 5 0 0) (mj_qv Q))
abbrev V_X3_weigh_3 (l : Launch) (G : mj_G) (a0 : Nat) (a1 : Nat) (a2 : Nat) (x3 : Int32) (x4 : Int32) (S : mj_S) (Q : mj_S → Prop) : Prop := mj_V l G (mj_room 5 0 0) RX3 cX3_weigh 5 none false 3 [some (.ref a0), some (.ref a1), some (.ref a2), some (.int x3), some (.int x4)] [] S 0 0 (mj_std G none (mj_room 5 0 0) (mj_qv Q))
theorem e_X3_weigh {l : Launch} {G : mj_G} {a0 : Nat} {a1 : Nat} {a2 : Nat} {x3 : Int32} {S : mj_S} {Q : mj_S → Prop} (h : V_X3_weigh_0 l G a0 a1 a2 x3 S Q) : M_X3_weigh l G a0 a1 a2 x3 S Q := mj_enter (r := 1) (ini := false) (by decide +kernel) (fun h => by cases h) (fun _ => Nat.le_of_ble_eq_true rfl) rfl h
set_option maxRecDepth 20000 in
set_option maxHeartbeats 1000000 in
theorem b_X3_weigh_0 {l : Launch} {G : mj_G} {a0 : Nat} {a1 : Nat} {a2 : Nat} {x3 : Int32} {S : mj_S} {Q : mj_S → Prop} (hk_a0 : m_kd S a0 = 3) (hk_a1 : m_kd S a1 = 7) (hk_a2 : m_kd S a2 = 2) (h : V_X3_weigh_3 l G a0 a1 a2 x3 (0 : Int32) S Q) : V_X3_weigh_0 l G a0 a1 a2 x3 S Q := by
  refine mj_iconst (v := 0) dX3_weigh_0 (by decide) ?_
  refine mj_istore dX3_weigh_1 (by decide) rfl rfl ?_
  exact h
set_option maxRecDepth 20000 in
set_option maxHeartbeats 1000000 in
theorem b_X3_weigh_3 {l : Launch} {G : mj_G} {a0 : Nat} {a1 : Nat} {a2 : Nat} {x3 : Int32} {x4 : Int32} {S : mj_S} {Q : mj_S → Prop} (hk_a0 : m_kd S a0 = 3) (hk_a1 : m_kd S a1 = 7) (hk_a2 : m_kd S a2 = 2) (h : ∃ b1, m_gp S a1 0 = some b1 ∧ ((((m_gi S b1 7) ≤ x4) → Q S) ∧ ((¬ ((m_gi S b1 7) ≤ x4)) → M_X10_has l G x3 x4 S (fun S2 r3 => ((r3 = 0) → ∀ v4 : Int32, v4 = x4 + (1 : Int32) → V_X3_weigh_3 l G a0 a1 a2 x3 v4 S2 Q) ∧ ((¬ (r3 = 0)) → ∃ b5, m_gp S2 a0 1 = some b5 ∧ (M_X2_takes l G a2 a1 x4 S2 (fun S6 r7 => vp_in x4 (m_ln S6 b5) ∧ (∀ S8 : mj_S, S8 = m_si S6 b5 (x4).toNatClampNeg r7 → ∀ v9 : Int32, v9 = x4 + (1 : Int32) → V_X3_weigh_3 l G a0 a1 a2 x3 v9 S8 Q)))))))) : V_X3_weigh_3 l G a0 a1 a2 x3 x4 S Q := by
  refine mj_iload dX3_weigh_3 rfl ?_
  refine mj_aload_n dX3_weigh_5 rfl rfl ?_
  obtain ⟨b1, eb1, h⟩ := h
  refine mj_getP dX3_weigh_6 fl_X3_24_7 hk_a1 rfl ⟨b1, eb1, fun hk_b1 => ?_⟩
  refine mj_getI dX3_weigh_9 fl_X3_30_5 hk_b1 rfl ?_
  refine mj_icmp_ge (tgt := 44) dX3_weigh_12 (by decide) ⟨fun hc => ?_, fun hc => ?_⟩
  · replace h := h.1 hc
    exact mj_retv dX3_weigh_44 rfl ⟨Nat.le_of_ble_eq_true rfl, Nat.le_of_ble_eq_true rfl⟩ h
  · replace h := h.2 hc
    refine mj_iload_n dX3_weigh_15 rfl rfl ?_
    refine mj_iload dX3_weigh_16 rfl ?_
    refine mj_callNi (as := [.int x3, .int x4]) (st := []) dX3_weigh_18 cal_X10_has ln_X3_36 sm_X10_has h rfl (Nat.le_of_ble_eq_true rfl) (by decide) ⟨Nat.le_of_ble_eq_true rfl, Nat.le_of_ble_eq_true rfl⟩ (fun S2 r3 h hn_r3 hp => ?_)
    have hk_a0 : m_kd S2 a0 = 3 := m_kd_pre hp hk_a0 (by decide)
    have hk_a1 : m_kd S2 a1 = 7 := m_kd_pre hp hk_a1 (by decide)
    have hk_a2 : m_kd S2 a2 = 2 := m_kd_pre hp hk_a2 (by decide)
    have hk_b1 : m_kd S2 b1 = 5 := m_kd_pre hp hk_b1 (by decide)
    refine mj_if_eq (tgt := 38) dX3_weigh_21 (by decide) ⟨fun hc => ?_, fun hc => ?_⟩
    · replace h := h.1 hc
      obtain ⟨v4, ev4⟩ : ∃ z : Int32, z = x4 + (1 : Int32) := ⟨_, rfl⟩
      refine mj_iinc (v := v4) dX3_weigh_38 rfl (by rw [ev4]; rfl) (by decide) rfl rfl ?_
      replace h := h v4 ev4
      refine mj_goto (tgt := 3) dX3_weigh_41 (by decide) ?_
      exact h
    · replace h := h.2 hc
      refine mj_aload_n dX3_weigh_24 rfl rfl ?_
      obtain ⟨b5, eb5, h⟩ := h
      refine mj_getP dX3_weigh_25 fl_X3_15_3 hk_a0 rfl ⟨b5, eb5, fun hk_b5 => ?_⟩
      refine mj_iload dX3_weigh_28 rfl ?_
      refine mj_aload_n dX3_weigh_30 rfl rfl ?_
      refine mj_aload_n dX3_weigh_31 rfl rfl ?_
      refine mj_iload dX3_weigh_32 rfl ?_
      refine mj_callVi (as := [.ref a1, .int x4]) (st := [.int x4, .ref b5]) dX3_weigh_34 cal_X2_takes lk_X3_40 im_X2_takes se_X2_takes (ci := 2) rfl (by decide) hk_a2 h rfl (Nat.le_of_ble_eq_true rfl) (by decide) ⟨Nat.le_of_ble_eq_true rfl, Nat.le_of_ble_eq_true rfl⟩ (fun S6 r7 h hn_r7 hp => ?_)
      have hk_a0 : m_kd S6 a0 = 3 := m_kd_pre hp hk_a0 (by decide)
      have hk_a1 : m_kd S6 a1 = 7 := m_kd_pre hp hk_a1 (by decide)
      have hk_a2 : m_kd S6 a2 = 2 := m_kd_pre hp hk_a2 (by decide)
      have hk_b1 : m_kd S6 b1 = 5 := m_kd_pre hp hk_b1 (by decide)
      have hk_b5 : m_kd S6 b5 = 100 := m_kd_pre hp hk_b5 (by decide)
      refine mj_iast dX3_weigh_37 hk_b5 ⟨h.1, ?_⟩
      replace h := h.2
      obtain ⟨S8, eS8⟩ : ∃ z, z = m_si S6 b5 (x4).toNatClampNeg r7 := ⟨_, rfl⟩
      rw [← eS8]
      replace h := h S8 eS8
      have hk_a0 : m_kd S8 a0 = 3 := by rw [eS8]; exact hk_a0
      have hk_a1 : m_kd S8 a1 = 7 := by rw [eS8]; exact hk_a1
      have hk_a2 : m_kd S8 a2 = 2 := by rw [eS8]; exact hk_a2
      have hk_b1 : m_kd S8 b1 = 5 := by rw [eS8]; exact hk_b1
      have hk_b5 : m_kd S8 b5 = 100 := by rw [eS8]; exact hk_b5
      obtain ⟨v9, ev9⟩ : ∃ z : Int32, z = x4 + (1 : Int32) := ⟨_, rfl⟩
      refine mj_iinc (v := v9) dX3_weigh_38 rfl (by rw [ev9]; rfl) (by decide) rfl rfl ?_
      replace h := h v9 ev9
      refine mj_goto (tgt := 3) dX3_weigh_41 (by decide) ?_
      exact h
abbrev V_X3_hang_0 (l : Launch) (G : mj_G) (a0 : Nat) (a1 : Nat) (x2 : Int32) (S : mj_S) (Q : mj_S → Prop) : Prop := mj_V l G (mj_room 2 0 0) RX3 cX3_hang 4 none false 0 [some (.ref a0), some (.ref a1), some (.int x2), none] [] S 0 0 (mj_std G none (mj_room 2 0 0) (mj_qv Q))
abbrev V_X3_hang_18 (l : Launch) (G : mj_G) (a0 : Nat) (a1 : Nat) (x2 : Int32) (x3 : Int32) (S : mj_S) (Q : mj_S → Prop) : Prop := mj_V l G (mj_room 2 0 0) RX3 cX3_hang 4 none false 18 [some (.ref a0), some (.ref a1), some (.int x2), some (.int x3)] [] S 0 0 (mj_std G none (mj_room 2 0 0) (mj_qv Q))
theorem e_X3_hang {l : Launch} {G : mj_G} {a0 : Nat} {a1 : Nat} {x2 : Int32} {S : mj_S} {Q : mj_S → Prop} (h : V_X3_hang_0 l G a0 a1 x2 S Q) : M_X3_hang l G a0 a1 x2 S Q := mj_enter (r := 1) (ini := false) (by decide +kernel) (fun h => by cases h) (fun _ => Nat.le_of_ble_eq_true rfl) rfl h
set_option maxRecDepth 20000 in
set_option maxHeartbeats 1000000 in
theorem b_X3_hang_0 {l : Launch} {G : mj_G} {a0 : Nat} {a1 : Nat} {x2 : Int32} {S : mj_S} {Q : mj_S → Prop} (hk_a0 : m_kd S a0 = 3) (hk_a1 : m_kd S a1 = 5) (h : ∃ b1, m_gp S a0 2 = some b1 ∧ (M_J7_fill_53178 l G b1 (1 : Int32) S (fun S2 => ∃ b3, m_gp S2 a0 3 = some b3 ∧ (M_J7_fill_53178 l G b3 (1 : Int32) S2 (fun S4 => V_X3_hang_18 l G a0 a1 x2 (0 : Int32) S4 Q))))) : V_X3_hang_0 l G a0 a1 x2 S Q := by
  refine mj_aload_n dX3_hang_0 rfl rfl ?_
  obtain ⟨b1, eb1, h⟩ := h
  refine mj_getP dX3_hang_1 fl_X3_18_3 hk_a0 rfl ⟨b1, eb1, fun hk_b1 => ?_⟩
  refine mj_iconst (v := 1) dX3_hang_4 (by decide) ?_
  refine mj_callSv (as := [.ref b1, .int (1 : Int32)]) (st := []) dX3_hang_5 cal_J7_fill_53178 lk_X3_46 sm_J7_fill_53178 h rfl (Nat.le_of_ble_eq_true rfl) (by decide) ⟨Nat.le_of_ble_eq_true rfl, Nat.le_of_ble_eq_true rfl⟩ (fun S2 h hp => ?_)
  have hk_a0 : m_kd S2 a0 = 3 := m_kd_pre hp hk_a0 (by decide)
  have hk_a1 : m_kd S2 a1 = 5 := m_kd_pre hp hk_a1 (by decide)
  have hk_b1 : m_kd S2 b1 = 100 := m_kd_pre hp hk_b1 (by decide)
  refine mj_aload_n dX3_hang_8 rfl rfl ?_
  obtain ⟨b3, eb3, h⟩ := h
  refine mj_getP dX3_hang_9 fl_X3_21_3 hk_a0 rfl ⟨b3, eb3, fun hk_b3 => ?_⟩
  refine mj_iconst (v := 1) dX3_hang_12 (by decide) ?_
  refine mj_callSv (as := [.ref b3, .int (1 : Int32)]) (st := []) dX3_hang_13 cal_J7_fill_53178 lk_X3_46 sm_J7_fill_53178 h rfl (Nat.le_of_ble_eq_true rfl) (by decide) ⟨Nat.le_of_ble_eq_true rfl, Nat.le_of_ble_eq_true rfl⟩ (fun S4 h hp => ?_)
  have hk_a0 : m_kd S4 a0 = 3 := m_kd_pre hp hk_a0 (by decide)
  have hk_a1 : m_kd S4 a1 = 5 := m_kd_pre hp hk_a1 (by decide)
  have hk_b1 : m_kd S4 b1 = 100 := m_kd_pre hp hk_b1 (by decide)
  have hk_b3 : m_kd S4 b3 = 100 := m_kd_pre hp hk_b3 (by decide)
  refine mj_iconst (v := 0) dX3_hang_16 (by decide) ?_
  refine mj_istore_n dX3_hang_17 rfl (by decide) rfl rfl ?_
  exact h
set_option maxRecDepth 20000 in
set_option maxHeartbeats 1000000 in
theorem b_X3_hang_18 {l : Launch} {G : mj_G} {a0 : Nat} {a1 : Nat} {x2 : Int32} {x3 : Int32} {S : mj_S} {Q : mj_S → Prop} (hk_a0 : m_kd S a0 = 3) (hk_a1 : m_kd S a1 = 5) (h : (((m_gi S a1 7) ≤ x3) → Q S) ∧ ((¬ ((m_gi S a1 7) ≤ x3)) → M_X10_has l G x2 x3 S (fun S1 r2 => ((¬ r2 = 0) → ∃ b3, m_gp S1 a1 10 = some b3 ∧ (vp_in x3 (m_ln S1 b3) ∧ (((¬ (m_gi S1 b3 (x3).toNatClampNeg) = 0) → ∃ b4, m_gp S1 a0 3 = some b4 ∧ (∃ b5, m_gp S1 a1 8 = some b5 ∧ (vp_in x3 (m_ln S1 b5) ∧ (vp_in (m_gi S1 b5 (x3).toNatClampNeg) (m_ln S1 b4) ∧ (∃ b6, m_gp S1 a0 1 = some b6 ∧ (vp_in x3 (m_ln S1 b6) ∧ (vp_in (m_gi S1 b5 (x3).toNatClampNeg) (m_ln S1 b4) ∧ (∀ S7 : mj_S, S7 = m_si S1 b4 ((m_gi S1 b5 (x3).toNatClampNeg)).toNatClampNeg ((m_gi S1 b4 ((m_gi S1 b5 (x3).toNatClampNeg)).toNatClampNeg) + (m_gi S1 b6 (x3).toNatClampNeg)) → ∀ v8 : Int32, v8 = x3 + (1 : Int32) → V_X3_hang_18 l G a0 a1 x2 v8 S7 Q)))))))) ∧ (((m_gi S1 b3 (x3).toNatClampNeg) = 0) → ∃ b9, m_gp S1 a0 2 = some b9 ∧ (∃ b10, m_gp S1 a1 8 = some b10 ∧ (vp_in x3 (m_ln S1 b10) ∧ (vp_in (m_gi S1 b10 (x3).toNatClampNeg) (m_ln S1 b9) ∧ (∃ b11, m_gp S1 a0 1 = some b11 ∧ (vp_in x3 (m_ln S1 b11) ∧ (vp_in (m_gi S1 b10 (x3).toNatClampNeg) (m_ln S1 b9) ∧ (∀ S12 : mj_S, S12 = m_si S1 b9 ((m_gi S1 b10 (x3).toNatClampNeg)).toNatClampNeg ((m_gi S1 b9 ((m_gi S1 b10 (x3).toNatClampNeg)).toNatClampNeg) + (m_gi S1 b11 (x3).toNatClampNeg)) → ∀ v13 : Int32, v13 = x3 + (1 : Int32) → V_X3_hang_18 l G a0 a1 x2 v13 S12 Q))))))))))) ∧ ((r2 = 0) → ∀ v14 : Int32, v14 = x3 + (1 : Int32) → V_X3_hang_18 l G a0 a1 x2 v14 S1 Q)))) : V_X3_hang_18 l G a0 a1 x2 x3 S Q := by
  refine mj_iload_n dX3_hang_18 rfl rfl ?_
  refine mj_aload_n dX3_hang_19 rfl rfl ?_
  refine mj_getI dX3_hang_20 fl_X3_30_5 hk_a1 rfl ?_
  refine mj_icmp_ge (tgt := 95) dX3_hang_23 (by decide) ⟨fun hc => ?_, fun hc => ?_⟩
  · replace h := h.1 hc
    exact mj_retv dX3_hang_95 rfl ⟨Nat.le_of_ble_eq_true rfl, Nat.le_of_ble_eq_true rfl⟩ h
  · replace h := h.2 hc
    refine mj_iload_n dX3_hang_26 rfl rfl ?_
    refine mj_iload_n dX3_hang_27 rfl rfl ?_
    refine mj_callNi (as := [.int x2, .int x3]) (st := []) dX3_hang_28 cal_X10_has ln_X3_36 sm_X10_has h rfl (Nat.le_of_ble_eq_true rfl) (by decide) ⟨Nat.le_of_ble_eq_true rfl, Nat.le_of_ble_eq_true rfl⟩ (fun S1 r2 h hn_r2 hp => ?_)
    have hk_a0 : m_kd S1 a0 = 3 := m_kd_pre hp hk_a0 (by decide)
    have hk_a1 : m_kd S1 a1 = 5 := m_kd_pre hp hk_a1 (by decide)
    refine mj_if_ne (tgt := 37) dX3_hang_31 (by decide) ⟨fun hc => ?_, fun hc => ?_⟩
    · replace h := h.1 hc
      refine mj_aload_n dX3_hang_37 rfl rfl ?_
      obtain ⟨b3, eb3, h⟩ := h
      refine mj_getP dX3_hang_38 fl_X3_52_5 hk_a1 rfl ⟨b3, eb3, fun hk_b3 => ?_⟩
      refine mj_iload_n dX3_hang_41 rfl rfl ?_
      refine mj_iald dX3_hang_42 (Or.inl hk_b3) ⟨h.1, ?_⟩
      replace h := h.2
      refine mj_if_ne (tgt := 69) dX3_hang_43 (by decide) ⟨fun hc => ?_, fun hc => ?_⟩
      · replace h := h.1 hc
        refine mj_aload_n dX3_hang_69 rfl rfl ?_
        obtain ⟨b4, eb4, h⟩ := h
        refine mj_getP dX3_hang_70 fl_X3_21_3 hk_a0 rfl ⟨b4, eb4, fun hk_b4 => ?_⟩
        refine mj_aload_n dX3_hang_73 rfl rfl ?_
        obtain ⟨b5, eb5, h⟩ := h
        refine mj_getP dX3_hang_74 fl_X3_55_5 hk_a1 rfl ⟨b5, eb5, fun hk_b5 => ?_⟩
        refine mj_iload_n dX3_hang_77 rfl rfl ?_
        refine mj_iald dX3_hang_78 (Or.inl hk_b5) ⟨h.1, ?_⟩
        replace h := h.2
        refine mj_dup2 dX3_hang_79 rfl rfl ?_
        refine mj_iald dX3_hang_80 (Or.inl hk_b4) ⟨h.1, ?_⟩
        replace h := h.2
        refine mj_aload_n dX3_hang_81 rfl rfl ?_
        obtain ⟨b6, eb6, h⟩ := h
        refine mj_getP dX3_hang_82 fl_X3_15_3 hk_a0 rfl ⟨b6, eb6, fun hk_b6 => ?_⟩
        refine mj_iload_n dX3_hang_85 rfl rfl ?_
        refine mj_iald dX3_hang_86 (Or.inl hk_b6) ⟨h.1, ?_⟩
        replace h := h.2
        refine mj_iadd dX3_hang_87 ?_
        refine mj_iast dX3_hang_88 hk_b4 ⟨h.1, ?_⟩
        replace h := h.2
        obtain ⟨S7, eS7⟩ : ∃ z, z = m_si S1 b4 ((m_gi S1 b5 (x3).toNatClampNeg)).toNatClampNeg ((m_gi S1 b4 ((m_gi S1 b5 (x3).toNatClampNeg)).toNatClampNeg) + (m_gi S1 b6 (x3).toNatClampNeg)) := ⟨_, rfl⟩
        rw [← eS7]
        replace h := h S7 eS7
        have hk_a0 : m_kd S7 a0 = 3 := by rw [eS7]; exact hk_a0
        have hk_a1 : m_kd S7 a1 = 5 := by rw [eS7]; exact hk_a1
        have hk_b3 : m_kd S7 b3 = 100 := by rw [eS7]; exact hk_b3
        have hk_b4 : m_kd S7 b4 = 100 := by rw [eS7]; exact hk_b4
        have hk_b5 : m_kd S7 b5 = 100 := by rw [eS7]; exact hk_b5
        have hk_b6 : m_kd S7 b6 = 100 := by rw [eS7]; exact hk_b6
        obtain ⟨v8, ev8⟩ : ∃ z : Int32, z = x3 + (1 : Int32) := ⟨_, rfl⟩
        refine mj_iinc (v := v8) dX3_hang_89 rfl (by rw [ev8]; rfl) (by decide) rfl rfl ?_
        replace h := h v8 ev8
        refine mj_goto (tgt := 18) dX3_hang_92 (by decide) ?_
        exact h
      · replace h := h.2 hc
        refine mj_aload_n dX3_hang_46 rfl rfl ?_
        obtain ⟨b9, eb9, h⟩ := h
        refine mj_getP dX3_hang_47 fl_X3_18_3 hk_a0 rfl ⟨b9, eb9, fun hk_b9 => ?_⟩
        refine mj_aload_n dX3_hang_50 rfl rfl ?_
        obtain ⟨b10, eb10, h⟩ := h
        refine mj_getP dX3_hang_51 fl_X3_55_5 hk_a1 rfl ⟨b10, eb10, fun hk_b10 => ?_⟩
        refine mj_iload_n dX3_hang_54 rfl rfl ?_
        refine mj_iald dX3_hang_55 (Or.inl hk_b10) ⟨h.1, ?_⟩
        replace h := h.2
        refine mj_dup2 dX3_hang_56 rfl rfl ?_
        refine mj_iald dX3_hang_57 (Or.inl hk_b9) ⟨h.1, ?_⟩
        replace h := h.2
        refine mj_aload_n dX3_hang_58 rfl rfl ?_
        obtain ⟨b11, eb11, h⟩ := h
        refine mj_getP dX3_hang_59 fl_X3_15_3 hk_a0 rfl ⟨b11, eb11, fun hk_b11 => ?_⟩
        refine mj_iload_n dX3_hang_62 rfl rfl ?_
        refine mj_iald dX3_hang_63 (Or.inl hk_b11) ⟨h.1, ?_⟩
        replace h := h.2
        refine mj_iadd dX3_hang_64 ?_
        refine mj_iast dX3_hang_65 hk_b9 ⟨h.1, ?_⟩
        replace h := h.2
        obtain ⟨S12, eS12⟩ : ∃ z, z = m_si S1 b9 ((m_gi S1 b10 (x3).toNatClampNeg)).toNatClampNeg ((m_gi S1 b9 ((m_gi S1 b10 (x3).toNatClampNeg)).toNatClampNeg) + (m_gi S1 b11 (x3).toNatClampNeg)) := ⟨_, rfl⟩
        rw [← eS12]
        replace h := h S12 eS12
        have hk_a0 : m_kd S12 a0 = 3 := by rw [eS12]; exact hk_a0
        have hk_a1 : m_kd S12 a1 = 5 := by rw [eS12]; exact hk_a1
        have hk_b3 : m_kd S12 b3 = 100 := by rw [eS12]; exact hk_b3
        have hk_b9 : m_kd S12 b9 = 100 := by rw [eS12]; exact hk_b9
        have hk_b10 : m_kd S12 b10 = 100 := by rw [eS12]; exact hk_b10
        have hk_b11 : m_kd S12 b11 = 100 := by rw [eS12]; exact hk_b11
        refine mj_goto (tgt := 89) dX3_hang_66 (by decide) ?_
        obtain ⟨v13, ev13⟩ : ∃ z : Int32, z = x3 + (1 : Int32) := ⟨_, rfl⟩
        refine mj_iinc (v := v13) dX3_hang_89 rfl (by rw [ev13]; rfl) (by decide) rfl rfl ?_
        replace h := h v13 ev13
        refine mj_goto (tgt := 18) dX3_hang_92 (by decide) ?_
        exact h
    · replace h := h.2 hc
      refine mj_goto (tgt := 89) dX3_hang_34 (by decide) ?_
      obtain ⟨v14, ev14⟩ : ∃ z : Int32, z = x3 + (1 : Int32) := ⟨_, rfl⟩
      refine mj_iinc (v := v14) dX3_hang_89 rfl (by rw [ev14]; rfl) (by decide) rfl rfl ?_
      replace h := h v14 ev14
      refine mj_goto (tgt := 18) dX3_hang_92 (by decide) ?_
      exact h
abbrev V_X3_spread_0 (l : Launch) (G : mj_G) (a0 : Nat) (a1 : Nat) (x2 : Int32) (x3 : Int32) (S : mj_S) (Q : mj_S → Prop) : Prop := mj_V l G (mj_room 3 0 0) RX3 cX3_spread 5 none false 0 [some (.ref a0), some (.ref a1), some (.int x2), some (.int x3), none] [] S 0 0 (mj_std G none (mj_room 3 0 0) (mj_qv Q))
abbrev V_X3_spread_33 (l : Launch) (G : mj_G) (a0 : Nat) (a1 : Nat) (x4 : Int32) (S : mj_S) (Q : mj_S → Prop) : Prop := mj_V l G (mj_room 3 0 0) RX3 cX3_spread 5 none false 33 [some (.ref a0), some (.ref a1), none, none, some (.int x4)] [] S 0 0 (mj_std G none (mj_room 3 0 0) (mj_qv Q))
theorem e_X3_spread {l : Launch} {G : mj_G} {a0 : Nat} {a1 : Nat} {x2 : Int32} {x3 : Int32} {S : mj_S} {Q : mj_S → Prop} (h : V_X3_spread_0 l G a0 a1 x2 x3 S Q) : M_X3_spread l G a0 a1 x2 x3 S Q := mj_enter (r := 1) (ini := false) (by decide +kernel) (fun h => by cases h) (fun _ => Nat.le_of_ble_eq_true rfl) rfl h
set_option maxRecDepth 20000 in
set_option maxHeartbeats 1000000 in
theorem b_X3_spread_0 {l : Launch} {G : mj_G} {a0 : Nat} {a1 : Nat} {x2 : Int32} {x3 : Int32} {S : mj_S} {Q : mj_S → Prop} (hk_a0 : m_kd S a0 = 3) (hk_a1 : m_kd S a1 = 5) (h : ∃ b1, m_gp S a0 0 = some b1 ∧ (M_J7_fill_53178 l G b1 (0 : Int32) S (fun S2 => M_X10_within l G x2 (0 : Int32) ((m_gi S2 a1 4) - (1 : Int32)) S2 (fun S3 r4 => ((¬ r4 = 0) → ∃ b5, m_gp S3 a0 0 = some b5 ∧ (vp_in x2 (m_ln S3 b5) ∧ (∀ S6 : mj_S, S6 = m_si S3 b5 (x2).toNatClampNeg x3 → V_X3_spread_33 l G a0 a1 (0 : Int32) S6 Q))) ∧ ((r4 = 0) → Q S3))))) : V_X3_spread_0 l G a0 a1 x2 x3 S Q := by
  refine mj_aload_n dX3_spread_0 rfl rfl ?_
  obtain ⟨b1, eb1, h⟩ := h
  refine mj_getP dX3_spread_1 fl_X3_9_3 hk_a0 rfl ⟨b1, eb1, fun hk_b1 => ?_⟩
  refine mj_iconst (v := 0) dX3_spread_4 (by decide) ?_
  refine mj_callSv (as := [.ref b1, .int (0 : Int32)]) (st := []) dX3_spread_5 cal_J7_fill_53178 lk_X3_46 sm_J7_fill_53178 h rfl (Nat.le_of_ble_eq_true rfl) (by decide) ⟨Nat.le_of_ble_eq_true rfl, Nat.le_of_ble_eq_true rfl⟩ (fun S2 h hp => ?_)
  have hk_a0 : m_kd S2 a0 = 3 := m_kd_pre hp hk_a0 (by decide)
  have hk_a1 : m_kd S2 a1 = 5 := m_kd_pre hp hk_a1 (by decide)
  have hk_b1 : m_kd S2 b1 = 100 := m_kd_pre hp hk_b1 (by decide)
  refine mj_iload_n dX3_spread_8 rfl rfl ?_
  refine mj_iconst (v := 0) dX3_spread_9 (by decide) ?_
  refine mj_aload_n dX3_spread_10 rfl rfl ?_
  refine mj_getI dX3_spread_11 fl_X3_58_5 hk_a1 rfl ?_
  refine mj_iconst (v := 1) dX3_spread_14 (by decide) ?_
  refine mj_isub dX3_spread_15 ?_
  refine mj_callNi (as := [.int x2, .int (0 : Int32), .int ((m_gi S2 a1 4) - (1 : Int32))]) (st := []) dX3_spread_16 cal_X10_within ln_X3_61 sm_X10_within h rfl (Nat.le_of_ble_eq_true rfl) (by decide) ⟨Nat.le_of_ble_eq_true rfl, Nat.le_of_ble_eq_true rfl⟩ (fun S3 r4 h hn_r4 hp => ?_)
  have hk_a0 : m_kd S3 a0 = 3 := m_kd_pre hp hk_a0 (by decide)
  have hk_a1 : m_kd S3 a1 = 5 := m_kd_pre hp hk_a1 (by decide)
  have hk_b1 : m_kd S3 b1 = 100 := m_kd_pre hp hk_b1 (by decide)
  refine mj_if_ne (tgt := 23) dX3_spread_19 (by decide) ⟨fun hc => ?_, fun hc => ?_⟩
  · replace h := h.1 hc
    refine mj_aload_n dX3_spread_23 rfl rfl ?_
    obtain ⟨b5, eb5, h⟩ := h
    refine mj_getP dX3_spread_24 fl_X3_9_3 hk_a0 rfl ⟨b5, eb5, fun hk_b5 => ?_⟩
    refine mj_iload_n dX3_spread_27 rfl rfl ?_
    refine mj_iload_n dX3_spread_28 rfl rfl ?_
    refine mj_iast dX3_spread_29 hk_b5 ⟨h.1, ?_⟩
    replace h := h.2
    obtain ⟨S6, eS6⟩ : ∃ z, z = m_si S3 b5 (x2).toNatClampNeg x3 := ⟨_, rfl⟩
    rw [← eS6]
    replace h := h S6 eS6
    have hk_a0 : m_kd S6 a0 = 3 := by rw [eS6]; exact hk_a0
    have hk_a1 : m_kd S6 a1 = 5 := by rw [eS6]; exact hk_a1
    have hk_b1 : m_kd S6 b1 = 100 := by rw [eS6]; exact hk_b1
    have hk_b5 : m_kd S6 b5 = 100 := by rw [eS6]; exact hk_b5
    refine mj_iconst (v := 0) dX3_spread_30 (by decide) ?_
    refine mj_istore dX3_spread_31 (by decide) rfl rfl ?_
    exact mj_lessm [true, true, false, false, true] rfl h
  · replace h := h.2 hc
    exact mj_retv dX3_spread_22 rfl ⟨Nat.le_of_ble_eq_true rfl, Nat.le_of_ble_eq_true rfl⟩ h
set_option maxRecDepth 20000 in
set_option maxHeartbeats 1000000 in
theorem b_X3_spread_33 {l : Launch} {G : mj_G} {a0 : Nat} {a1 : Nat} {x4 : Int32} {S : mj_S} {Q : mj_S → Prop} (hk_a0 : m_kd S a0 = 3) (hk_a1 : m_kd S a1 = 5) (h : (((m_gi S a1 4) ≤ x4) → Q S) ∧ ((¬ ((m_gi S a1 4) ≤ x4)) → M_X3_carry l G a0 a1 S (fun S1 r2 => ((¬ r2 = 0) → ∀ v3 : Int32, v3 = x4 + (1 : Int32) → V_X3_spread_33 l G a0 a1 v3 S1 Q) ∧ ((r2 = 0) → Q S1)))) : V_X3_spread_33 l G a0 a1 x4 S Q := by
  refine mj_iload dX3_spread_33 rfl ?_
  refine mj_aload_n dX3_spread_35 rfl rfl ?_
  refine mj_getI dX3_spread_36 fl_X3_58_5 hk_a1 rfl ?_
  refine mj_icmp_ge (tgt := 59) dX3_spread_39 (by decide) ⟨fun hc => ?_, fun hc => ?_⟩
  · replace h := h.1 hc
    exact mj_retv dX3_spread_59 rfl ⟨Nat.le_of_ble_eq_true rfl, Nat.le_of_ble_eq_true rfl⟩ h
  · replace h := h.2 hc
    refine mj_aload_n dX3_spread_42 rfl rfl ?_
    refine mj_aload_n dX3_spread_43 rfl rfl ?_
    refine mj_callVi (as := [.ref a1]) (st := []) dX3_spread_44 cal_X3_carry lk_X3_65 im_X3_carry se_X3_carry (ci := 3) rfl (by decide) hk_a0 h rfl (Nat.le_of_ble_eq_true rfl) (by decide) ⟨Nat.le_of_ble_eq_true rfl, Nat.le_of_ble_eq_true rfl⟩ (fun S1 r2 h hn_r2 hp => ?_)
    have hk_a0 : m_kd S1 a0 = 3 := m_kd_pre hp hk_a0 (by decide)
    have hk_a1 : m_kd S1 a1 = 5 := m_kd_pre hp hk_a1 (by decide)
    refine mj_if_ne (tgt := 53) dX3_spread_47 (by decide) ⟨fun hc => ?_, fun hc => ?_⟩
    · replace h := h.1 hc
      obtain ⟨v3, ev3⟩ : ∃ z : Int32, z = x4 + (1 : Int32) := ⟨_, rfl⟩
      refine mj_iinc (v := v3) dX3_spread_53 rfl (by rw [ev3]; rfl) (by decide) rfl rfl ?_
      replace h := h v3 ev3
      refine mj_goto (tgt := 33) dX3_spread_56 (by decide) ?_
      exact h
    · replace h := h.2 hc
      refine mj_goto (tgt := 59) dX3_spread_50 (by decide) ?_
      exact mj_retv dX3_spread_59 rfl ⟨Nat.le_of_ble_eq_true rfl, Nat.le_of_ble_eq_true rfl⟩ h
abbrev V_X3_carry_0 (l : Launch) (G : mj_G) (a0 : Nat) (a1 : Nat) (S : mj_S) (Q : mj_S → Int32 → Prop) : Prop := mj_V l G (mj_room 2 0 0) RX3 cX3_carry 4 (some .boolean) false 0 [some (.ref a0), some (.ref a1), none, none] [] S 0 0 (mj_std G (some .boolean) (mj_room 2 0 0) (mj_qi Q))
abbrev V_X3_carry_4 (l : Launch) (G : mj_G) (a0 : Nat) (a1 : Nat) (x2 : Int32) (x3 : Int32) (S : mj_S) (Q : mj_S → Int32 → Prop) : Prop := mj_V l G (mj_room 2 0 0) RX3 cX3_carry 4 (some .boolean) false 4 [some (.ref a0), some (.ref a1), some (.int x2), some (.int x3)] [] S 0 0 (mj_std G (some .boolean) (mj_room 2 0 0) (mj_qi Q))
abbrev V_X3_carry_40 (l : Launch) (G : mj_G) (a0 : Nat) (a1 : Nat) (x2 : Int32) (x3 : Int32) (S : mj_S) (Q : mj_S → Int32 → Prop) : Prop := mj_V l G (mj_room 2 0 0) RX3 cX3_carry 4 (some .boolean) false 40 [some (.ref a0), some (.ref a1), some (.int x2), some (.int x3)] [] S 0 0 (mj_std G (some .boolean) (mj_room 2 0 0) (mj_qi Q))
theorem e_X3_carry {l : Launch} {G : mj_G} {a0 : Nat} {a1 : Nat} {S : mj_S} {Q : mj_S → Int32 → Prop} (h : V_X3_carry_0 l G a0 a1 S Q) : M_X3_carry l G a0 a1 S Q := mj_enter (r := 2) (ini := false) (by decide +kernel) (fun h => by cases h) (fun _ => Nat.le_of_ble_eq_true rfl) rfl h
set_option maxRecDepth 20000 in
set_option maxHeartbeats 1000000 in
theorem b_X3_carry_0 {l : Launch} {G : mj_G} {a0 : Nat} {a1 : Nat} {S : mj_S} {Q : mj_S → Int32 → Prop} (hk_a0 : m_kd S a0 = 3) (hk_a1 : m_kd S a1 = 5) (h : V_X3_carry_4 l G a0 a1 (0 : Int32) (0 : Int32) S Q) : V_X3_carry_0 l G a0 a1 S Q := by
  refine mj_iconst (v := 0) dX3_carry_0 (by decide) ?_
  refine mj_istore_n dX3_carry_1 rfl (by decide) rfl rfl ?_
  refine mj_iconst (v := 0) dX3_carry_2 (by decide) ?_
  refine mj_istore_n dX3_carry_3 rfl (by decide) rfl rfl ?_
  exact h
set_option maxRecDepth 20000 in
set_option maxHeartbeats 1000000 in
theorem b_X3_carry_4 {l : Launch} {G : mj_G} {a0 : Nat} {a1 : Nat} {x2 : Int32} {x3 : Int32} {S : mj_S} {Q : mj_S → Int32 → Prop} (hk_a0 : m_kd S a0 = 3) (hk_a1 : m_kd S a1 = 5) (h : (((m_gi S a1 4) ≤ x3) → narrow .boolean (.int x2) = .int x2 ∧ Q S x2) ∧ ((¬ ((m_gi S a1 4) ≤ x3)) → M_X10_has l G (m_gi S a1 5) x3 S (fun S1 r2 => ((r2 = 0) → V_X3_carry_40 l G a0 a1 x2 x3 S1 Q) ∧ ((¬ (r2 = 0)) → ∃ b3, m_gp S1 a0 2 = some b3 ∧ (vp_in x3 (m_ln S1 b3) ∧ (M_X3_pass l G a0 x3 (x3 + (1 : Int32)) (m_gi S1 b3 (x3).toNatClampNeg) S1 (fun S4 r5 => ∀ v6 : Int32, v6 = (x2 ||| r5) → V_X3_carry_40 l G a0 a1 v6 x3 S4 Q))))))) : V_X3_carry_4 l G a0 a1 x2 x3 S Q := by
  refine mj_iload_n dX3_carry_4 rfl rfl ?_
  refine mj_aload_n dX3_carry_5 rfl rfl ?_
  refine mj_getI dX3_carry_6 fl_X3_58_5 hk_a1 rfl ?_
  refine mj_icmp_ge (tgt := 77) dX3_carry_9 (by decide) ⟨fun hc => ?_, fun hc => ?_⟩
  · replace h := h.1 hc
    refine mj_iload_n dX3_carry_77 rfl rfl ?_
    exact mj_retz dX3_carry_78 rfl h.1 ⟨Nat.le_of_ble_eq_true rfl, Nat.le_of_ble_eq_true rfl⟩ h.2
  · replace h := h.2 hc
    refine mj_aload_n dX3_carry_12 rfl rfl ?_
    refine mj_getI dX3_carry_13 fl_X3_69_5 hk_a1 rfl ?_
    refine mj_iload_n dX3_carry_16 rfl rfl ?_
    refine mj_callNi (as := [.int (m_gi S a1 5), .int x3]) (st := []) dX3_carry_17 cal_X10_has ln_X3_36 sm_X10_has h rfl (Nat.le_of_ble_eq_true rfl) (by decide) ⟨Nat.le_of_ble_eq_true rfl, Nat.le_of_ble_eq_true rfl⟩ (fun S1 r2 h hn_r2 hp => ?_)
    have hk_a0 : m_kd S1 a0 = 3 := m_kd_pre hp hk_a0 (by decide)
    have hk_a1 : m_kd S1 a1 = 5 := m_kd_pre hp hk_a1 (by decide)
    refine mj_if_eq (tgt := 40) dX3_carry_20 (by decide) ⟨fun hc => ?_, fun hc => ?_⟩
    · replace h := h.1 hc
      exact h
    · replace h := h.2 hc
      refine mj_iload_n dX3_carry_23 rfl rfl ?_
      refine mj_aload_n dX3_carry_24 rfl rfl ?_
      refine mj_iload_n dX3_carry_25 rfl rfl ?_
      refine mj_iload_n dX3_carry_26 rfl rfl ?_
      refine mj_iconst (v := 1) dX3_carry_27 (by decide) ?_
      refine mj_iadd dX3_carry_28 ?_
      refine mj_aload_n dX3_carry_29 rfl rfl ?_
      obtain ⟨b3, eb3, h⟩ := h
      refine mj_getP dX3_carry_30 fl_X3_18_3 hk_a0 rfl ⟨b3, eb3, fun hk_b3 => ?_⟩
      refine mj_iload_n dX3_carry_33 rfl rfl ?_
      refine mj_iald dX3_carry_34 (Or.inl hk_b3) ⟨h.1, ?_⟩
      replace h := h.2
      refine mj_callVi (as := [.int x3, .int (x3 + (1 : Int32)), .int (m_gi S1 b3 (x3).toNatClampNeg)]) (st := [.int x2]) dX3_carry_35 cal_X3_pass lk_X3_72 im_X3_pass se_X3_pass (ci := 3) rfl (by decide) hk_a0 h rfl (Nat.le_of_ble_eq_true rfl) (by decide) ⟨Nat.le_of_ble_eq_true rfl, Nat.le_of_ble_eq_true rfl⟩ (fun S4 r5 h hn_r5 hp => ?_)
      have hk_a0 : m_kd S4 a0 = 3 := m_kd_pre hp hk_a0 (by decide)
      have hk_a1 : m_kd S4 a1 = 5 := m_kd_pre hp hk_a1 (by decide)
      have hk_b3 : m_kd S4 b3 = 100 := m_kd_pre hp hk_b3 (by decide)
      refine mj_ior dX3_carry_38 ?_
      refine mj_nmi (fun v6 ev6 => ?_)
      replace h := h v6 ev6
      refine mj_istore_n dX3_carry_39 rfl (by decide) rfl rfl ?_
      exact h
set_option maxRecDepth 20000 in
set_option maxHeartbeats 1000000 in
theorem b_X3_carry_40 {l : Launch} {G : mj_G} {a0 : Nat} {a1 : Nat} {x2 : Int32} {x3 : Int32} {S : mj_S} {Q : mj_S → Int32 → Prop} (hk_a0 : m_kd S a0 = 3) (hk_a1 : m_kd S a1 = 5) (h : M_X10_has l G (m_gi S a1 6) x3 S (fun S1 r2 => ((r2 = 0) → ∀ v3 : Int32, v3 = x3 + (1 : Int32) → V_X3_carry_4 l G a0 a1 x2 v3 S1 Q) ∧ ((¬ (r2 = 0)) → ∃ b4, m_gp S1 a0 3 = some b4 ∧ (vp_in x3 (m_ln S1 b4) ∧ (M_X3_pass l G a0 x3 (x3 + (m_gi S1 a1 0)) (m_gi S1 b4 (x3).toNatClampNeg) S1 (fun S5 r6 => ∀ v7 : Int32, v7 = (x2 ||| r6) → ∀ v8 : Int32, v8 = x3 + (1 : Int32) → V_X3_carry_4 l G a0 a1 v7 v8 S5 Q)))))) : V_X3_carry_40 l G a0 a1 x2 x3 S Q := by
  refine mj_aload_n dX3_carry_40 rfl rfl ?_
  refine mj_getI dX3_carry_41 fl_X3_75_5 hk_a1 rfl ?_
  refine mj_iload_n dX3_carry_44 rfl rfl ?_
  refine mj_callNi (as := [.int (m_gi S a1 6), .int x3]) (st := []) dX3_carry_45 cal_X10_has ln_X3_36 sm_X10_has h rfl (Nat.le_of_ble_eq_true rfl) (by decide) ⟨Nat.le_of_ble_eq_true rfl, Nat.le_of_ble_eq_true rfl⟩ (fun S1 r2 h hn_r2 hp => ?_)
  have hk_a0 : m_kd S1 a0 = 3 := m_kd_pre hp hk_a0 (by decide)
  have hk_a1 : m_kd S1 a1 = 5 := m_kd_pre hp hk_a1 (by decide)
  refine mj_if_eq (tgt := 71) dX3_carry_48 (by decide) ⟨fun hc => ?_, fun hc => ?_⟩
  · replace h := h.1 hc
    obtain ⟨v3, ev3⟩ : ∃ z : Int32, z = x3 + (1 : Int32) := ⟨_, rfl⟩
    refine mj_iinc (v := v3) dX3_carry_71 rfl (by rw [ev3]; rfl) (by decide) rfl rfl ?_
    replace h := h v3 ev3
    refine mj_goto (tgt := 4) dX3_carry_74 (by decide) ?_
    exact h
  · replace h := h.2 hc
    refine mj_iload_n dX3_carry_51 rfl rfl ?_
    refine mj_aload_n dX3_carry_52 rfl rfl ?_
    refine mj_iload_n dX3_carry_53 rfl rfl ?_
    refine mj_iload_n dX3_carry_54 rfl rfl ?_
    refine mj_aload_n dX3_carry_55 rfl rfl ?_
    refine mj_getI dX3_carry_56 fl_X3_78_5 hk_a1 rfl ?_
    refine mj_iadd dX3_carry_59 ?_
    refine mj_aload_n dX3_carry_60 rfl rfl ?_
    obtain ⟨b4, eb4, h⟩ := h
    refine mj_getP dX3_carry_61 fl_X3_21_3 hk_a0 rfl ⟨b4, eb4, fun hk_b4 => ?_⟩
    refine mj_iload_n dX3_carry_64 rfl rfl ?_
    refine mj_iald dX3_carry_65 (Or.inl hk_b4) ⟨h.1, ?_⟩
    replace h := h.2
    refine mj_callVi (as := [.int x3, .int (x3 + (m_gi S1 a1 0)), .int (m_gi S1 b4 (x3).toNatClampNeg)]) (st := [.int x2]) dX3_carry_66 cal_X3_pass lk_X3_72 im_X3_pass se_X3_pass (ci := 3) rfl (by decide) hk_a0 h rfl (Nat.le_of_ble_eq_true rfl) (by decide) ⟨Nat.le_of_ble_eq_true rfl, Nat.le_of_ble_eq_true rfl⟩ (fun S5 r6 h hn_r6 hp => ?_)
    have hk_a0 : m_kd S5 a0 = 3 := m_kd_pre hp hk_a0 (by decide)
    have hk_a1 : m_kd S5 a1 = 5 := m_kd_pre hp hk_a1 (by decide)
    have hk_b4 : m_kd S5 b4 = 100 := m_kd_pre hp hk_b4 (by decide)
    refine mj_ior dX3_carry_69 ?_
    refine mj_nmi (fun v7 ev7 => ?_)
    replace h := h v7 ev7
    refine mj_istore_n dX3_carry_70 rfl (by decide) rfl rfl ?_
    obtain ⟨v8, ev8⟩ : ∃ z : Int32, z = x3 + (1 : Int32) := ⟨_, rfl⟩
    refine mj_iinc (v := v8) dX3_carry_71 rfl (by rw [ev8]; rfl) (by decide) rfl rfl ?_
    replace h := h v8 ev8
    refine mj_goto (tgt := 4) dX3_carry_74 (by decide) ?_
    exact h
abbrev V_X3_pass_0 (l : Launch) (G : mj_G) (a0 : Nat) (x1 : Int32) (x2 : Int32) (x3 : Int32) (S : mj_S) (Q : mj_S → Int32 → Prop) : Prop := mj_V l G (mj_room 1 0 0) RX3 cX3_pass 4 (some .boolean) false 0 [some (.ref a0), some (.int x1), some (.int x2), some (.int x3)] [] S 0 0 (mj_std G (some .boolean) (mj_room 1 0 0) (mj_qi Q))
theorem e_X3_pass {l : Launch} {G : mj_G} {a0 : Nat} {x1 : Int32} {x2 : Int32} {x3 : Int32} {S : mj_S} {Q : mj_S → Int32 → Prop} (h : V_X3_pass_0 l G a0 x1 x2 x3 S Q) : M_X3_pass l G a0 x1 x2 x3 S Q := mj_enter (r := 0) (ini := false) (by decide +kernel) (fun h => by cases h) (fun _ => Nat.le_of_ble_eq_true rfl) rfl h
set_option maxRecDepth 20000 in
set_option maxHeartbeats 1000000 in
theorem b_X3_pass_0 {l : Launch} {G : mj_G} {a0 : Nat} {x1 : Int32} {x2 : Int32} {x3 : Int32} {S : mj_S} {Q : mj_S → Int32 → Prop} (hk_a0 : m_kd S a0 = 3) (h : ∃ b1, m_gp S a0 0 = some b1 ∧ (vp_in x1 (m_ln S b1) ∧ (∃ b2, m_gp S a0 0 = some b2 ∧ (vp_in x2 (m_ln S b2) ∧ (((((m_gi S b1 (x1).toNatClampNeg) - x3) ≤ (m_gi S b2 (x2).toNatClampNeg)) → ∃ b3, m_gp S a0 0 = some b3 ∧ (vp_in x2 (m_ln S b3) ∧ (∃ b4, m_gp S a0 0 = some b4 ∧ (vp_in x1 (m_ln S b4) ∧ (((((m_gi S b3 (x2).toNatClampNeg) - x3) ≤ (m_gi S b4 (x1).toNatClampNeg)) → Q S (0 : Int32)) ∧ ((¬ (((m_gi S b3 (x2).toNatClampNeg) - x3) ≤ (m_gi S b4 (x1).toNatClampNeg))) → ∃ b5, m_gp S a0 0 = some b5 ∧ (∃ b6, m_gp S a0 0 = some b6 ∧ (vp_in x2 (m_ln S b6) ∧ (vp_in x1 (m_ln S b5) ∧ (∀ S7 : mj_S, S7 = m_si S b5 (x1).toNatClampNeg ((m_gi S b6 (x2).toNatClampNeg) - x3) → Q S7 (1 : Int32))))))))))) ∧ ((¬ (((m_gi S b1 (x1).toNatClampNeg) - x3) ≤ (m_gi S b2 (x2).toNatClampNeg))) → ∃ b8, m_gp S a0 0 = some b8 ∧ (∃ b9, m_gp S a0 0 = some b9 ∧ (vp_in x1 (m_ln S b9) ∧ (vp_in x2 (m_ln S b8) ∧ (∀ S10 : mj_S, S10 = m_si S b8 (x2).toNatClampNeg ((m_gi S b9 (x1).toNatClampNeg) - x3) → Q S10 (1 : Int32))))))))))) : V_X3_pass_0 l G a0 x1 x2 x3 S Q := by
  refine mj_aload_n dX3_pass_0 rfl rfl ?_
  obtain ⟨b1, eb1, h⟩ := h
  refine mj_getP dX3_pass_1 fl_X3_9_3 hk_a0 rfl ⟨b1, eb1, fun hk_b1 => ?_⟩
  refine mj_iload_n dX3_pass_4 rfl rfl ?_
  refine mj_iald dX3_pass_5 (Or.inl hk_b1) ⟨h.1, ?_⟩
  replace h := h.2
  refine mj_iload_n dX3_pass_6 rfl rfl ?_
  refine mj_isub dX3_pass_7 ?_
  refine mj_aload_n dX3_pass_8 rfl rfl ?_
  obtain ⟨b2, eb2, h⟩ := h
  refine mj_getP dX3_pass_9 fl_X3_9_3 hk_a0 rfl ⟨b2, eb2, fun hk_b2 => ?_⟩
  refine mj_iload_n dX3_pass_12 rfl rfl ?_
  refine mj_iald dX3_pass_13 (Or.inl hk_b2) ⟨h.1, ?_⟩
  replace h := h.2
  refine mj_icmp_le (tgt := 33) dX3_pass_14 (by decide) ⟨fun hc => ?_, fun hc => ?_⟩
  · replace h := h.1 hc
    refine mj_aload_n dX3_pass_33 rfl rfl ?_
    obtain ⟨b3, eb3, h⟩ := h
    refine mj_getP dX3_pass_34 fl_X3_9_3 hk_a0 rfl ⟨b3, eb3, fun hk_b3 => ?_⟩
    refine mj_iload_n dX3_pass_37 rfl rfl ?_
    refine mj_iald dX3_pass_38 (Or.inl hk_b3) ⟨h.1, ?_⟩
    replace h := h.2
    refine mj_iload_n dX3_pass_39 rfl rfl ?_
    refine mj_isub dX3_pass_40 ?_
    refine mj_aload_n dX3_pass_41 rfl rfl ?_
    obtain ⟨b4, eb4, h⟩ := h
    refine mj_getP dX3_pass_42 fl_X3_9_3 hk_a0 rfl ⟨b4, eb4, fun hk_b4 => ?_⟩
    refine mj_iload_n dX3_pass_45 rfl rfl ?_
    refine mj_iald dX3_pass_46 (Or.inl hk_b4) ⟨h.1, ?_⟩
    replace h := h.2
    refine mj_icmp_le (tgt := 66) dX3_pass_47 (by decide) ⟨fun hc => ?_, fun hc => ?_⟩
    · replace h := h.1 hc
      refine mj_iconst (v := 0) dX3_pass_66 (by decide) ?_
      exact mj_retz dX3_pass_67 rfl (rfl) ⟨Nat.le_of_ble_eq_true rfl, Nat.le_of_ble_eq_true rfl⟩ h
    · replace h := h.2 hc
      refine mj_aload_n dX3_pass_50 rfl rfl ?_
      obtain ⟨b5, eb5, h⟩ := h
      refine mj_getP dX3_pass_51 fl_X3_9_3 hk_a0 rfl ⟨b5, eb5, fun hk_b5 => ?_⟩
      refine mj_iload_n dX3_pass_54 rfl rfl ?_
      refine mj_aload_n dX3_pass_55 rfl rfl ?_
      obtain ⟨b6, eb6, h⟩ := h
      refine mj_getP dX3_pass_56 fl_X3_9_3 hk_a0 rfl ⟨b6, eb6, fun hk_b6 => ?_⟩
      refine mj_iload_n dX3_pass_59 rfl rfl ?_
      refine mj_iald dX3_pass_60 (Or.inl hk_b6) ⟨h.1, ?_⟩
      replace h := h.2
      refine mj_iload_n dX3_pass_61 rfl rfl ?_
      refine mj_isub dX3_pass_62 ?_
      refine mj_iast dX3_pass_63 hk_b5 ⟨h.1, ?_⟩
      replace h := h.2
      obtain ⟨S7, eS7⟩ : ∃ z, z = m_si S b5 (x1).toNatClampNeg ((m_gi S b6 (x2).toNatClampNeg) - x3) := ⟨_, rfl⟩
      rw [← eS7]
      replace h := h S7 eS7
      have hk_a0 : m_kd S7 a0 = 3 := by rw [eS7]; exact hk_a0
      have hk_b1 : m_kd S7 b1 = 100 := by rw [eS7]; exact hk_b1
      have hk_b2 : m_kd S7 b2 = 100 := by rw [eS7]; exact hk_b2
      have hk_b3 : m_kd S7 b3 = 100 := by rw [eS7]; exact hk_b3
      have hk_b4 : m_kd S7 b4 = 100 := by rw [eS7]; exact hk_b4
      have hk_b5 : m_kd S7 b5 = 100 := by rw [eS7]; exact hk_b5
      have hk_b6 : m_kd S7 b6 = 100 := by rw [eS7]; exact hk_b6
      refine mj_iconst (v := 1) dX3_pass_64 (by decide) ?_
      exact mj_retz dX3_pass_65 rfl (rfl) ⟨Nat.le_of_ble_eq_true rfl, Nat.le_of_ble_eq_true rfl⟩ h
  · replace h := h.2 hc
    refine mj_aload_n dX3_pass_17 rfl rfl ?_
    obtain ⟨b8, eb8, h⟩ := h
    refine mj_getP dX3_pass_18 fl_X3_9_3 hk_a0 rfl ⟨b8, eb8, fun hk_b8 => ?_⟩
    refine mj_iload_n dX3_pass_21 rfl rfl ?_
    refine mj_aload_n dX3_pass_22 rfl rfl ?_
    obtain ⟨b9, eb9, h⟩ := h
    refine mj_getP dX3_pass_23 fl_X3_9_3 hk_a0 rfl ⟨b9, eb9, fun hk_b9 => ?_⟩
    refine mj_iload_n dX3_pass_26 rfl rfl ?_
    refine mj_iald dX3_pass_27 (Or.inl hk_b9) ⟨h.1, ?_⟩
    replace h := h.2
    refine mj_iload_n dX3_pass_28 rfl rfl ?_
    refine mj_isub dX3_pass_29 ?_
    refine mj_iast dX3_pass_30 hk_b8 ⟨h.1, ?_⟩
    replace h := h.2
    obtain ⟨S10, eS10⟩ : ∃ z, z = m_si S b8 (x2).toNatClampNeg ((m_gi S b9 (x1).toNatClampNeg) - x3) := ⟨_, rfl⟩
    rw [← eS10]
    replace h := h S10 eS10
    have hk_a0 : m_kd S10 a0 = 3 := by rw [eS10]; exact hk_a0
    have hk_b1 : m_kd S10 b1 = 100 := by rw [eS10]; exact hk_b1
    have hk_b2 : m_kd S10 b2 = 100 := by rw [eS10]; exact hk_b2
    have hk_b8 : m_kd S10 b8 = 100 := by rw [eS10]; exact hk_b8
    have hk_b9 : m_kd S10 b9 = 100 := by rw [eS10]; exact hk_b9
    refine mj_iconst (v := 1) dX3_pass_31 (by decide) ?_
    exact mj_retz dX3_pass_32 rfl (rfl) ⟨Nat.le_of_ble_eq_true rfl, Nat.le_of_ble_eq_true rfl⟩ h
abbrev V_X3_sum_0 (l : Launch) (G : mj_G) (a0 : Nat) (x1 : Int32) (S : mj_S) (Q : mj_S → Int32 → Prop) : Prop := mj_V l G (mj_room 1 0 0) RX3 cX3_sum 4 (some .int) false 0 [some (.ref a0), some (.int x1), none, none] [] S 0 0 (mj_std G (some .int) (mj_room 1 0 0) (mj_qi Q))
abbrev V_X3_sum_4 (l : Launch) (G : mj_G) (a0 : Nat) (x1 : Int32) (x2 : Int32) (x3 : Int32) (S : mj_S) (Q : mj_S → Int32 → Prop) : Prop := mj_V l G (mj_room 1 0 0) RX3 cX3_sum 4 (some .int) false 4 [some (.ref a0), some (.int x1), some (.int x2), some (.int x3)] [] S 0 0 (mj_std G (some .int) (mj_room 1 0 0) (mj_qi Q))
theorem e_X3_sum {l : Launch} {G : mj_G} {a0 : Nat} {x1 : Int32} {S : mj_S} {Q : mj_S → Int32 → Prop} (h : V_X3_sum_0 l G a0 x1 S Q) : M_X3_sum l G a0 x1 S Q := mj_enter (r := 2) (ini := false) (by decide +kernel) (fun h => by cases h) (fun _ => Nat.le_of_ble_eq_true rfl) rfl h
set_option maxRecDepth 20000 in
set_option maxHeartbeats 1000000 in
theorem b_X3_sum_0 {l : Launch} {G : mj_G} {a0 : Nat} {x1 : Int32} {S : mj_S} {Q : mj_S → Int32 → Prop} (hk_a0 : m_kd S a0 = 3) (h : V_X3_sum_4 l G a0 x1 (0 : Int32) (0 : Int32) S Q) : V_X3_sum_0 l G a0 x1 S Q := by
  refine mj_iconst (v := 0) dX3_sum_0 (by decide) ?_
  refine mj_istore_n dX3_sum_1 rfl (by decide) rfl rfl ?_
  refine mj_iconst (v := 0) dX3_sum_2 (by decide) ?_
  refine mj_istore_n dX3_sum_3 rfl (by decide) rfl rfl ?_
  exact h
set_option maxRecDepth 20000 in
set_option maxHeartbeats 1000000 in
theorem b_X3_sum_4 {l : Launch} {G : mj_G} {a0 : Nat} {x1 : Int32} {x2 : Int32} {x3 : Int32} {S : mj_S} {Q : mj_S → Int32 → Prop} (hk_a0 : m_kd S a0 = 3) (h : ((x1 ≤ x3) → Q S x2) ∧ ((¬ (x1 ≤ x3)) → ∃ b1, m_gp S a0 0 = some b1 ∧ (vp_in x3 (m_ln S b1) ∧ (∀ v2 : Int32, v2 = (x2 + (m_gi S b1 (x3).toNatClampNeg)) → ∀ v3 : Int32, v3 = x3 + (1 : Int32) → V_X3_sum_4 l G a0 x1 v2 v3 S Q)))) : V_X3_sum_4 l G a0 x1 x2 x3 S Q := by
  refine mj_iload_n dX3_sum_4 rfl rfl ?_
  refine mj_iload_n dX3_sum_5 rfl rfl ?_
  refine mj_icmp_ge (tgt := 24) dX3_sum_6 (by decide) ⟨fun hc => ?_, fun hc => ?_⟩
  · replace h := h.1 hc
    refine mj_iload_n dX3_sum_24 rfl rfl ?_
    exact mj_reti dX3_sum_25 rfl ⟨Nat.le_of_ble_eq_true rfl, Nat.le_of_ble_eq_true rfl⟩ h
  · replace h := h.2 hc
    refine mj_iload_n dX3_sum_9 rfl rfl ?_
    refine mj_aload_n dX3_sum_10 rfl rfl ?_
    obtain ⟨b1, eb1, h⟩ := h
    refine mj_getP dX3_sum_11 fl_X3_9_3 hk_a0 rfl ⟨b1, eb1, fun hk_b1 => ?_⟩
    refine mj_iload_n dX3_sum_14 rfl rfl ?_
    refine mj_iald dX3_sum_15 (Or.inl hk_b1) ⟨h.1, ?_⟩
    replace h := h.2
    refine mj_iadd dX3_sum_16 ?_
    refine mj_nmi (fun v2 ev2 => ?_)
    replace h := h v2 ev2
    refine mj_istore_n dX3_sum_17 rfl (by decide) rfl rfl ?_
    obtain ⟨v3, ev3⟩ : ∃ z : Int32, z = x3 + (1 : Int32) := ⟨_, rfl⟩
    refine mj_iinc (v := v3) dX3_sum_18 rfl (by rw [ev3]; rfl) (by decide) rfl rfl ?_
    replace h := h v3 ev3
    refine mj_goto (tgt := 4) dX3_sum_21 (by decide) ?_
    exact h
abbrev V_X3_darkness_0 (l : Launch) (G : mj_G) (a0 : Nat) (x1 : Int32) (S : mj_S) (Q : mj_S → Int32 → Prop) : Prop := mj_V l G (mj_room 1 0 0) RX3 cX3_darkness 4 (some .int) false 0 [some (.ref a0), some (.int x1), none, none] [] S 0 0 (mj_std G (some .int) (mj_room 1 0 0) (mj_qi Q))
abbrev V_X3_darkness_4 (l : Launch) (G : mj_G) (a0 : Nat) (x1 : Int32) (x2 : Int32) (x3 : Int32) (S : mj_S) (Q : mj_S → Int32 → Prop) : Prop := mj_V l G (mj_room 1 0 0) RX3 cX3_darkness 4 (some .int) false 4 [some (.ref a0), some (.int x1), some (.int x2), some (.int x3)] [] S 0 0 (mj_std G (some .int) (mj_room 1 0 0) (mj_qi Q))
theorem e_X3_darkness {l : Launch} {G : mj_G} {a0 : Nat} {x1 : Int32} {S : mj_S} {Q : mj_S → Int32 → Prop} (h : V_X3_darkness_0 l G a0 x1 S Q) : M_X3_darkness l G a0 x1 S Q := mj_enter (r := 2) (ini := false) (by decide +kernel) (fun h => by cases h) (fun _ => Nat.le_of_ble_eq_true rfl) rfl h
set_option maxRecDepth 20000 in
set_option maxHeartbeats 1000000 in
theorem b_X3_darkness_0 {l : Launch} {G : mj_G} {a0 : Nat} {x1 : Int32} {S : mj_S} {Q : mj_S → Int32 → Prop} (hk_a0 : m_kd S a0 = 3) (h : V_X3_darkness_4 l G a0 x1 (0 : Int32) (0 : Int32) S Q) : V_X3_darkness_0 l G a0 x1 S Q := by
  refine mj_iconst (v := 0) dX3_darkness_0 (by decide) ?_
  refine mj_istore_n dX3_darkness_1 rfl (by decide) rfl rfl ?_
  refine mj_iconst (v := 0) dX3_darkness_2 (by decide) ?_
  refine mj_istore_n dX3_darkness_3 rfl (by decide) rfl rfl ?_
  exact h
set_option maxRecDepth 20000 in
set_option maxHeartbeats 1000000 in
theorem b_X3_darkness_4 {l : Launch} {G : mj_G} {a0 : Nat} {x1 : Int32} {x2 : Int32} {x3 : Int32} {S : mj_S} {Q : mj_S → Int32 → Prop} (hk_a0 : m_kd S a0 = 3) (h : ((x1 ≤ x3) → Q S x2) ∧ ((¬ (x1 ≤ x3)) → ∃ b1, m_gp S a0 0 = some b1 ∧ (vp_in x3 (m_ln S b1) ∧ (((¬ (m_gi S b1 (x3).toNatClampNeg) = 0) → ∀ v2 : Int32, v2 = x3 + (1 : Int32) → V_X3_darkness_4 l G a0 x1 x2 v2 S Q) ∧ (((m_gi S b1 (x3).toNatClampNeg) = 0) → ∀ v3 : Int32, v3 = (x2 ||| ((1 : Int32) <<< (x3 &&& 31))) → ∀ v4 : Int32, v4 = x3 + (1 : Int32) → V_X3_darkness_4 l G a0 x1 v3 v4 S Q))))) : V_X3_darkness_4 l G a0 x1 x2 x3 S Q := by
  refine mj_iload_n dX3_darkness_4 rfl rfl ?_
  refine mj_iload_n dX3_darkness_5 rfl rfl ?_
  refine mj_icmp_ge (tgt := 30) dX3_darkness_6 (by decide) ⟨fun hc => ?_, fun hc => ?_⟩
  · replace h := h.1 hc
    refine mj_iload_n dX3_darkness_30 rfl rfl ?_
    exact mj_reti dX3_darkness_31 rfl ⟨Nat.le_of_ble_eq_true rfl, Nat.le_of_ble_eq_true rfl⟩ h
  · replace h := h.2 hc
    refine mj_aload_n dX3_darkness_9 rfl rfl ?_
    obtain ⟨b1, eb1, h⟩ := h
    refine mj_getP dX3_darkness_10 fl_X3_9_3 hk_a0 rfl ⟨b1, eb1, fun hk_b1 => ?_⟩
    refine mj_iload_n dX3_darkness_13 rfl rfl ?_
    refine mj_iald dX3_darkness_14 (Or.inl hk_b1) ⟨h.1, ?_⟩
    replace h := h.2
    refine mj_if_ne (tgt := 24) dX3_darkness_15 (by decide) ⟨fun hc => ?_, fun hc => ?_⟩
    · replace h := h.1 hc
      obtain ⟨v2, ev2⟩ : ∃ z : Int32, z = x3 + (1 : Int32) := ⟨_, rfl⟩
      refine mj_iinc (v := v2) dX3_darkness_24 rfl (by rw [ev2]; rfl) (by decide) rfl rfl ?_
      replace h := h v2 ev2
      refine mj_goto (tgt := 4) dX3_darkness_27 (by decide) ?_
      exact h
    · replace h := h.2 hc
      refine mj_iload_n dX3_darkness_18 rfl rfl ?_
      refine mj_iconst (v := 1) dX3_darkness_19 (by decide) ?_
      refine mj_iload_n dX3_darkness_20 rfl rfl ?_
      refine mj_ishl dX3_darkness_21 ?_
      refine mj_ior dX3_darkness_22 ?_
      refine mj_nmi (fun v3 ev3 => ?_)
      replace h := h v3 ev3
      refine mj_istore_n dX3_darkness_23 rfl (by decide) rfl rfl ?_
      obtain ⟨v4, ev4⟩ : ∃ z : Int32, z = x3 + (1 : Int32) := ⟨_, rfl⟩
      refine mj_iinc (v := v4) dX3_darkness_24 rfl (by rw [ev4]; rfl) (by decide) rfl rfl ?_
      replace h := h v4 ev4
      refine mj_goto (tgt := 4) dX3_darkness_27 (by decide) ?_
      exact h
