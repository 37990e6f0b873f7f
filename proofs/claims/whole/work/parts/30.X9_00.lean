abbrev V_X9_init_0 (l : Launch) (G : mj_G) (a0 : Nat) (S : mj_S) (Q : mj_S → Prop) : Prop := mj_V l G (mj_room 1 2 242) RX9 cX9_init 1 none true 0 [some (.ref a0)] [] S 0 0 (mj_std G none (mj_room 1 2 242) (mj_qv Q))
theorem e_X9_init {l : Launch} {G : mj_G} {a0 : Nat} {S : mj_S} {Q : mj_S → Prop} (h : V_X9_init_0 l G a0 S Q) : M_X9_init l G a0 S Q := mj_enter (r := 0) (ini := true) (by decide +kernel) (fun _ => rfl) (fun _ => Nat.le_of_ble_eq_true rfl) rfl h
set_option maxRecDepth 20000 in
set_option maxHeartbeats 1000000 in
theorem b_X9_init_0 {l : Launch} {G : mj_G} {a0 : Nat} {S : mj_S} {Q : mj_S → Prop} (hk_a0 : m_kd S a0 = 8) (h : ∀ S1 : mj_S, S1 = m_si S a0 0 (0 : Int32) → ∀ q2 : Nat, q2 = S1.1.length → ∀ S3 : mj_S, S3 = m_nw S1 100 121 → ∀ S4 : mj_S, S4 = m_sp S3 a0 1 (some q2) → ∀ q5 : Nat, q5 = S4.1.length → ∀ S6 : mj_S, S6 = m_nw S4 100 121 → ∀ S7 : mj_S, S7 = m_sp S6 a0 2 (some q5) → Q S7) : V_X9_init_0 l G a0 S Q := by
  refine mj_aload_n dX9_init_0 rfl rfl ?_
  refine mj_objInit (st := []) dX9_init_1 oi_X9_3 oi_im oi_co (by decide) (Nat.le_of_ble_eq_true rfl) ?_
  refine mj_aload_n dX9_init_4 rfl rfl ?_
  refine mj_iconst (v := 0) dX9_init_5 (by decide) ?_
  refine mj_putI dX9_init_6 fl_X9_9_8 hk_a0 (Or.inl rfl) rfl rfl rfl ?_
  obtain ⟨S1, eS1⟩ : ∃ z, z = m_si S a0 0 (0 : Int32) := ⟨_, rfl⟩
  rw [← eS1]
  replace h := h S1 eS1
  have hk_a0 : m_kd S1 a0 = 8 := by rw [eS1]; exact hk_a0
  refine mj_aload_n dX9_init_9 rfl rfl ?_
  refine mj_bipush (v := 121) dX9_init_10 (by decide) ?_
  refine mj_newI (N := 121) dX9_init_12 ar_int (by decide) (by decide) (by decide) (Nat.le_of_ble_eq_true rfl) (Nat.le_of_ble_eq_true rfl) ?_
  obtain ⟨q2, eq2⟩ : ∃ z, z = S1.1.length := ⟨_, rfl⟩
  rw [← eq2]
  obtain ⟨S3, eS3⟩ : ∃ z, z = m_nw S1 100 121 := ⟨_, rfl⟩
  rw [← eS3]
  replace h := h q2 eq2 S3 eS3
  have hp : S1.1 <+: S3.1 := by rw [eS3]; exact List.prefix_append _ _
  have hk_q2 : m_kd S3 q2 = 100 := by rw [eS3, eq2]; exact m_kd_nwl
  have hk_a0 : m_kd S3 a0 = 8 := m_kd_pre hp hk_a0 (by decide)
  refine mj_putP dX9_init_14 fl_X9_15_8 hk_a0 (Or.inr ⟨rfl, rfl⟩) rfl hk_q2 (fun _ => rfl) (fun _ => rfl) ?_
  obtain ⟨S4, eS4⟩ : ∃ z, z = m_sp S3 a0 1 (some q2) := ⟨_, rfl⟩
  rw [← eS4]
  replace h := h S4 eS4
  have hk_a0 : m_kd S4 a0 = 8 := by rw [eS4]; exact hk_a0
  have hk_q2 : m_kd S4 q2 = 100 := by rw [eS4]; exact hk_q2
  refine mj_aload_n dX9_init_17 rfl rfl ?_
  refine mj_bipush (v := 121) dX9_init_18 (by decide) ?_
  refine mj_newI (N := 121) dX9_init_20 ar_int (by decide) (by decide) (by decide) (Nat.le_of_ble_eq_true rfl) (Nat.le_of_ble_eq_true rfl) ?_
  obtain ⟨q5, eq5⟩ : ∃ z, z = S4.1.length := ⟨_, rfl⟩
  rw [← eq5]
  obtain ⟨S6, eS6⟩ : ∃ z, z = m_nw S4 100 121 := ⟨_, rfl⟩
  rw [← eS6]
  replace h := h q5 eq5 S6 eS6
  have hp : S4.1 <+: S6.1 := by rw [eS6]; exact List.prefix_append _ _
  have hk_q5 : m_kd S6 q5 = 100 := by rw [eS6, eq5]; exact m_kd_nwl
  have hk_a0 : m_kd S6 a0 = 8 := m_kd_pre hp hk_a0 (by decide)
  have hk_q2 : m_kd S6 q2 = 100 := m_kd_pre hp hk_q2 (by decide)
  refine mj_putP dX9_init_22 fl_X9_19_8 hk_a0 (Or.inr ⟨rfl, rfl⟩) rfl hk_q5 (fun _ => rfl) (fun _ => rfl) ?_
  obtain ⟨S7, eS7⟩ : ∃ z, z = m_sp S6 a0 2 (some q5) := ⟨_, rfl⟩
  rw [← eS7]
  replace h := h S7 eS7
  have hk_a0 : m_kd S7 a0 = 8 := by rw [eS7]; exact hk_a0
  have hk_q2 : m_kd S7 q2 = 100 := by rw [eS7]; exact hk_q2
  have hk_q5 : m_kd S7 q5 = 100 := by rw [eS7]; exact hk_q5
  exact mj_retv dX9_init_25 rfl ⟨Nat.le_of_ble_eq_true rfl, Nat.le_of_ble_eq_true rfl⟩ h
abbrev V_X9_lay_0 (l : Launch) (G : mj_G) (a0 : Nat) (x1 : Int32) (S : mj_S) (Q : mj_S → Prop) : Prop := mj_V l G (mj_room 2 0 0) RX9 cX9_lay 2 none false 0 [some (.ref a0), some (.int x1)] [] S 0 0 (mj_std G none (mj_room 2 0 0) (mj_qv Q))
theorem e_X9_lay {l : Launch} {G : mj_G} {a0 : Nat} {x1 : Int32} {S : mj_S} {Q : mj_S → Prop} (h : V_X9_lay_0 l G a0 x1 S Q) : M_X9_lay l G a0 x1 S Q := mj_enter (r := 0) (ini := false) (by decide +kernel) (fun h => by cases h) (fun _ => Nat.le_of_ble_eq_true rfl) rfl h
set_option maxRecDepth 20000 in
set_option maxHeartbeats 1000000 in
theorem b_X9_lay_0 {l : Launch} {G : mj_G} {a0 : Nat} {x1 : Int32} {S : mj_S} {Q : mj_S → Prop} (hk_a0 : m_kd S a0 = 8) (h : M_J9_min_7cf53 l G x1 (11 : Int32) S (fun S1 r2 => ∀ S3 : mj_S, S3 = m_si S1 a0 0 r2 → Q S3)) : V_X9_lay_0 l G a0 x1 S Q := by
  refine mj_aload_n dX9_lay_0 rfl rfl ?_
  refine mj_iload_n dX9_lay_1 rfl rfl ?_
  refine mj_bipush (v := 11) dX9_lay_2 (by decide) ?_
  refine mj_callSi (as := [.int x1, .int (11 : Int32)]) (st := [.ref a0]) dX9_lay_4 cal_J9_min_7cf53 lk_X9_22 sm_J9_min_7cf53 h rfl (Nat.le_of_ble_eq_true rfl) (by decide) ⟨Nat.le_of_ble_eq_true rfl, Nat.le_of_ble_eq_true rfl⟩ (fun S1 r2 h hn_r2 hp => ?_)
  have hk_a0 : m_kd S1 a0 = 8 := m_kd_pre hp hk_a0 (by decide)
  refine mj_putI dX9_lay_7 fl_X9_9_8 hk_a0 (Or.inl rfl) rfl rfl rfl ?_
  obtain ⟨S3, eS3⟩ : ∃ z, z = m_si S1 a0 0 r2 := ⟨_, rfl⟩
  rw [← eS3]
  replace h := h S3 eS3
  have hk_a0 : m_kd S3 a0 = 8 := by rw [eS3]; exact hk_a0
  exact mj_retv dX9_lay_10 rfl ⟨Nat.le_of_ble_eq_true rfl, Nat.le_of_ble_eq_true rfl⟩ h
abbrev V_X9_put_0 (l : Launch) (G : mj_G) (a0 : Nat) (x1 : Int32) (x2 : Int32) (x3 : Int32) (x4 : Int32) (S : mj_S) (Q : mj_S → Prop) : Prop := mj_V l G (mj_room 2 0 0) RX9 cX9_put 5 none false 0 [some (.ref a0), some (.int x1), some (.int x2), some (.int x3), some (.int x4)] [] S 0 0 (mj_std G none (mj_room 2 0 0) (mj_qv Q))
theorem e_X9_put {l : Launch} {G : mj_G} {a0 : Nat} {x1 : Int32} {x2 : Int32} {x3 : Int32} {x4 : Int32} {S : mj_S} {Q : mj_S → Prop} (h : V_X9_put_0 l G a0 x1 x2 x3 x4 S Q) : M_X9_put l G a0 x1 x2 x3 x4 S Q := mj_enter (r := 0) (ini := false) (by decide +kernel) (fun h => by cases h) (fun _ => Nat.le_of_ble_eq_true rfl) rfl h
set_option maxRecDepth 20000 in
set_option maxHeartbeats 1000000 in
theorem b_X9_put_0 {l : Launch} {G : mj_G} {a0 : Nat} {x1 : Int32} {x2 : Int32} {x3 : Int32} {x4 : Int32} {S : mj_S} {Q : mj_S → Prop} (hk_a0 : m_kd S a0 = 8) (h : M_X10_within l G x1 (0 : Int32) ((m_gi S a0 0) - (1 : Int32)) S (fun S1 r2 => ((r2 = 0) → Q S1) ∧ ((¬ (r2 = 0)) → M_X10_within l G x2 (0 : Int32) ((m_gi S1 a0 0) - (1 : Int32)) S1 (fun S3 r4 => ((r4 = 0) → Q S3) ∧ ((¬ (r4 = 0)) → ∃ b5, m_gp S3 a0 1 = some b5 ∧ (vp_in ((x1 * (11 : Int32)) + x2) (m_ln S3 b5) ∧ (∀ S6 : mj_S, S6 = m_si S3 b5 (((x1 * (11 : Int32)) + x2)).toNatClampNeg x3 → ∃ b7, m_gp S6 a0 2 = some b7 ∧ (vp_in ((x1 * (11 : Int32)) + x2) (m_ln S6 b7) ∧ (∀ S8 : mj_S, S8 = m_si S6 b7 (((x1 * (11 : Int32)) + x2)).toNatClampNeg x4 → Q S8))))))))) : V_X9_put_0 l G a0 x1 x2 x3 x4 S Q := by
  refine mj_iload_n dX9_put_0 rfl rfl ?_
  refine mj_iconst (v := 0) dX9_put_1 (by decide) ?_
  refine mj_aload_n dX9_put_2 rfl rfl ?_
  refine mj_getI dX9_put_3 fl_X9_9_8 hk_a0 rfl ?_
  refine mj_iconst (v := 1) dX9_put_6 (by decide) ?_
  refine mj_isub dX9_put_7 ?_
  refine mj_callNi (as := [.int x1, .int (0 : Int32), .int ((m_gi S a0 0) - (1 : Int32))]) (st := []) dX9_put_8 cal_X10_within ln_X9_28 sm_X10_within h rfl (Nat.le_of_ble_eq_true rfl) (by decide) ⟨Nat.le_of_ble_eq_true rfl, Nat.le_of_ble_eq_true rfl⟩ (fun S1 r2 h hn_r2 hp => ?_)
  have hk_a0 : m_kd S1 a0 = 8 := m_kd_pre hp hk_a0 (by decide)
  refine mj_if_eq (tgt := 53) dX9_put_11 (by decide) ⟨fun hc => ?_, fun hc => ?_⟩
  · replace h := h.1 hc
    exact mj_retv dX9_put_53 rfl ⟨Nat.le_of_ble_eq_true rfl, Nat.le_of_ble_eq_true rfl⟩ h
  · replace h := h.2 hc
    refine mj_iload_n dX9_put_14 rfl rfl ?_
    refine mj_iconst (v := 0) dX9_put_15 (by decide) ?_
    refine mj_aload_n dX9_put_16 rfl rfl ?_
    refine mj_getI dX9_put_17 fl_X9_9_8 hk_a0 rfl ?_
    refine mj_iconst (v := 1) dX9_put_20 (by decide) ?_
    refine mj_isub dX9_put_21 ?_
    refine mj_callNi (as := [.int x2, .int (0 : Int32), .int ((m_gi S1 a0 0) - (1 : Int32))]) (st := []) dX9_put_22 cal_X10_within ln_X9_28 sm_X10_within h rfl (Nat.le_of_ble_eq_true rfl) (by decide) ⟨Nat.le_of_ble_eq_true rfl, Nat.le_of_ble_eq_true rfl⟩ (fun S3 r4 h hn_r4 hp => ?_)
    have hk_a0 : m_kd S3 a0 = 8 := m_kd_pre hp hk_a0 (by decide)
    refine mj_if_eq (tgt := 53) dX9_put_25 (by decide) ⟨fun hc => ?_, fun hc => ?_⟩
    · replace h := h.1 hc
      exact mj_retv dX9_put_53 rfl ⟨Nat.le_of_ble_eq_true rfl, Nat.le_of_ble_eq_true rfl⟩ h
    · replace h := h.2 hc
      refine mj_aload_n dX9_put_28 rfl rfl ?_
      obtain ⟨b5, eb5, h⟩ := h
      refine mj_getP dX9_put_29 fl_X9_15_8 hk_a0 rfl ⟨b5, eb5, fun hk_b5 => ?_⟩
      refine mj_iload_n dX9_put_32 rfl rfl ?_
      refine mj_bipush (v := 11) dX9_put_33 (by decide) ?_
      refine mj_imul dX9_put_35 ?_
      refine mj_iload_n dX9_put_36 rfl rfl ?_
      refine mj_iadd dX9_put_37 ?_
      refine mj_iload_n dX9_put_38 rfl rfl ?_
      refine mj_iast dX9_put_39 hk_b5 ⟨h.1, ?_⟩
      replace h := h.2
      obtain ⟨S6, eS6⟩ : ∃ z, z = m_si S3 b5 (((x1 * (11 : Int32)) + x2)).toNatClampNeg x3 := ⟨_, rfl⟩
      rw [← eS6]
      replace h := h S6 eS6
      have hk_a0 : m_kd S6 a0 = 8 := by rw [eS6]; exact hk_a0
      have hk_b5 : m_kd S6 b5 = 100 := by rw [eS6]; exact hk_b5
      refine mj_aload_n dX9_put_40 rfl rfl ?_
      obtain ⟨b7, eb7, h⟩ := h
      refine mj_getP dX9_put_41 fl_X9_19_8 hk_a0 rfl ⟨b7, eb7, fun hk_b7 => ?_⟩
      refine mj_iload_n dX9_put_44 rfl rfl ?_
      refine mj_bipush (v := 11) dX9_put_45 (by decide) ?_
      refine mj_imul dX9_put_47 ?_
      refine mj_iload_n dX9_put_48 rfl rfl ?_
      refine mj_iadd dX9_put_49 ?_
      refine mj_iload dX9_put_50 rfl ?_
      refine mj_iast dX9_put_52 hk_b7 ⟨h.1, ?_⟩
      replace h := h.2
      obtain ⟨S8, eS8⟩ : ∃ z, z = m_si S6 b7 (((x1 * (11 : Int32)) + x2)).toNatClampNeg x4 := ⟨_, rfl⟩
      rw [← eS8]
      replace h := h S8 eS8
      have hk_a0 : m_kd S8 a0 = 8 := by rw [eS8]; exact hk_a0
      have hk_b5 : m_kd S8 b5 = 100 := by rw [eS8]; exact hk_b5
      have hk_b7 : m_kd S8 b7 = 100 := by rw [eS8]; exact hk_b7
      exact mj_retv dX9_put_53 rfl ⟨Nat.le_of_ble_eq_true rfl, Nat.le_of_ble_eq_true rfl⟩ h
abbrev V_X9_restsAt_0 (l : Launch) (G : mj_G) (a0 : Nat) (x1 : Int32) (x2 : Int32) (S : mj_S) (Q : mj_S → Int32 → Prop) : Prop := mj_V l G (mj_room 2 0 0) RX9 cX9_restsAt 5 (some .boolean) false 0 [some (.ref a0), some (.int x1), some (.int x2), none, none] [] S 0 0 (mj_std G (some .boolean) (mj_room 2 0 0) (mj_qi Q))
abbrev V_X9_restsAt_40 (l : Launch) (G : mj_G) (a0 : Nat) (x1 : Int32) (x2 : Int32) (x3 : Int32) (x4 : Int32) (S : mj_S) (Q : mj_S → Int32 → Prop) : Prop := mj_V l G (mj_room 2 0 0) RX9 cX9_restsAt 5 (some .boolean) false 40 [some (.ref a0), some (.int x1), some (.int x2), some (.int x3), some (.int x4)] [] S 0 0 (mj_std G (some .boolean) (mj_room 2 0 0) (mj_qi Q))
theorem e_X9_restsAt {l : Launch} {G : mj_G} {a0 : Nat} {x1 : Int32} {x2 : Int32} {S : mj_S} {Q : mj_S → Int32 → Prop} (h : V_X9_restsAt_0 l G a0 x1 x2 S Q) : M_X9_restsAt l G a0 x1 x2 S Q := mj_enter (r := 2) (ini := false) (by decide +kernel) (fun h => by cases h) (fun _ => Nat.le_of_ble_eq_true rfl) rfl h
set_option maxRecDepth 20000 in
set_option maxHeartbeats 1000000 in
theorem b_X9_restsAt_0 {l : Launch} {G : mj_G} {a0 : Nat} {x1 : Int32} {x2 : Int32} {S : mj_S} {Q : mj_S → Int32 → Prop} (hk_a0 : m_kd S a0 = 8) (h : M_X10_within l G x1 (0 : Int32) ((m_gi S a0 0) - (1 : Int32)) S (fun S1 r2 => ((r2 = 0) → Q S1 (0 : Int32)) ∧ ((¬ (r2 = 0)) → M_X10_within l G x2 (0 : Int32) ((m_gi S1 a0 0) - (1 : Int32)) S1 (fun S3 r4 => ((¬ r4 = 0) → ∀ v5 : Int32, v5 = ((x1 * (11 : Int32)) + x2) → V_X9_restsAt_40 l G a0 x1 x2 v5 (0 : Int32) S3 Q) ∧ ((r4 = 0) → Q S3 (0 : Int32)))))) : V_X9_restsAt_0 l G a0 x1 x2 S Q := by
  refine mj_iload_n dX9_restsAt_0 rfl rfl ?_
  refine mj_iconst (v := 0) dX9_restsAt_1 (by decide) ?_
  refine mj_aload_n dX9_restsAt_2 rfl rfl ?_
  refine mj_getI dX9_restsAt_3 fl_X9_9_8 hk_a0 rfl ?_
  refine mj_iconst (v := 1) dX9_restsAt_6 (by decide) ?_
  refine mj_isub dX9_restsAt_7 ?_
  refine mj_callNi (as := [.int x1, .int (0 : Int32), .int ((m_gi S a0 0) - (1 : Int32))]) (st := []) dX9_restsAt_8 cal_X10_within ln_X9_28 sm_X10_within h rfl (Nat.le_of_ble_eq_true rfl) (by decide) ⟨Nat.le_of_ble_eq_true rfl, Nat.le_of_ble_eq_true rfl⟩ (fun S1 r2 h hn_r2 hp => ?_)
  have hk_a0 : m_kd S1 a0 = 8 := m_kd_pre hp hk_a0 (by decide)
  refine mj_if_eq (tgt := 28) dX9_restsAt_11 (by decide) ⟨fun hc => ?_, fun hc => ?_⟩
  · replace h := h.1 hc
    refine mj_iconst (v := 0) dX9_restsAt_28 (by decide) ?_
    exact mj_retz dX9_restsAt_29 rfl (rfl) ⟨Nat.le_of_ble_eq_true rfl, Nat.le_of_ble_eq_true rfl⟩ h
  · replace h := h.2 hc
    refine mj_iload_n dX9_restsAt_14 rfl rfl ?_
    refine mj_iconst (v := 0) dX9_restsAt_15 (by decide) ?_
    refine mj_aload_n dX9_restsAt_16 rfl rfl ?_
    refine mj_getI dX9_restsAt_17 fl_X9_9_8 hk_a0 rfl ?_
    refine mj_iconst (v := 1) dX9_restsAt_20 (by decide) ?_
    refine mj_isub dX9_restsAt_21 ?_
    refine mj_callNi (as := [.int x2, .int (0 : Int32), .int ((m_gi S1 a0 0) - (1 : Int32))]) (st := []) dX9_restsAt_22 cal_X10_within ln_X9_28 sm_X10_within h rfl (Nat.le_of_ble_eq_true rfl) (by decide) ⟨Nat.le_of_ble_eq_true rfl, Nat.le_of_ble_eq_true rfl⟩ (fun S3 r4 h hn_r4 hp => ?_)
    have hk_a0 : m_kd S3 a0 = 8 := m_kd_pre hp hk_a0 (by decide)
    refine mj_if_ne (tgt := 30) dX9_restsAt_25 (by decide) ⟨fun hc => ?_, fun hc => ?_⟩
    · replace h := h.1 hc
      refine mj_iload_n dX9_restsAt_30 rfl rfl ?_
      refine mj_bipush (v := 11) dX9_restsAt_31 (by decide) ?_
      refine mj_imul dX9_restsAt_33 ?_
      refine mj_iload_n dX9_restsAt_34 rfl rfl ?_
      refine mj_iadd dX9_restsAt_35 ?_
      refine mj_nmi (fun v5 ev5 => ?_)
      replace h := h v5 ev5
      refine mj_istore_n dX9_restsAt_36 rfl (by decide) rfl rfl ?_
      refine mj_iconst (v := 0) dX9_restsAt_37 (by decide) ?_
      refine mj_istore dX9_restsAt_38 (by decide) rfl rfl ?_
      exact h
    · replace h := h.2 hc
      refine mj_iconst (v := 0) dX9_restsAt_28 (by decide) ?_
      exact mj_retz dX9_restsAt_29 rfl (rfl) ⟨Nat.le_of_ble_eq_true rfl, Nat.le_of_ble_eq_true rfl⟩ h
set_option maxRecDepth 20000 in
set_option maxHeartbeats 1000000 in
theorem b_X9_restsAt_40 {l : Launch} {G : mj_G} {a0 : Nat} {x1 : Int32} {x2 : Int32} {x3 : Int32} {x4 : Int32} {S : mj_S} {Q : mj_S → Int32 → Prop} (hk_a0 : m_kd S a0 = 8) (h : (((m_gi S a0 0) ≤ x4) → Q S (1 : Int32)) ∧ ((¬ ((m_gi S a0 0) ≤ x4)) → ∃ b1, m_gp S a0 1 = some b1 ∧ (vp_in ((x4 * (11 : Int32)) + x2) (m_ln S b1) ∧ (∃ b2, m_gp S a0 1 = some b2 ∧ (vp_in x3 (m_ln S b2) ∧ ((((m_gi S b2 (x3).toNatClampNeg) < (m_gi S b1 (((x4 * (11 : Int32)) + x2)).toNatClampNeg)) → Q S (0 : Int32)) ∧ ((¬ ((m_gi S b2 (x3).toNatClampNeg) < (m_gi S b1 (((x4 * (11 : Int32)) + x2)).toNatClampNeg))) → ∃ b3, m_gp S a0 2 = some b3 ∧ (vp_in ((x1 * (11 : Int32)) + x4) (m_ln S b3) ∧ (∃ b4, m_gp S a0 2 = some b4 ∧ (vp_in x3 (m_ln S b4) ∧ ((((m_gi S b3 (((x1 * (11 : Int32)) + x4)).toNatClampNeg) ≤ (m_gi S b4 (x3).toNatClampNeg)) → ∀ v5 : Int32, v5 = x4 + (1 : Int32) → V_X9_restsAt_40 l G a0 x1 x2 x3 v5 S Q) ∧ ((¬ ((m_gi S b3 (((x1 * (11 : Int32)) + x4)).toNatClampNeg) ≤ (m_gi S b4 (x3).toNatClampNeg))) → Q S (0 : Int32))))))))))))) : V_X9_restsAt_40 l G a0 x1 x2 x3 x4 S Q := by
  refine mj_iload dX9_restsAt_40 rfl ?_
  refine mj_aload_n dX9_restsAt_42 rfl rfl ?_
  refine mj_getI dX9_restsAt_43 fl_X9_9_8 hk_a0 rfl ?_
  refine mj_icmp_ge (tgt := 99) dX9_restsAt_46 (by decide) ⟨fun hc => ?_, fun hc => ?_⟩
  · replace h := h.1 hc
    refine mj_iconst (v := 1) dX9_restsAt_99 (by decide) ?_
    exact mj_retz dX9_restsAt_100 rfl (rfl) ⟨Nat.le_of_ble_eq_true rfl, Nat.le_of_ble_eq_true rfl⟩ h
  · replace h := h.2 hc
    refine mj_aload_n dX9_restsAt_49 rfl rfl ?_
    obtain ⟨b1, eb1, h⟩ := h
    refine mj_getP dX9_restsAt_50 fl_X9_15_8 hk_a0 rfl ⟨b1, eb1, fun hk_b1 => ?_⟩
    refine mj_iload dX9_restsAt_53 rfl ?_
    refine mj_bipush (v := 11) dX9_restsAt_55 (by decide) ?_
    refine mj_imul dX9_restsAt_57 ?_
    refine mj_iload_n dX9_restsAt_58 rfl rfl ?_
    refine mj_iadd dX9_restsAt_59 ?_
    refine mj_iald dX9_restsAt_60 (Or.inl hk_b1) ⟨h.1, ?_⟩
    replace h := h.2
    refine mj_aload_n dX9_restsAt_61 rfl rfl ?_
    obtain ⟨b2, eb2, h⟩ := h
    refine mj_getP dX9_restsAt_62 fl_X9_15_8 hk_a0 rfl ⟨b2, eb2, fun hk_b2 => ?_⟩
    refine mj_iload_n dX9_restsAt_65 rfl rfl ?_
    refine mj_iald dX9_restsAt_66 (Or.inl hk_b2) ⟨h.1, ?_⟩
    replace h := h.2
    refine mj_icmp_gt (tgt := 91) dX9_restsAt_67 (by decide) ⟨fun hc => ?_, fun hc => ?_⟩
    · replace h := h.1 hc
      refine mj_iconst (v := 0) dX9_restsAt_91 (by decide) ?_
      exact mj_retz dX9_restsAt_92 rfl (rfl) ⟨Nat.le_of_ble_eq_true rfl, Nat.le_of_ble_eq_true rfl⟩ h
    · replace h := h.2 hc
      refine mj_aload_n dX9_restsAt_70 rfl rfl ?_
      obtain ⟨b3, eb3, h⟩ := h
      refine mj_getP dX9_restsAt_71 fl_X9_19_8 hk_a0 rfl ⟨b3, eb3, fun hk_b3 => ?_⟩
      refine mj_iload_n dX9_restsAt_74 rfl rfl ?_
      refine mj_bipush (v := 11) dX9_restsAt_75 (by decide) ?_
      refine mj_imul dX9_restsAt_77 ?_
      refine mj_iload dX9_restsAt_78 rfl ?_
      refine mj_iadd dX9_restsAt_80 ?_
      refine mj_iald dX9_restsAt_81 (Or.inl hk_b3) ⟨h.1, ?_⟩
      replace h := h.2
      refine mj_aload_n dX9_restsAt_82 rfl rfl ?_
      obtain ⟨b4, eb4, h⟩ := h
      refine mj_getP dX9_restsAt_83 fl_X9_19_8 hk_a0 rfl ⟨b4, eb4, fun hk_b4 => ?_⟩
      refine mj_iload_n dX9_restsAt_86 rfl rfl ?_
      refine mj_iald dX9_restsAt_87 (Or.inl hk_b4) ⟨h.1, ?_⟩
      replace h := h.2
      refine mj_icmp_le (tgt := 93) dX9_restsAt_88 (by decide) ⟨fun hc => ?_, fun hc => ?_⟩
      · replace h := h.1 hc
        obtain ⟨v5, ev5⟩ : ∃ z : Int32, z = x4 + (1 : Int32) := ⟨_, rfl⟩
        refine mj_iinc (v := v5) dX9_restsAt_93 rfl (by rw [ev5]; rfl) (by decide) rfl rfl ?_
        replace h := h v5 ev5
        refine mj_goto (tgt := 40) dX9_restsAt_96 (by decide) ?_
        exact h
      · replace h := h.2 hc
        refine mj_iconst (v := 0) dX9_restsAt_91 (by decide) ?_
        exact mj_retz dX9_restsAt_92 rfl (rfl) ⟨Nat.le_of_ble_eq_true rfl, Nat.le_of_ble_eq_true rfl⟩ h
