abbrev V_X10_shine_0 (l : Launch) (G : mj_G) (a0 : Nat) (a1 : Nat) (S : mj_S) (Q : mj_S → Prop) : Prop := mj_V l G (mj_room 6 0 0) RX10 cX10_shine 3 none false 0 [some (.ref a0), some (.ref a1), none] [] S 0 0 (mj_std G none (mj_room 6 0 0) (mj_qv Q))
theorem e_X10_shine {l : Launch} {G : mj_G} {a0 : Nat} {a1 : Nat} {S : mj_S} {Q : mj_S → Prop} (h : V_X10_shine_0 l G a0 a1 S Q) : M_X10_shine l G a0 a1 S Q := mj_enter (r := 1) (ini := false) (by decide +kernel) (fun h => by cases h) (fun _ => Nat.le_of_ble_eq_true rfl) rfl h
set_option maxRecDepth 20000 in
set_option maxHeartbeats 1000000 in
theorem b_X10_shine_0 {l : Launch} {G : mj_G} {a0 : Nat} {a1 : Nat} {S : mj_S} {Q : mj_S → Prop} (hk_a0 : m_kd S a0 = 9) (hk_a1 : m_kd S a1 = 7) (h : M_X8_hung l G a1 S (fun S1 r2 => ∃ b3, m_gp S1 a0 11 = some b3 ∧ (∃ b4, m_gp S1 a0 4 = some b4 ∧ (M_X3_weigh l G b3 a1 b4 r2 S1 (fun S5 => ∃ b6, m_gp S5 a0 11 = some b6 ∧ (∃ b7, m_gp S5 a0 5 = some b7 ∧ (M_X3_hang l G b6 b7 r2 S5 (fun S8 => ∃ b9, m_gp S8 a0 11 = some b9 ∧ (∃ b10, m_gp S8 a0 5 = some b10 ∧ (∃ b11, m_gp S8 a0 5 = some b11 ∧ (M_X3_spread l G b9 b10 (0 : Int32) (m_gi S8 b11 2) S8 (fun S12 => Q S12)))))))))))) : V_X10_shine_0 l G a0 a1 S Q := by
  refine mj_aload_n dX10_shine_0 rfl rfl ?_
  refine mj_callVi (as := []) (st := []) dX10_shine_1 cal_X8_hung lk_X10_194 im_X8_hung se_X8_hung (ci := 7) rfl (by decide) hk_a1 h rfl (Nat.le_of_ble_eq_true rfl) (by decide) ⟨Nat.le_of_ble_eq_true rfl, Nat.le_of_ble_eq_true rfl⟩ (fun S1 r2 h hn_r2 hp => ?_)
  have hk_a0 : m_kd S1 a0 = 9 := m_kd_pre hp hk_a0 (by decide)
  have hk_a1 : m_kd S1 a1 = 7 := m_kd_pre hp hk_a1 (by decide)
  refine mj_istore_n dX10_shine_4 rfl (by decide) rfl rfl ?_
  refine mj_aload_n dX10_shine_5 rfl rfl ?_
  obtain ⟨b3, eb3, h⟩ := h
  refine mj_getP dX10_shine_6 fl_X10_75_9 hk_a0 rfl ⟨b3, eb3, fun hk_b3 => ?_⟩
  refine mj_aload_n dX10_shine_9 rfl rfl ?_
  refine mj_aload_n dX10_shine_10 rfl rfl ?_
  obtain ⟨b4, eb4, h⟩ := h
  refine mj_getP dX10_shine_11 fl_X10_34_9 hk_a0 rfl ⟨b4, eb4, fun hk_b4 => ?_⟩
  refine mj_iload_n dX10_shine_14 rfl rfl ?_
  refine mj_callVv (as := [.ref a1, .ref b4, .int r2]) (st := []) dX10_shine_15 cal_X3_weigh lk_X10_247 im_X3_weigh se_X3_weigh (ci := 3) rfl (by decide) hk_b3 h rfl (Nat.le_of_ble_eq_true rfl) (by decide) ⟨Nat.le_of_ble_eq_true rfl, Nat.le_of_ble_eq_true rfl⟩ (fun S5 h hp => ?_)
  have hk_a0 : m_kd S5 a0 = 9 := m_kd_pre hp hk_a0 (by decide)
  have hk_a1 : m_kd S5 a1 = 7 := m_kd_pre hp hk_a1 (by decide)
  have hk_b3 : m_kd S5 b3 = 3 := m_kd_pre hp hk_b3 (by decide)
  have hk_b4 : m_kd S5 b4 = 2 := m_kd_pre hp hk_b4 (by decide)
  refine mj_aload_n dX10_shine_18 rfl rfl ?_
  obtain ⟨b6, eb6, h⟩ := h
  refine mj_getP dX10_shine_19 fl_X10_75_9 hk_a0 rfl ⟨b6, eb6, fun hk_b6 => ?_⟩
  refine mj_aload_n dX10_shine_22 rfl rfl ?_
  obtain ⟨b7, eb7, h⟩ := h
  refine mj_getP dX10_shine_23 fl_X10_41_9 hk_a0 rfl ⟨b7, eb7, fun hk_b7 => ?_⟩
  refine mj_iload_n dX10_shine_26 rfl rfl ?_
  refine mj_callVv (as := [.ref b7, .int r2]) (st := []) dX10_shine_27 cal_X3_hang lk_X10_251 im_X3_hang se_X3_hang (ci := 3) rfl (by decide) hk_b6 h rfl (Nat.le_of_ble_eq_true rfl) (by decide) ⟨Nat.le_of_ble_eq_true rfl, Nat.le_of_ble_eq_true rfl⟩ (fun S8 h hp => ?_)
  have hk_a0 : m_kd S8 a0 = 9 := m_kd_pre hp hk_a0 (by decide)
  have hk_a1 : m_kd S8 a1 = 7 := m_kd_pre hp hk_a1 (by decide)
  have hk_b3 : m_kd S8 b3 = 3 := m_kd_pre hp hk_b3 (by decide)
  have hk_b4 : m_kd S8 b4 = 2 := m_kd_pre hp hk_b4 (by decide)
  have hk_b6 : m_kd S8 b6 = 3 := m_kd_pre hp hk_b6 (by decide)
  have hk_b7 : m_kd S8 b7 = 5 := m_kd_pre hp hk_b7 (by decide)
  refine mj_aload_n dX10_shine_30 rfl rfl ?_
  obtain ⟨b9, eb9, h⟩ := h
  refine mj_getP dX10_shine_31 fl_X10_75_9 hk_a0 rfl ⟨b9, eb9, fun hk_b9 => ?_⟩
  refine mj_aload_n dX10_shine_34 rfl rfl ?_
  obtain ⟨b10, eb10, h⟩ := h
  refine mj_getP dX10_shine_35 fl_X10_41_9 hk_a0 rfl ⟨b10, eb10, fun hk_b10 => ?_⟩
  refine mj_iconst (v := 0) dX10_shine_38 (by decide) ?_
  refine mj_aload_n dX10_shine_39 rfl rfl ?_
  obtain ⟨b11, eb11, h⟩ := h
  refine mj_getP dX10_shine_40 fl_X10_41_9 hk_a0 rfl ⟨b11, eb11, fun hk_b11 => ?_⟩
  refine mj_getI dX10_shine_43 fl_X10_162_5 hk_b11 rfl ?_
  refine mj_callVv (as := [.ref b10, .int (0 : Int32), .int (m_gi S8 b11 2)]) (st := []) dX10_shine_46 cal_X3_spread lk_X10_254 im_X3_spread se_X3_spread (ci := 3) rfl (by decide) hk_b9 h rfl (Nat.le_of_ble_eq_true rfl) (by decide) ⟨Nat.le_of_ble_eq_true rfl, Nat.le_of_ble_eq_true rfl⟩ (fun S12 h hp => ?_)
  have hk_a0 : m_kd S12 a0 = 9 := m_kd_pre hp hk_a0 (by decide)
  have hk_a1 : m_kd S12 a1 = 7 := m_kd_pre hp hk_a1 (by decide)
  have hk_b3 : m_kd S12 b3 = 3 := m_kd_pre hp hk_b3 (by decide)
  have hk_b4 : m_kd S12 b4 = 2 := m_kd_pre hp hk_b4 (by decide)
  have hk_b6 : m_kd S12 b6 = 3 := m_kd_pre hp hk_b6 (by decide)
  have hk_b7 : m_kd S12 b7 = 5 := m_kd_pre hp hk_b7 (by decide)
  have hk_b9 : m_kd S12 b9 = 3 := m_kd_pre hp hk_b9 (by decide)
  have hk_b10 : m_kd S12 b10 = 5 := m_kd_pre hp hk_b10 (by decide)
  have hk_b11 : m_kd S12 b11 = 5 := m_kd_pre hp hk_b11 (by decide)
  exact mj_retv dX10_shine_49 rfl ⟨Nat.le_of_ble_eq_true rfl, Nat.le_of_ble_eq_true rfl⟩ h
abbrev V_X10_state_0 (l : Launch) (G : mj_G) (a0 : Nat) (x1 : Int32) (S : mj_S) (Q : mj_S → Int32 → Prop) : Prop := mj_V l G (mj_room 4 0 0) RX10 cX10_state 2 (some .int) false 0 [some (.ref a0), some (.int x1)] [] S 0 0 (mj_std G (some .int) (mj_room 4 0 0) (mj_qi Q))
theorem e_X10_state {l : Launch} {G : mj_G} {a0 : Nat} {x1 : Int32} {S : mj_S} {Q : mj_S → Int32 → Prop} (h : V_X10_state_0 l G a0 x1 S Q) : M_X10_state l G a0 x1 S Q := mj_enter (r := 0) (ini := false) (by decide +kernel) (fun h => by cases h) (fun _ => Nat.le_of_ble_eq_true rfl) rfl h
set_option maxRecDepth 20000 in
set_option maxHeartbeats 1000000 in
theorem b_X10_state_0 {l : Launch} {G : mj_G} {a0 : Nat} {x1 : Int32} {S : mj_S} {Q : mj_S → Int32 → Prop} (hk_a0 : m_kd S a0 = 9) (h : M_X10_isSquare l G a0 x1 S (fun S1 r2 => ((r2 = 0) → Q S1 (-1 : Int32)) ∧ ((¬ (r2 = 0)) → M_X10_stateAround l G a0 x1 S1 (fun S3 r4 => M_X10_lowest l G r4 S3 (fun S5 r6 => Q S5 r6))))) : V_X10_state_0 l G a0 x1 S Q := by
  refine mj_aload_n dX10_state_0 rfl rfl ?_
  refine mj_iload_n dX10_state_1 rfl rfl ?_
  refine mj_callVi (as := [.int x1]) (st := []) dX10_state_2 cal_X10_isSquare lk_X10_258 im_X10_isSquare se_X10_isSquare (ci := 9) rfl (by decide) hk_a0 h rfl (Nat.le_of_ble_eq_true rfl) (by decide) ⟨Nat.le_of_ble_eq_true rfl, Nat.le_of_ble_eq_true rfl⟩ (fun S1 r2 h hn_r2 hp => ?_)
  have hk_a0 : m_kd S1 a0 = 9 := m_kd_pre hp hk_a0 (by decide)
  refine mj_if_eq (tgt := 19) dX10_state_5 (by decide) ⟨fun hc => ?_, fun hc => ?_⟩
  · replace h := h.1 hc
    refine mj_iconst (v := (-1)) dX10_state_19 (by decide) ?_
    exact mj_reti dX10_state_20 rfl ⟨Nat.le_of_ble_eq_true rfl, Nat.le_of_ble_eq_true rfl⟩ h
  · replace h := h.2 hc
    refine mj_aload_n dX10_state_8 rfl rfl ?_
    refine mj_iload_n dX10_state_9 rfl rfl ?_
    refine mj_callVi (as := [.int x1]) (st := []) dX10_state_10 cal_X10_stateAround lk_X10_217 im_X10_stateAround se_X10_stateAround (ci := 9) rfl (by decide) hk_a0 h rfl (Nat.le_of_ble_eq_true rfl) (by decide) ⟨Nat.le_of_ble_eq_true rfl, Nat.le_of_ble_eq_true rfl⟩ (fun S3 r4 h hn_r4 hp => ?_)
    have hk_a0 : m_kd S3 a0 = 9 := m_kd_pre hp hk_a0 (by decide)
    refine mj_callSi (as := [.int r4]) (st := []) dX10_state_13 cal_X10_lowest lk_X10_220 sm_X10_lowest h rfl (Nat.le_of_ble_eq_true rfl) (by decide) ⟨Nat.le_of_ble_eq_true rfl, Nat.le_of_ble_eq_true rfl⟩ (fun S5 r6 h hn_r6 hp => ?_)
    have hk_a0 : m_kd S5 a0 = 9 := m_kd_pre hp hk_a0 (by decide)
    refine mj_goto (tgt := 20) dX10_state_16 (by decide) ?_
    exact mj_reti dX10_state_20 rfl ⟨Nat.le_of_ble_eq_true rfl, Nat.le_of_ble_eq_true rfl⟩ h
abbrev V_X10_lord_0 (l : Launch) (G : mj_G) (a0 : Nat) (x1 : Int32) (S : mj_S) (Q : mj_S → Int32 → Prop) : Prop := mj_V l G (mj_room 4 0 0) RX10 cX10_lord 2 (some .int) false 0 [some (.ref a0), some (.int x1)] [] S 0 0 (mj_std G (some .int) (mj_room 4 0 0) (mj_qi Q))
theorem e_X10_lord {l : Launch} {G : mj_G} {a0 : Nat} {x1 : Int32} {S : mj_S} {Q : mj_S → Int32 → Prop} (h : V_X10_lord_0 l G a0 x1 S Q) : M_X10_lord l G a0 x1 S Q := mj_enter (r := 0) (ini := false) (by decide +kernel) (fun h => by cases h) (fun _ => Nat.le_of_ble_eq_true rfl) rfl h
set_option maxRecDepth 20000 in
set_option maxHeartbeats 1000000 in
theorem b_X10_lord_0 {l : Launch} {G : mj_G} {a0 : Nat} {x1 : Int32} {S : mj_S} {Q : mj_S → Int32 → Prop} (hk_a0 : m_kd S a0 = 9) (h : M_X10_isSquare l G a0 x1 S (fun S1 r2 => ((r2 = 0) → Q S1 (-1 : Int32)) ∧ ((¬ (r2 = 0)) → M_X10_stateAround l G a0 x1 S1 (fun S3 r4 => M_X10_lordIn l G a0 r4 S3 (fun S5 r6 => Q S5 r6))))) : V_X10_lord_0 l G a0 x1 S Q := by
  refine mj_aload_n dX10_lord_0 rfl rfl ?_
  refine mj_iload_n dX10_lord_1 rfl rfl ?_
  refine mj_callVi (as := [.int x1]) (st := []) dX10_lord_2 cal_X10_isSquare lk_X10_258 im_X10_isSquare se_X10_isSquare (ci := 9) rfl (by decide) hk_a0 h rfl (Nat.le_of_ble_eq_true rfl) (by decide) ⟨Nat.le_of_ble_eq_true rfl, Nat.le_of_ble_eq_true rfl⟩ (fun S1 r2 h hn_r2 hp => ?_)
  have hk_a0 : m_kd S1 a0 = 9 := m_kd_pre hp hk_a0 (by decide)
  refine mj_if_eq (tgt := 20) dX10_lord_5 (by decide) ⟨fun hc => ?_, fun hc => ?_⟩
  · replace h := h.1 hc
    refine mj_iconst (v := (-1)) dX10_lord_20 (by decide) ?_
    exact mj_reti dX10_lord_21 rfl ⟨Nat.le_of_ble_eq_true rfl, Nat.le_of_ble_eq_true rfl⟩ h
  · replace h := h.2 hc
    refine mj_aload_n dX10_lord_8 rfl rfl ?_
    refine mj_aload_n dX10_lord_9 rfl rfl ?_
    refine mj_iload_n dX10_lord_10 rfl rfl ?_
    refine mj_callVi (as := [.int x1]) (st := [.ref a0]) dX10_lord_11 cal_X10_stateAround lk_X10_217 im_X10_stateAround se_X10_stateAround (ci := 9) rfl (by decide) hk_a0 h rfl (Nat.le_of_ble_eq_true rfl) (by decide) ⟨Nat.le_of_ble_eq_true rfl, Nat.le_of_ble_eq_true rfl⟩ (fun S3 r4 h hn_r4 hp => ?_)
    have hk_a0 : m_kd S3 a0 = 9 := m_kd_pre hp hk_a0 (by decide)
    refine mj_callVi (as := [.int r4]) (st := []) dX10_lord_14 cal_X10_lordIn lk_X10_223 im_X10_lordIn se_X10_lordIn (ci := 9) rfl (by decide) hk_a0 h rfl (Nat.le_of_ble_eq_true rfl) (by decide) ⟨Nat.le_of_ble_eq_true rfl, Nat.le_of_ble_eq_true rfl⟩ (fun S5 r6 h hn_r6 hp => ?_)
    have hk_a0 : m_kd S5 a0 = 9 := m_kd_pre hp hk_a0 (by decide)
    refine mj_goto (tgt := 21) dX10_lord_17 (by decide) ?_
    exact mj_reti dX10_lord_21 rfl ⟨Nat.le_of_ble_eq_true rfl, Nat.le_of_ble_eq_true rfl⟩ h
abbrev V_X10_lit_0 (l : Launch) (G : mj_G) (a0 : Nat) (x1 : Int32) (S : mj_S) (Q : mj_S → Int32 → Prop) : Prop := mj_V l G (mj_room 7 0 0) RX10 cX10_lit 2 (some .int) false 0 [some (.ref a0), some (.int x1)] [] S 0 0 (mj_std G (some .int) (mj_room 7 0 0) (mj_qi Q))
theorem e_X10_lit {l : Launch} {G : mj_G} {a0 : Nat} {x1 : Int32} {S : mj_S} {Q : mj_S → Int32 → Prop} (h : V_X10_lit_0 l G a0 x1 S Q) : M_X10_lit l G a0 x1 S Q := mj_enter (r := 0) (ini := false) (by decide +kernel) (fun h => by cases h) (fun _ => Nat.le_of_ble_eq_true rfl) rfl h
set_option maxRecDepth 20000 in
set_option maxHeartbeats 1000000 in
theorem b_X10_lit_0 {l : Launch} {G : mj_G} {a0 : Nat} {x1 : Int32} {S : mj_S} {Q : mj_S → Int32 → Prop} (hk_a0 : m_kd S a0 = 9) (h : M_X10_isSquare l G a0 x1 S (fun S1 r2 => ((¬ r2 = 0) → ∃ b3, m_gp S1 a0 7 = some b3 ∧ (M_X10_shine l G a0 b3 S1 (fun S4 => ∃ b5, m_gp S4 a0 11 = some b5 ∧ (∃ b6, m_gp S4 b5 0 = some b6 ∧ (vp_in x1 (m_ln S4 b6) ∧ (Q S4 (m_gi S4 b6 (x1).toNatClampNeg))))))) ∧ ((r2 = 0) → Q S1 (-1 : Int32)))) : V_X10_lit_0 l G a0 x1 S Q := by
  refine mj_aload_n dX10_lit_0 rfl rfl ?_
  refine mj_iload_n dX10_lit_1 rfl rfl ?_
  refine mj_callVi (as := [.int x1]) (st := []) dX10_lit_2 cal_X10_isSquare lk_X10_258 im_X10_isSquare se_X10_isSquare (ci := 9) rfl (by decide) hk_a0 h rfl (Nat.le_of_ble_eq_true rfl) (by decide) ⟨Nat.le_of_ble_eq_true rfl, Nat.le_of_ble_eq_true rfl⟩ (fun S1 r2 h hn_r2 hp => ?_)
  have hk_a0 : m_kd S1 a0 = 9 := m_kd_pre hp hk_a0 (by decide)
  refine mj_if_ne (tgt := 10) dX10_lit_5 (by decide) ⟨fun hc => ?_, fun hc => ?_⟩
  · replace h := h.1 hc
    refine mj_aload_n dX10_lit_10 rfl rfl ?_
    refine mj_aload_n dX10_lit_11 rfl rfl ?_
    obtain ⟨b3, eb3, h⟩ := h
    refine mj_getP dX10_lit_12 fl_X10_51_9 hk_a0 rfl ⟨b3, eb3, fun hk_b3 => ?_⟩
    refine mj_callVv (as := [.ref b3]) (st := []) dX10_lit_15 cal_X10_shine lk_X10_261 im_X10_shine se_X10_shine (ci := 9) rfl (by decide) hk_a0 h rfl (Nat.le_of_ble_eq_true rfl) (by decide) ⟨Nat.le_of_ble_eq_true rfl, Nat.le_of_ble_eq_true rfl⟩ (fun S4 h hp => ?_)
    have hk_a0 : m_kd S4 a0 = 9 := m_kd_pre hp hk_a0 (by decide)
    have hk_b3 : m_kd S4 b3 = 7 := m_kd_pre hp hk_b3 (by decide)
    refine mj_aload_n dX10_lit_18 rfl rfl ?_
    obtain ⟨b5, eb5, h⟩ := h
    refine mj_getP dX10_lit_19 fl_X10_75_9 hk_a0 rfl ⟨b5, eb5, fun hk_b5 => ?_⟩
    obtain ⟨b6, eb6, h⟩ := h
    refine mj_getP dX10_lit_22 fl_X10_265_3 hk_b5 rfl ⟨b6, eb6, fun hk_b6 => ?_⟩
    refine mj_iload_n dX10_lit_25 rfl rfl ?_
    refine mj_iald dX10_lit_26 (Or.inl hk_b6) ⟨h.1, ?_⟩
    replace h := h.2
    exact mj_reti dX10_lit_27 rfl ⟨Nat.le_of_ble_eq_true rfl, Nat.le_of_ble_eq_true rfl⟩ h
  · replace h := h.2 hc
    refine mj_iconst (v := (-1)) dX10_lit_8 (by decide) ?_
    exact mj_reti dX10_lit_9 rfl ⟨Nat.le_of_ble_eq_true rfl, Nat.le_of_ble_eq_true rfl⟩ h
abbrev V_X10_touch_0 (l : Launch) (G : mj_G) (a0 : Nat) (x1 : Int32) (x2 : Int32) (S : mj_S) (Q : mj_S → Int32 → Prop) : Prop := mj_V l G (mj_room 4 0 0) RX10 cX10_touch 5 (some .int) false 0 [some (.ref a0), some (.int x1), some (.int x2), none, none] [] S 0 0 (mj_std G (some .int) (mj_room 4 0 0) (mj_qi Q))
theorem e_X10_touch {l : Launch} {G : mj_G} {a0 : Nat} {x1 : Int32} {x2 : Int32} {S : mj_S} {Q : mj_S → Int32 → Prop} (h : V_X10_touch_0 l G a0 x1 x2 S Q) : M_X10_touch l G a0 x1 x2 S Q := mj_enter (r := 2) (ini := false) (by decide +kernel) (fun h => by cases h) (fun _ => Nat.le_of_ble_eq_true rfl) rfl h
set_option maxRecDepth 20000 in
set_option maxHeartbeats 1000000 in
theorem b_X10_touch_0 {l : Launch} {G : mj_G} {a0 : Nat} {x1 : Int32} {x2 : Int32} {S : mj_S} {Q : mj_S → Int32 → Prop} (hk_a0 : m_kd S a0 = 9) (h : M_X10_isSquare l G a0 x1 S (fun S1 r2 => ((r2 = 0) → Q S1 (-1 : Int32)) ∧ ((¬ (r2 = 0)) → M_X10_isSquare l G a0 x2 S1 (fun S3 r4 => ((¬ r4 = 0) → M_X10_stateAround l G a0 x1 S3 (fun S5 r6 => M_X10_stateAround l G a0 x2 S5 (fun S7 r8 => ((¬ r6 = r8) → M_X10_bordersOf l G a0 r6 S7 (fun S9 r10 => M_X10_bordersOf l G a0 r8 S9 (fun S11 r12 => (((r10 &&& r12) = 0) → Q S11 (0 : Int32)) ∧ ((¬ ((r10 &&& r12) = 0)) → Q S11 (1 : Int32))))) ∧ ((r6 = r8) → Q S7 (0 : Int32))))) ∧ ((r4 = 0) → Q S3 (-1 : Int32)))))) : V_X10_touch_0 l G a0 x1 x2 S Q := by
  refine mj_aload_n dX10_touch_0 rfl rfl ?_
  refine mj_iload_n dX10_touch_1 rfl rfl ?_
  refine mj_callVi (as := [.int x1]) (st := []) dX10_touch_2 cal_X10_isSquare lk_X10_258 im_X10_isSquare se_X10_isSquare (ci := 9) rfl (by decide) hk_a0 h rfl (Nat.le_of_ble_eq_true rfl) (by decide) ⟨Nat.le_of_ble_eq_true rfl, Nat.le_of_ble_eq_true rfl⟩ (fun S1 r2 h hn_r2 hp => ?_)
  have hk_a0 : m_kd S1 a0 = 9 := m_kd_pre hp hk_a0 (by decide)
  refine mj_if_eq (tgt := 16) dX10_touch_5 (by decide) ⟨fun hc => ?_, fun hc => ?_⟩
  · replace h := h.1 hc
    refine mj_iconst (v := (-1)) dX10_touch_16 (by decide) ?_
    exact mj_reti dX10_touch_17 rfl ⟨Nat.le_of_ble_eq_true rfl, Nat.le_of_ble_eq_true rfl⟩ h
  · replace h := h.2 hc
    refine mj_aload_n dX10_touch_8 rfl rfl ?_
    refine mj_iload_n dX10_touch_9 rfl rfl ?_
    refine mj_callVi (as := [.int x2]) (st := []) dX10_touch_10 cal_X10_isSquare lk_X10_258 im_X10_isSquare se_X10_isSquare (ci := 9) rfl (by decide) hk_a0 h rfl (Nat.le_of_ble_eq_true rfl) (by decide) ⟨Nat.le_of_ble_eq_true rfl, Nat.le_of_ble_eq_true rfl⟩ (fun S3 r4 h hn_r4 hp => ?_)
    have hk_a0 : m_kd S3 a0 = 9 := m_kd_pre hp hk_a0 (by decide)
    refine mj_if_ne (tgt := 18) dX10_touch_13 (by decide) ⟨fun hc => ?_, fun hc => ?_⟩
    · replace h := h.1 hc
      refine mj_aload_n dX10_touch_18 rfl rfl ?_
      refine mj_iload_n dX10_touch_19 rfl rfl ?_
      refine mj_callVi (as := [.int x1]) (st := []) dX10_touch_20 cal_X10_stateAround lk_X10_217 im_X10_stateAround se_X10_stateAround (ci := 9) rfl (by decide) hk_a0 h rfl (Nat.le_of_ble_eq_true rfl) (by decide) ⟨Nat.le_of_ble_eq_true rfl, Nat.le_of_ble_eq_true rfl⟩ (fun S5 r6 h hn_r6 hp => ?_)
      have hk_a0 : m_kd S5 a0 = 9 := m_kd_pre hp hk_a0 (by decide)
      refine mj_istore_n dX10_touch_23 rfl (by decide) rfl rfl ?_
      refine mj_aload_n dX10_touch_24 rfl rfl ?_
      refine mj_iload_n dX10_touch_25 rfl rfl ?_
      refine mj_callVi (as := [.int x2]) (st := []) dX10_touch_26 cal_X10_stateAround lk_X10_217 im_X10_stateAround se_X10_stateAround (ci := 9) rfl (by decide) hk_a0 h rfl (Nat.le_of_ble_eq_true rfl) (by decide) ⟨Nat.le_of_ble_eq_true rfl, Nat.le_of_ble_eq_true rfl⟩ (fun S7 r8 h hn_r8 hp => ?_)
      have hk_a0 : m_kd S7 a0 = 9 := m_kd_pre hp hk_a0 (by decide)
      refine mj_istore dX10_touch_29 (by decide) rfl rfl ?_
      refine mj_iload_n dX10_touch_31 rfl rfl ?_
      refine mj_iload dX10_touch_32 rfl ?_
      refine mj_icmp_ne (tgt := 39) dX10_touch_34 (by decide) ⟨fun hc => ?_, fun hc => ?_⟩
      · replace h := h.1 hc
        refine mj_aload_n dX10_touch_39 rfl rfl ?_
        refine mj_iload_n dX10_touch_40 rfl rfl ?_
        refine mj_callVi (as := [.int r6]) (st := []) dX10_touch_41 cal_X10_bordersOf lk_X10_268 im_X10_bordersOf se_X10_bordersOf (ci := 9) rfl (by decide) hk_a0 h rfl (Nat.le_of_ble_eq_true rfl) (by decide) ⟨Nat.le_of_ble_eq_true rfl, Nat.le_of_ble_eq_true rfl⟩ (fun S9 r10 h hn_r10 hp => ?_)
        have hk_a0 : m_kd S9 a0 = 9 := m_kd_pre hp hk_a0 (by decide)
        refine mj_aload_n dX10_touch_44 rfl rfl ?_
        refine mj_iload dX10_touch_45 rfl ?_
        refine mj_callVi (as := [.int r8]) (st := [.int r10]) dX10_touch_47 cal_X10_bordersOf lk_X10_268 im_X10_bordersOf se_X10_bordersOf (ci := 9) rfl (by decide) hk_a0 h rfl (Nat.le_of_ble_eq_true rfl) (by decide) ⟨Nat.le_of_ble_eq_true rfl, Nat.le_of_ble_eq_true rfl⟩ (fun S11 r12 h hn_r12 hp => ?_)
        have hk_a0 : m_kd S11 a0 = 9 := m_kd_pre hp hk_a0 (by decide)
        refine mj_iand dX10_touch_50 ?_
        refine mj_if_eq (tgt := 58) dX10_touch_51 (by decide) ⟨fun hc => ?_, fun hc => ?_⟩
        · replace h := h.1 hc
          refine mj_iconst (v := 0) dX10_touch_58 (by decide) ?_
          exact mj_reti dX10_touch_59 rfl ⟨Nat.le_of_ble_eq_true rfl, Nat.le_of_ble_eq_true rfl⟩ h
        · replace h := h.2 hc
          refine mj_iconst (v := 1) dX10_touch_54 (by decide) ?_
          refine mj_goto (tgt := 59) dX10_touch_55 (by decide) ?_
          exact mj_reti dX10_touch_59 rfl ⟨Nat.le_of_ble_eq_true rfl, Nat.le_of_ble_eq_true rfl⟩ h
      · replace h := h.2 hc
        refine mj_iconst (v := 0) dX10_touch_37 (by decide) ?_
        exact mj_reti dX10_touch_38 rfl ⟨Nat.le_of_ble_eq_true rfl, Nat.le_of_ble_eq_true rfl⟩ h
    · replace h := h.2 hc
      refine mj_iconst (v := (-1)) dX10_touch_16 (by decide) ?_
      exact mj_reti dX10_touch_17 rfl ⟨Nat.le_of_ble_eq_true rfl, Nat.le_of_ble_eq_true rfl⟩ h
abbrev V_X10_bordersOf_0 (l : Launch) (G : mj_G) (a0 : Nat) (x1 : Int32) (S : mj_S) (Q : mj_S → Int32 → Prop) : Prop := mj_V l G (mj_room 3 0 0) RX10 cX10_bordersOf 5 (some .int) false 0 [some (.ref a0), some (.int x1), none, none, none] [] S 0 0 (mj_std G (some .int) (mj_room 3 0 0) (mj_qi Q))
abbrev V_X10_bordersOf_13 (l : Launch) (G : mj_G) (a0 : Nat) (x1 : Int32) (x2 : Int32) (x3 : Int32) (x4 : Int32) (S : mj_S) (Q : mj_S → Int32 → Prop) : Prop := mj_V l G (mj_room 3 0 0) RX10 cX10_bordersOf 5 (some .int) false 13 [some (.ref a0), some (.int x1), some (.int x2), some (.int x3), some (.int x4)] [] S 0 0 (mj_std G (some .int) (mj_room 3 0 0) (mj_qi Q))
theorem e_X10_bordersOf {l : Launch} {G : mj_G} {a0 : Nat} {x1 : Int32} {S : mj_S} {Q : mj_S → Int32 → Prop} (h : V_X10_bordersOf_0 l G a0 x1 S Q) : M_X10_bordersOf l G a0 x1 S Q := mj_enter (r := 3) (ini := false) (by decide +kernel) (fun h => by cases h) (fun _ => Nat.le_of_ble_eq_true rfl) rfl h
set_option maxRecDepth 20000 in
set_option maxHeartbeats 1000000 in
theorem b_X10_bordersOf_0 {l : Launch} {G : mj_G} {a0 : Nat} {x1 : Int32} {S : mj_S} {Q : mj_S → Int32 → Prop} (hk_a0 : m_kd S a0 = 9) (h : ∃ b1, m_gp S a0 7 = some b1 ∧ (M_X8_hung l G b1 S (fun S2 r3 => V_X10_bordersOf_13 l G a0 x1 r3 (0 : Int32) (0 : Int32) S2 Q))) : V_X10_bordersOf_0 l G a0 x1 S Q := by
  refine mj_aload_n dX10_bordersOf_0 rfl rfl ?_
  obtain ⟨b1, eb1, h⟩ := h
  refine mj_getP dX10_bordersOf_1 fl_X10_51_9 hk_a0 rfl ⟨b1, eb1, fun hk_b1 => ?_⟩
  refine mj_callVi (as := []) (st := []) dX10_bordersOf_4 cal_X8_hung lk_X10_194 im_X8_hung se_X8_hung (ci := 7) rfl (by decide) hk_b1 h rfl (Nat.le_of_ble_eq_true rfl) (by decide) ⟨Nat.le_of_ble_eq_true rfl, Nat.le_of_ble_eq_true rfl⟩ (fun S2 r3 h hn_r3 hp => ?_)
  have hk_a0 : m_kd S2 a0 = 9 := m_kd_pre hp hk_a0 (by decide)
  have hk_b1 : m_kd S2 b1 = 7 := m_kd_pre hp hk_b1 (by decide)
  refine mj_istore_n dX10_bordersOf_7 rfl (by decide) rfl rfl ?_
  refine mj_iconst (v := 0) dX10_bordersOf_8 (by decide) ?_
  refine mj_istore_n dX10_bordersOf_9 rfl (by decide) rfl rfl ?_
  refine mj_iconst (v := 0) dX10_bordersOf_10 (by decide) ?_
  refine mj_istore dX10_bordersOf_11 (by decide) rfl rfl ?_
  exact h
set_option maxRecDepth 20000 in
set_option maxHeartbeats 1000000 in
theorem b_X10_bordersOf_13 {l : Launch} {G : mj_G} {a0 : Nat} {x1 : Int32} {x2 : Int32} {x3 : Int32} {x4 : Int32} {S : mj_S} {Q : mj_S → Int32 → Prop} (hk_a0 : m_kd S a0 = 9) (h : ∃ b1, m_gp S a0 5 = some b1 ∧ ((((m_gi S b1 7) ≤ x4) → Q S x3) ∧ ((¬ ((m_gi S b1 7) ≤ x4)) → M_X10_has l G x2 x4 S (fun S2 r3 => ((r3 = 0) → ∀ v4 : Int32, v4 = x4 + (1 : Int32) → V_X10_bordersOf_13 l G a0 x1 x2 x3 v4 S2 Q) ∧ ((¬ (r3 = 0)) → ∃ b5, m_gp S2 a0 5 = some b5 ∧ (∃ b6, m_gp S2 b5 8 = some b6 ∧ (vp_in x4 (m_ln S2 b6) ∧ (M_X10_has l G x1 (m_gi S2 b6 (x4).toNatClampNeg) S2 (fun S7 r8 => ∃ b9, m_gp S7 a0 5 = some b9 ∧ (∃ b10, m_gp S7 b9 9 = some b10 ∧ (vp_in x4 (m_ln S7 b10) ∧ (M_X10_has l G x1 (m_gi S7 b10 (x4).toNatClampNeg) S7 (fun S11 r12 => ((r8 = r12) → ∀ v13 : Int32, v13 = x4 + (1 : Int32) → V_X10_bordersOf_13 l G a0 x1 x2 x3 v13 S11 Q) ∧ ((¬ (r8 = r12)) → ∀ v14 : Int32, v14 = (x3 ||| ((1 : Int32) <<< (x4 &&& 31))) → ∀ v15 : Int32, v15 = x4 + (1 : Int32) → V_X10_bordersOf_13 l G a0 x1 x2 v14 v15 S11 Q)))))))))))))) : V_X10_bordersOf_13 l G a0 x1 x2 x3 x4 S Q := by
  refine mj_iload dX10_bordersOf_13 rfl ?_
  refine mj_aload_n dX10_bordersOf_15 rfl rfl ?_
  obtain ⟨b1, eb1, h⟩ := h
  refine mj_getP dX10_bordersOf_16 fl_X10_41_9 hk_a0 rfl ⟨b1, eb1, fun hk_b1 => ?_⟩
  refine mj_getI dX10_bordersOf_19 fl_X10_146_5 hk_b1 rfl ?_
  refine mj_icmp_ge (tgt := 78) dX10_bordersOf_22 (by decide) ⟨fun hc => ?_, fun hc => ?_⟩
  · replace h := h.1 hc
    refine mj_iload_n dX10_bordersOf_78 rfl rfl ?_
    exact mj_reti dX10_bordersOf_79 rfl ⟨Nat.le_of_ble_eq_true rfl, Nat.le_of_ble_eq_true rfl⟩ h
  · replace h := h.2 hc
    refine mj_iload_n dX10_bordersOf_25 rfl rfl ?_
    refine mj_iload dX10_bordersOf_26 rfl ?_
    refine mj_callSi (as := [.int x2, .int x4]) (st := []) dX10_bordersOf_28 cal_X10_has lk_X10_190 sm_X10_has h rfl (Nat.le_of_ble_eq_true rfl) (by decide) ⟨Nat.le_of_ble_eq_true rfl, Nat.le_of_ble_eq_true rfl⟩ (fun S2 r3 h hn_r3 hp => ?_)
    have hk_a0 : m_kd S2 a0 = 9 := m_kd_pre hp hk_a0 (by decide)
    have hk_b1 : m_kd S2 b1 = 5 := m_kd_pre hp hk_b1 (by decide)
    refine mj_if_eq (tgt := 72) dX10_bordersOf_31 (by decide) ⟨fun hc => ?_, fun hc => ?_⟩
    · replace h := h.1 hc
      obtain ⟨v4, ev4⟩ : ∃ z : Int32, z = x4 + (1 : Int32) := ⟨_, rfl⟩
      refine mj_iinc (v := v4) dX10_bordersOf_72 rfl (by rw [ev4]; rfl) (by decide) rfl rfl ?_
      replace h := h v4 ev4
      refine mj_goto (tgt := 13) dX10_bordersOf_75 (by decide) ?_
      exact h
    · replace h := h.2 hc
      refine mj_iload_n dX10_bordersOf_34 rfl rfl ?_
      refine mj_aload_n dX10_bordersOf_35 rfl rfl ?_
      obtain ⟨b5, eb5, h⟩ := h
      refine mj_getP dX10_bordersOf_36 fl_X10_41_9 hk_a0 rfl ⟨b5, eb5, fun hk_b5 => ?_⟩
      obtain ⟨b6, eb6, h⟩ := h
      refine mj_getP dX10_bordersOf_39 fl_X10_172_5 hk_b5 rfl ⟨b6, eb6, fun hk_b6 => ?_⟩
      refine mj_iload dX10_bordersOf_42 rfl ?_
      refine mj_iald dX10_bordersOf_44 (Or.inl hk_b6) ⟨h.1, ?_⟩
      replace h := h.2
      refine mj_callSi (as := [.int x1, .int (m_gi S2 b6 (x4).toNatClampNeg)]) (st := []) dX10_bordersOf_45 cal_X10_has lk_X10_190 sm_X10_has h rfl (Nat.le_of_ble_eq_true rfl) (by decide) ⟨Nat.le_of_ble_eq_true rfl, Nat.le_of_ble_eq_true rfl⟩ (fun S7 r8 h hn_r8 hp => ?_)
      have hk_a0 : m_kd S7 a0 = 9 := m_kd_pre hp hk_a0 (by decide)
      have hk_b1 : m_kd S7 b1 = 5 := m_kd_pre hp hk_b1 (by decide)
      have hk_b5 : m_kd S7 b5 = 5 := m_kd_pre hp hk_b5 (by decide)
      have hk_b6 : m_kd S7 b6 = 100 := m_kd_pre hp hk_b6 (by decide)
      refine mj_iload_n dX10_bordersOf_48 rfl rfl ?_
      refine mj_aload_n dX10_bordersOf_49 rfl rfl ?_
      obtain ⟨b9, eb9, h⟩ := h
      refine mj_getP dX10_bordersOf_50 fl_X10_41_9 hk_a0 rfl ⟨b9, eb9, fun hk_b9 => ?_⟩
      obtain ⟨b10, eb10, h⟩ := h
      refine mj_getP dX10_bordersOf_53 fl_X10_175_5 hk_b9 rfl ⟨b10, eb10, fun hk_b10 => ?_⟩
      refine mj_iload dX10_bordersOf_56 rfl ?_
      refine mj_iald dX10_bordersOf_58 (Or.inl hk_b10) ⟨h.1, ?_⟩
      replace h := h.2
      refine mj_callSi (as := [.int x1, .int (m_gi S7 b10 (x4).toNatClampNeg)]) (st := [.int r8]) dX10_bordersOf_59 cal_X10_has lk_X10_190 sm_X10_has h rfl (Nat.le_of_ble_eq_true rfl) (by decide) ⟨Nat.le_of_ble_eq_true rfl, Nat.le_of_ble_eq_true rfl⟩ (fun S11 r12 h hn_r12 hp => ?_)
      have hk_a0 : m_kd S11 a0 = 9 := m_kd_pre hp hk_a0 (by decide)
      have hk_b1 : m_kd S11 b1 = 5 := m_kd_pre hp hk_b1 (by decide)
      have hk_b5 : m_kd S11 b5 = 5 := m_kd_pre hp hk_b5 (by decide)
      have hk_b6 : m_kd S11 b6 = 100 := m_kd_pre hp hk_b6 (by decide)
      have hk_b9 : m_kd S11 b9 = 5 := m_kd_pre hp hk_b9 (by decide)
      have hk_b10 : m_kd S11 b10 = 100 := m_kd_pre hp hk_b10 (by decide)
      refine mj_icmp_eq (tgt := 72) dX10_bordersOf_62 (by decide) ⟨fun hc => ?_, fun hc => ?_⟩
      · replace h := h.1 hc
        obtain ⟨v13, ev13⟩ : ∃ z : Int32, z = x4 + (1 : Int32) := ⟨_, rfl⟩
        refine mj_iinc (v := v13) dX10_bordersOf_72 rfl (by rw [ev13]; rfl) (by decide) rfl rfl ?_
        replace h := h v13 ev13
        refine mj_goto (tgt := 13) dX10_bordersOf_75 (by decide) ?_
        exact h
      · replace h := h.2 hc
        refine mj_iload_n dX10_bordersOf_65 rfl rfl ?_
        refine mj_iconst (v := 1) dX10_bordersOf_66 (by decide) ?_
        refine mj_iload dX10_bordersOf_67 rfl ?_
        refine mj_ishl dX10_bordersOf_69 ?_
        refine mj_ior dX10_bordersOf_70 ?_
        refine mj_nmi (fun v14 ev14 => ?_)
        replace h := h v14 ev14
        refine mj_istore_n dX10_bordersOf_71 rfl (by decide) rfl rfl ?_
        obtain ⟨v15, ev15⟩ : ∃ z : Int32, z = x4 + (1 : Int32) := ⟨_, rfl⟩
        refine mj_iinc (v := v15) dX10_bordersOf_72 rfl (by rw [ev15]; rfl) (by decide) rfl rfl ?_
        replace h := h v15 ev15
        refine mj_goto (tgt := 13) dX10_bordersOf_75 (by decide) ?_
        exact h
abbrev V_X10_besides_0 (l : Launch) (G : mj_G) (a0 : Nat) (x1 : Int32) (S : mj_S) (Q : mj_S → Int32 → Prop) : Prop := mj_V l G (mj_room 1 0 0) RX10 cX10_besides 4 (some .int) false 0 [some (.ref a0), some (.int x1), none, none] [] S 0 0 (mj_std G (some .int) (mj_room 1 0 0) (mj_qi Q))
abbrev V_X10_besides_4 (l : Launch) (G : mj_G) (a0 : Nat) (x1 : Int32) (x2 : Int32) (x3 : Int32) (S : mj_S) (Q : mj_S → Int32 → Prop) : Prop := mj_V l G (mj_room 1 0 0) RX10 cX10_besides 4 (some .int) false 4 [some (.ref a0), some (.int x1), some (.int x2), some (.int x3)] [] S 0 0 (mj_std G (some .int) (mj_room 1 0 0) (mj_qi Q))
theorem e_X10_besides {l : Launch} {G : mj_G} {a0 : Nat} {x1 : Int32} {S : mj_S} {Q : mj_S → Int32 → Prop} (h : V_X10_besides_0 l G a0 x1 S Q) : M_X10_besides l G a0 x1 S Q := mj_enter (r := 2) (ini := false) (by decide +kernel) (fun h => by cases h) (fun _ => Nat.le_of_ble_eq_true rfl) rfl h
set_option maxRecDepth 20000 in
set_option maxHeartbeats 1000000 in
theorem b_X10_besides_0 {l : Launch} {G : mj_G} {a0 : Nat} {x1 : Int32} {S : mj_S} {Q : mj_S → Int32 → Prop} (hk_a0 : m_kd S a0 = 9) (h : V_X10_besides_4 l G a0 x1 (0 : Int32) (0 : Int32) S Q) : V_X10_besides_0 l G a0 x1 S Q := by
  refine mj_iconst (v := 0) dX10_besides_0 (by decide) ?_
  refine mj_istore_n dX10_besides_1 rfl (by decide) rfl rfl ?_
  refine mj_iconst (v := 0) dX10_besides_2 (by decide) ?_
  refine mj_istore_n dX10_besides_3 rfl (by decide) rfl rfl ?_
  exact h
set_option maxRecDepth 20000 in
set_option maxHeartbeats 1000000 in
theorem b_X10_besides_4 {l : Launch} {G : mj_G} {a0 : Nat} {x1 : Int32} {x2 : Int32} {x3 : Int32} {S : mj_S} {Q : mj_S → Int32 → Prop} (hk_a0 : m_kd S a0 = 9) (h : ∃ b1, m_gp S a0 5 = some b1 ∧ ((((m_gi S b1 7) ≤ x3) → Q S x2) ∧ ((¬ ((m_gi S b1 7) ≤ x3)) → ∃ b2, m_gp S a0 5 = some b2 ∧ (∃ b3, m_gp S b2 8 = some b3 ∧ (vp_in x3 (m_ln S b3) ∧ ((((m_gi S b3 (x3).toNatClampNeg) = x1) → ∀ v4 : Int32, v4 = (x2 ||| ((1 : Int32) <<< (x3 &&& 31))) → ∀ v5 : Int32, v5 = x3 + (1 : Int32) → V_X10_besides_4 l G a0 x1 v4 v5 S Q) ∧ ((¬ ((m_gi S b3 (x3).toNatClampNeg) = x1)) → ∃ b6, m_gp S a0 5 = some b6 ∧ (∃ b7, m_gp S b6 9 = some b7 ∧ (vp_in x3 (m_ln S b7) ∧ (((¬ (m_gi S b7 (x3).toNatClampNeg) = x1) → ∀ v8 : Int32, v8 = x3 + (1 : Int32) → V_X10_besides_4 l G a0 x1 x2 v8 S Q) ∧ (((m_gi S b7 (x3).toNatClampNeg) = x1) → ∀ v9 : Int32, v9 = (x2 ||| ((1 : Int32) <<< (x3 &&& 31))) → ∀ v10 : Int32, v10 = x3 + (1 : Int32) → V_X10_besides_4 l G a0 x1 v9 v10 S Q))))))))))) : V_X10_besides_4 l G a0 x1 x2 x3 S Q := by
  refine mj_iload_n dX10_besides_4 rfl rfl ?_
  refine mj_aload_n dX10_besides_5 rfl rfl ?_
  obtain ⟨b1, eb1, h⟩ := h
  refine mj_getP dX10_besides_6 fl_X10_41_9 hk_a0 rfl ⟨b1, eb1, fun hk_b1 => ?_⟩
  refine mj_getI dX10_besides_9 fl_X10_146_5 hk_b1 rfl ?_
  refine mj_icmp_ge (tgt := 53) dX10_besides_12 (by decide) ⟨fun hc => ?_, fun hc => ?_⟩
  · replace h := h.1 hc
    refine mj_iload_n dX10_besides_53 rfl rfl ?_
    exact mj_reti dX10_besides_54 rfl ⟨Nat.le_of_ble_eq_true rfl, Nat.le_of_ble_eq_true rfl⟩ h
  · replace h := h.2 hc
    refine mj_aload_n dX10_besides_15 rfl rfl ?_
    obtain ⟨b2, eb2, h⟩ := h
    refine mj_getP dX10_besides_16 fl_X10_41_9 hk_a0 rfl ⟨b2, eb2, fun hk_b2 => ?_⟩
    obtain ⟨b3, eb3, h⟩ := h
    refine mj_getP dX10_besides_19 fl_X10_172_5 hk_b2 rfl ⟨b3, eb3, fun hk_b3 => ?_⟩
    refine mj_iload_n dX10_besides_22 rfl rfl ?_
    refine mj_iald dX10_besides_23 (Or.inl hk_b3) ⟨h.1, ?_⟩
    replace h := h.2
    refine mj_iload_n dX10_besides_24 rfl rfl ?_
    refine mj_icmp_eq (tgt := 41) dX10_besides_25 (by decide) ⟨fun hc => ?_, fun hc => ?_⟩
    · replace h := h.1 hc
      refine mj_iload_n dX10_besides_41 rfl rfl ?_
      refine mj_iconst (v := 1) dX10_besides_42 (by decide) ?_
      refine mj_iload_n dX10_besides_43 rfl rfl ?_
      refine mj_ishl dX10_besides_44 ?_
      refine mj_ior dX10_besides_45 ?_
      refine mj_nmi (fun v4 ev4 => ?_)
      replace h := h v4 ev4
      refine mj_istore_n dX10_besides_46 rfl (by decide) rfl rfl ?_
      obtain ⟨v5, ev5⟩ : ∃ z : Int32, z = x3 + (1 : Int32) := ⟨_, rfl⟩
      refine mj_iinc (v := v5) dX10_besides_47 rfl (by rw [ev5]; rfl) (by decide) rfl rfl ?_
      replace h := h v5 ev5
      refine mj_goto (tgt := 4) dX10_besides_50 (by decide) ?_
      exact h
    · replace h := h.2 hc
      refine mj_aload_n dX10_besides_28 rfl rfl ?_
      obtain ⟨b6, eb6, h⟩ := h
      refine mj_getP dX10_besides_29 fl_X10_41_9 hk_a0 rfl ⟨b6, eb6, fun hk_b6 => ?_⟩
      obtain ⟨b7, eb7, h⟩ := h
      refine mj_getP dX10_besides_32 fl_X10_175_5 hk_b6 rfl ⟨b7, eb7, fun hk_b7 => ?_⟩
      refine mj_iload_n dX10_besides_35 rfl rfl ?_
      refine mj_iald dX10_besides_36 (Or.inl hk_b7) ⟨h.1, ?_⟩
      replace h := h.2
      refine mj_iload_n dX10_besides_37 rfl rfl ?_
      refine mj_icmp_ne (tgt := 47) dX10_besides_38 (by decide) ⟨fun hc => ?_, fun hc => ?_⟩
      · replace h := h.1 hc
        obtain ⟨v8, ev8⟩ : ∃ z : Int32, z = x3 + (1 : Int32) := ⟨_, rfl⟩
        refine mj_iinc (v := v8) dX10_besides_47 rfl (by rw [ev8]; rfl) (by decide) rfl rfl ?_
        replace h := h v8 ev8
        refine mj_goto (tgt := 4) dX10_besides_50 (by decide) ?_
        exact h
      · replace h := h.2 hc
        refine mj_iload_n dX10_besides_41 rfl rfl ?_
        refine mj_iconst (v := 1) dX10_besides_42 (by decide) ?_
        refine mj_iload_n dX10_besides_43 rfl rfl ?_
        refine mj_ishl dX10_besides_44 ?_
        refine mj_ior dX10_besides_45 ?_
        refine mj_nmi (fun v9 ev9 => ?_)
        replace h := h v9 ev9
        refine mj_istore_n dX10_besides_46 rfl (by decide) rfl rfl ?_
        obtain ⟨v10, ev10⟩ : ∃ z : Int32, z = x3 + (1 : Int32) := ⟨_, rfl⟩
        refine mj_iinc (v := v10) dX10_besides_47 rfl (by rw [ev10]; rfl) (by decide) rfl rfl ?_
        replace h := h v10 ev10
        refine mj_goto (tgt := 4) dX10_besides_50 (by decide) ?_
        exact h
abbrev V_X10_refuse_0 (l : Launch) (G : mj_G) (a0 : Nat) (x1 : Int32) (S : mj_S) (Q : mj_S → Int32 → Prop) : Prop := mj_V l G (mj_room 2 0 0) RX10 cX10_refuse 2 (some .int) false 0 [some (.ref a0), some (.int x1)] [] S 0 0 (mj_std G (some .int) (mj_room 2 0 0) (mj_qi Q))
theorem e_X10_refuse {l : Launch} {G : mj_G} {a0 : Nat} {x1 : Int32} {S : mj_S} {Q : mj_S → Int32 → Prop} (h : V_X10_refuse_0 l G a0 x1 S Q) : M_X10_refuse l G a0 x1 S Q := mj_enter (r := 0) (ini := false) (by decide +kernel) (fun h => by cases h) (fun _ => Nat.le_of_ble_eq_true rfl) rfl h
set_option maxRecDepth 20000 in
set_option maxHeartbeats 1000000 in
theorem b_X10_refuse_0 {l : Launch} {G : mj_G} {a0 : Nat} {x1 : Int32} {S : mj_S} {Q : mj_S → Int32 → Prop} (hk_a0 : m_kd S a0 = 9) (h : M_X10_within l G x1 (0 : Int32) (4 : Int32) S (fun S1 r2 => ((r2 = 0) → Q S1 (-1 : Int32)) ∧ ((¬ (r2 = 0)) → ∃ b3, m_gp S1 a0 13 = some b3 ∧ (vp_in x1 (m_ln S1 b3) ∧ (vp_in x1 (m_ln S1 b3) ∧ (∀ S4 : mj_S, S4 = m_si S1 b3 (x1).toNatClampNeg ((m_gi S1 b3 (x1).toNatClampNeg) + (1 : Int32)) → Q S4 (-1 : Int32))))))) : V_X10_refuse_0 l G a0 x1 S Q := by
  refine mj_iload_n dX10_refuse_0 rfl rfl ?_
  refine mj_iconst (v := 0) dX10_refuse_1 (by decide) ?_
  refine mj_iconst (v := 4) dX10_refuse_2 (by decide) ?_
  refine mj_callSi (as := [.int x1, .int (0 : Int32), .int (4 : Int32)]) (st := []) dX10_refuse_3 cal_X10_within lk_X10_204 sm_X10_within h rfl (Nat.le_of_ble_eq_true rfl) (by decide) ⟨Nat.le_of_ble_eq_true rfl, Nat.le_of_ble_eq_true rfl⟩ (fun S1 r2 h hn_r2 hp => ?_)
  have hk_a0 : m_kd S1 a0 = 9 := m_kd_pre hp hk_a0 (by decide)
  refine mj_if_eq (tgt := 19) dX10_refuse_6 (by decide) ⟨fun hc => ?_, fun hc => ?_⟩
  · replace h := h.1 hc
    refine mj_iconst (v := (-1)) dX10_refuse_19 (by decide) ?_
    exact mj_reti dX10_refuse_20 rfl ⟨Nat.le_of_ble_eq_true rfl, Nat.le_of_ble_eq_true rfl⟩ h
  · replace h := h.2 hc
    refine mj_aload_n dX10_refuse_9 rfl rfl ?_
    obtain ⟨b3, eb3, h⟩ := h
    refine mj_getP dX10_refuse_10 fl_X10_86_9 hk_a0 rfl ⟨b3, eb3, fun hk_b3 => ?_⟩
    refine mj_iload_n dX10_refuse_13 rfl rfl ?_
    refine mj_dup2 dX10_refuse_14 rfl rfl ?_
    refine mj_iald dX10_refuse_15 (Or.inl hk_b3) ⟨h.1, ?_⟩
    replace h := h.2
    refine mj_iconst (v := 1) dX10_refuse_16 (by decide) ?_
    refine mj_iadd dX10_refuse_17 ?_
    refine mj_iast dX10_refuse_18 hk_b3 ⟨h.1, ?_⟩
    replace h := h.2
    obtain ⟨S4, eS4⟩ : ∃ z, z = m_si S1 b3 (x1).toNatClampNeg ((m_gi S1 b3 (x1).toNatClampNeg) + (1 : Int32)) := ⟨_, rfl⟩
    rw [← eS4]
    replace h := h S4 eS4
    have hk_a0 : m_kd S4 a0 = 9 := by rw [eS4]; exact hk_a0
    have hk_b3 : m_kd S4 b3 = 100 := by rw [eS4]; exact hk_b3
    refine mj_iconst (v := (-1)) dX10_refuse_19 (by decide) ?_
    exact mj_reti dX10_refuse_20 rfl ⟨Nat.le_of_ble_eq_true rfl, Nat.le_of_ble_eq_true rfl⟩ h
abbrev V_X10_rightsOf_0 (l : Launch) (G : mj_G) (a0 : Nat) (x1 : Int32) (S : mj_S) (Q : mj_S → Int32 → Prop) : Prop := mj_V l G (mj_room 4 0 0) RX10 cX10_rightsOf 5 (some .int) false 0 [some (.ref a0), some (.int x1), none, none, none] [] S 0 0 (mj_std G (some .int) (mj_room 4 0 0) (mj_qi Q))
abbrev V_X10_rightsOf_19 (l : Launch) (G : mj_G) (a0 : Nat) (x2 : Int32) (x3 : Int32) (x4 : Int32) (S : mj_S) (Q : mj_S → Int32 → Prop) : Prop := mj_V l G (mj_room 4 0 0) RX10 cX10_rightsOf 5 (some .int) false 19 [some (.ref a0), none, some (.int x2), some (.int x3), some (.int x4)] [] S 0 0 (mj_std G (some .int) (mj_room 4 0 0) (mj_qi Q))
theorem e_X10_rightsOf {l : Launch} {G : mj_G} {a0 : Nat} {x1 : Int32} {S : mj_S} {Q : mj_S → Int32 → Prop} (h : V_X10_rightsOf_0 l G a0 x1 S Q) : M_X10_rightsOf l G a0 x1 S Q := mj_enter (r := 3) (ini := false) (by decide +kernel) (fun h => by cases h) (fun _ => Nat.le_of_ble_eq_true rfl) rfl h
set_option maxRecDepth 20000 in
set_option maxHeartbeats 1000000 in
theorem b_X10_rightsOf_0 {l : Launch} {G : mj_G} {a0 : Nat} {x1 : Int32} {S : mj_S} {Q : mj_S → Int32 → Prop} (hk_a0 : m_kd S a0 = 9) (h : ∃ b1, m_gp S a0 7 = some b1 ∧ (∃ b2, m_gp S b1 2 = some b2 ∧ (vp_in x1 (m_ln S b2) ∧ (M_X10_stateAround l G a0 (m_gi S b2 (x1).toNatClampNeg) S (fun S3 r4 => V_X10_rightsOf_19 l G a0 r4 (0 : Int32) (0 : Int32) S3 Q))))) : V_X10_rightsOf_0 l G a0 x1 S Q := by
  refine mj_aload_n dX10_rightsOf_0 rfl rfl ?_
  refine mj_aload_n dX10_rightsOf_1 rfl rfl ?_
  obtain ⟨b1, eb1, h⟩ := h
  refine mj_getP dX10_rightsOf_2 fl_X10_51_9 hk_a0 rfl ⟨b1, eb1, fun hk_b1 => ?_⟩
  obtain ⟨b2, eb2, h⟩ := h
  refine mj_getP dX10_rightsOf_5 fl_X10_211_7 hk_b1 rfl ⟨b2, eb2, fun hk_b2 => ?_⟩
  refine mj_iload_n dX10_rightsOf_8 rfl rfl ?_
  refine mj_iald dX10_rightsOf_9 (Or.inl hk_b2) ⟨h.1, ?_⟩
  replace h := h.2
  refine mj_callVi (as := [.int (m_gi S b2 (x1).toNatClampNeg)]) (st := []) dX10_rightsOf_10 cal_X10_stateAround lk_X10_217 im_X10_stateAround se_X10_stateAround (ci := 9) rfl (by decide) hk_a0 h rfl (Nat.le_of_ble_eq_true rfl) (by decide) ⟨Nat.le_of_ble_eq_true rfl, Nat.le_of_ble_eq_true rfl⟩ (fun S3 r4 h hn_r4 hp => ?_)
  have hk_a0 : m_kd S3 a0 = 9 := m_kd_pre hp hk_a0 (by decide)
  have hk_b1 : m_kd S3 b1 = 7 := m_kd_pre hp hk_b1 (by decide)
  have hk_b2 : m_kd S3 b2 = 100 := m_kd_pre hp hk_b2 (by decide)
  refine mj_istore_n dX10_rightsOf_13 rfl (by decide) rfl rfl ?_
  refine mj_iconst (v := 0) dX10_rightsOf_14 (by decide) ?_
  refine mj_istore_n dX10_rightsOf_15 rfl (by decide) rfl rfl ?_
  refine mj_iconst (v := 0) dX10_rightsOf_16 (by decide) ?_
  refine mj_istore dX10_rightsOf_17 (by decide) rfl rfl ?_
  exact mj_lessm [true, false, true, true, true] rfl h
set_option maxRecDepth 20000 in
set_option maxHeartbeats 1000000 in
theorem b_X10_rightsOf_19 {l : Launch} {G : mj_G} {a0 : Nat} {x2 : Int32} {x3 : Int32} {x4 : Int32} {S : mj_S} {Q : mj_S → Int32 → Prop} (hk_a0 : m_kd S a0 = 9) (h : ∃ b1, m_gp S a0 5 = some b1 ∧ ((((m_gi S b1 7) ≤ x4) → Q S x3) ∧ ((¬ ((m_gi S b1 7) ≤ x4)) → ∃ b2, m_gp S a0 5 = some b2 ∧ (∃ b3, m_gp S b2 8 = some b3 ∧ (vp_in x4 (m_ln S b3) ∧ (M_X10_has l G x2 (m_gi S b3 (x4).toNatClampNeg) S (fun S4 r5 => ((¬ r5 = 0) → ∀ v6 : Int32, v6 = (x3 ||| ((1 : Int32) <<< (x4 &&& 31))) → ∀ v7 : Int32, v7 = x4 + (1 : Int32) → V_X10_rightsOf_19 l G a0 x2 v6 v7 S4 Q) ∧ ((r5 = 0) → ∃ b8, m_gp S4 a0 5 = some b8 ∧ (∃ b9, m_gp S4 b8 9 = some b9 ∧ (vp_in x4 (m_ln S4 b9) ∧ (M_X10_has l G x2 (m_gi S4 b9 (x4).toNatClampNeg) S4 (fun S10 r11 => ((r11 = 0) → ∀ v12 : Int32, v12 = x4 + (1 : Int32) → V_X10_rightsOf_19 l G a0 x2 x3 v12 S10 Q) ∧ ((¬ (r11 = 0)) → ∀ v13 : Int32, v13 = (x3 ||| ((1 : Int32) <<< (x4 &&& 31))) → ∀ v14 : Int32, v14 = x4 + (1 : Int32) → V_X10_rightsOf_19 l G a0 x2 v13 v14 S10 Q))))))))))))) : V_X10_rightsOf_19 l G a0 x2 x3 x4 S Q := by
  refine mj_iload dX10_rightsOf_19 rfl ?_
  refine mj_aload_n dX10_rightsOf_21 rfl rfl ?_
  obtain ⟨b1, eb1, h⟩ := h
  refine mj_getP dX10_rightsOf_22 fl_X10_41_9 hk_a0 rfl ⟨b1, eb1, fun hk_b1 => ?_⟩
  refine mj_getI dX10_rightsOf_25 fl_X10_146_5 hk_b1 rfl ?_
  refine mj_icmp_ge (tgt := 78) dX10_rightsOf_28 (by decide) ⟨fun hc => ?_, fun hc => ?_⟩
  · replace h := h.1 hc
    refine mj_iload_n dX10_rightsOf_78 rfl rfl ?_
    exact mj_reti dX10_rightsOf_79 rfl ⟨Nat.le_of_ble_eq_true rfl, Nat.le_of_ble_eq_true rfl⟩ h
  · replace h := h.2 hc
    refine mj_iload_n dX10_rightsOf_31 rfl rfl ?_
    refine mj_aload_n dX10_rightsOf_32 rfl rfl ?_
    obtain ⟨b2, eb2, h⟩ := h
    refine mj_getP dX10_rightsOf_33 fl_X10_41_9 hk_a0 rfl ⟨b2, eb2, fun hk_b2 => ?_⟩
    obtain ⟨b3, eb3, h⟩ := h
    refine mj_getP dX10_rightsOf_36 fl_X10_172_5 hk_b2 rfl ⟨b3, eb3, fun hk_b3 => ?_⟩
    refine mj_iload dX10_rightsOf_39 rfl ?_
    refine mj_iald dX10_rightsOf_41 (Or.inl hk_b3) ⟨h.1, ?_⟩
    replace h := h.2
    refine mj_callSi (as := [.int x2, .int (m_gi S b3 (x4).toNatClampNeg)]) (st := []) dX10_rightsOf_42 cal_X10_has lk_X10_190 sm_X10_has h rfl (Nat.le_of_ble_eq_true rfl) (by decide) ⟨Nat.le_of_ble_eq_true rfl, Nat.le_of_ble_eq_true rfl⟩ (fun S4 r5 h hn_r5 hp => ?_)
    have hk_a0 : m_kd S4 a0 = 9 := m_kd_pre hp hk_a0 (by decide)
    have hk_b1 : m_kd S4 b1 = 5 := m_kd_pre hp hk_b1 (by decide)
    have hk_b2 : m_kd S4 b2 = 5 := m_kd_pre hp hk_b2 (by decide)
    have hk_b3 : m_kd S4 b3 = 100 := m_kd_pre hp hk_b3 (by decide)
    refine mj_if_ne (tgt := 65) dX10_rightsOf_45 (by decide) ⟨fun hc => ?_, fun hc => ?_⟩
    · replace h := h.1 hc
      refine mj_iload_n dX10_rightsOf_65 rfl rfl ?_
      refine mj_iconst (v := 1) dX10_rightsOf_66 (by decide) ?_
      refine mj_iload dX10_rightsOf_67 rfl ?_
      refine mj_ishl dX10_rightsOf_69 ?_
      refine mj_ior dX10_rightsOf_70 ?_
      refine mj_nmi (fun v6 ev6 => ?_)
      replace h := h v6 ev6
      refine mj_istore_n dX10_rightsOf_71 rfl (by decide) rfl rfl ?_
      obtain ⟨v7, ev7⟩ : ∃ z : Int32, z = x4 + (1 : Int32) := ⟨_, rfl⟩
      refine mj_iinc (v := v7) dX10_rightsOf_72 rfl (by rw [ev7]; rfl) (by decide) rfl rfl ?_
      replace h := h v7 ev7
      refine mj_goto (tgt := 19) dX10_rightsOf_75 (by decide) ?_
      exact h
    · replace h := h.2 hc
      refine mj_iload_n dX10_rightsOf_48 rfl rfl ?_
      refine mj_aload_n dX10_rightsOf_49 rfl rfl ?_
      obtain ⟨b8, eb8, h⟩ := h
      refine mj_getP dX10_rightsOf_50 fl_X10_41_9 hk_a0 rfl ⟨b8, eb8, fun hk_b8 => ?_⟩
      obtain ⟨b9, eb9, h⟩ := h
      refine mj_getP dX10_rightsOf_53 fl_X10_175_5 hk_b8 rfl ⟨b9, eb9, fun hk_b9 => ?_⟩
      refine mj_iload dX10_rightsOf_56 rfl ?_
      refine mj_iald dX10_rightsOf_58 (Or.inl hk_b9) ⟨h.1, ?_⟩
      replace h := h.2
      refine mj_callSi (as := [.int x2, .int (m_gi S4 b9 (x4).toNatClampNeg)]) (st := []) dX10_rightsOf_59 cal_X10_has lk_X10_190 sm_X10_has h rfl (Nat.le_of_ble_eq_true rfl) (by decide) ⟨Nat.le_of_ble_eq_true rfl, Nat.le_of_ble_eq_true rfl⟩ (fun S10 r11 h hn_r11 hp => ?_)
      have hk_a0 : m_kd S10 a0 = 9 := m_kd_pre hp hk_a0 (by decide)
      have hk_b1 : m_kd S10 b1 = 5 := m_kd_pre hp hk_b1 (by decide)
      have hk_b2 : m_kd S10 b2 = 5 := m_kd_pre hp hk_b2 (by decide)
      have hk_b3 : m_kd S10 b3 = 100 := m_kd_pre hp hk_b3 (by decide)
      have hk_b8 : m_kd S10 b8 = 5 := m_kd_pre hp hk_b8 (by decide)
      have hk_b9 : m_kd S10 b9 = 100 := m_kd_pre hp hk_b9 (by decide)
      refine mj_if_eq (tgt := 72) dX10_rightsOf_62 (by decide) ⟨fun hc => ?_, fun hc => ?_⟩
      · replace h := h.1 hc
        obtain ⟨v12, ev12⟩ : ∃ z : Int32, z = x4 + (1 : Int32) := ⟨_, rfl⟩
        refine mj_iinc (v := v12) dX10_rightsOf_72 rfl (by rw [ev12]; rfl) (by decide) rfl rfl ?_
        replace h := h v12 ev12
        refine mj_goto (tgt := 19) dX10_rightsOf_75 (by decide) ?_
        exact h
      · replace h := h.2 hc
        refine mj_iload_n dX10_rightsOf_65 rfl rfl ?_
        refine mj_iconst (v := 1) dX10_rightsOf_66 (by decide) ?_
        refine mj_iload dX10_rightsOf_67 rfl ?_
        refine mj_ishl dX10_rightsOf_69 ?_
        refine mj_ior dX10_rightsOf_70 ?_
        refine mj_nmi (fun v13 ev13 => ?_)
        replace h := h v13 ev13
        refine mj_istore_n dX10_rightsOf_71 rfl (by decide) rfl rfl ?_
        obtain ⟨v14, ev14⟩ : ∃ z : Int32, z = x4 + (1 : Int32) := ⟨_, rfl⟩
        refine mj_iinc (v := v14) dX10_rightsOf_72 rfl (by rw [ev14]; rfl) (by decide) rfl rfl ?_
        replace h := h v14 ev14
        refine mj_goto (tgt := 19) dX10_rightsOf_75 (by decide) ?_
        exact h
abbrev V_X10_pull_0 (l : Launch) (G : mj_G) (a0 : Nat) (x1 : Int32) (x2 : Int32) (x3 : Int32) (S : mj_S) (Q : mj_S → Int32 → Prop) : Prop := mj_V l G (mj_room 5 0 0) RX10 cX10_pull 4 (some .int) false 0 [some (.ref a0), some (.int x1), some (.int x2), some (.int x3)] [] S 0 0 (mj_std G (some .int) (mj_room 5 0 0) (mj_qi Q))
abbrev V_X10_pull_16 (l : Launch) (G : mj_G) (a0 : Nat) (S : mj_S) (Q : mj_S → Int32 → Prop) : Prop := mj_V l G (mj_room 5 0 0) RX10 cX10_pull 4 (some .int) false 16 [some (.ref a0), none, none, none] [] S 0 0 (mj_std G (some .int) (mj_room 5 0 0) (mj_qi Q))
abbrev V_X10_pull_49 (l : Launch) (G : mj_G) (a0 : Nat) (S : mj_S) (Q : mj_S → Int32 → Prop) : Prop := mj_V l G (mj_room 5 0 0) RX10 cX10_pull 4 (some .int) false 49 [some (.ref a0), none, none, none] [] S 0 0 (mj_std G (some .int) (mj_room 5 0 0) (mj_qi Q))
theorem e_X10_pull {l : Launch} {G : mj_G} {a0 : Nat} {x1 : Int32} {x2 : Int32} {x3 : Int32} {S : mj_S} {Q : mj_S → Int32 → Prop} (h : V_X10_pull_0 l G a0 x1 x2 x3 S Q) : M_X10_pull l G a0 x1 x2 x3 S Q := mj_enter (r := 0) (ini := false) (by decide +kernel) (fun h => by cases h) (fun _ => Nat.le_of_ble_eq_true rfl) rfl h
set_option maxRecDepth 20000 in
set_option maxHeartbeats 1000000 in
theorem b_X10_pull_0 {l : Launch} {G : mj_G} {a0 : Nat} {x1 : Int32} {x2 : Int32} {x3 : Int32} {S : mj_S} {Q : mj_S → Int32 → Prop} (hk_a0 : m_kd S a0 = 9) (h : M_X10_isPerson l G a0 x1 S (fun S1 r2 => ((r2 = 0) → V_X10_pull_16 l G a0 S1 Q) ∧ ((¬ (r2 = 0)) → M_X10_isCurtain l G a0 x2 S1 (fun S3 r4 => ((¬ r4 = 0) → M_X10_rightsOf l G a0 x1 S3 (fun S5 r6 => M_X10_has l G r6 x2 S5 (fun S7 r8 => ((r8 = 0) → V_X10_pull_49 l G a0 S7 Q) ∧ ((¬ (r8 = 0)) → ∃ b9, m_gp S7 a0 7 = some b9 ∧ (M_X10_has l G (m_gi S7 b9 3) x2 S7 (fun S10 r11 => ((¬ r11 = x3) → ∃ b12, m_gp S10 a0 7 = some b12 ∧ (∃ b13, m_gp S10 b12 1 = some b13 ∧ (vp_in x2 (m_ln S10 b13) ∧ (((¬ (m_gi S10 b13 (x2).toNatClampNeg) = 0) → ∃ b14, m_gp S10 a0 9 = some b14 ∧ (∃ b15, m_gp S10 a0 7 = some b15 ∧ (M_X4_remember l G b14 b15 S10 (fun S16 => ∃ b17, m_gp S16 a0 7 = some b17 ∧ (∀ S18 : mj_S, S18 = m_si S16 b17 3 ((m_gi S16 b17 3) ^^^ ((1 : Int32) <<< (x2 &&& 31))) → ∃ b19, m_gp S18 a0 7 = some b19 ∧ (M_X10_statesOf l G a0 b19 S18 (fun S20 r21 => Q S20 r21))))))) ∧ (((m_gi S10 b13 (x2).toNatClampNeg) = 0) → M_X10_refuse l G a0 (3 : Int32) S10 (fun S22 r23 => Q S22 r23)))))) ∧ ((r11 = x3) → V_X10_pull_49 l G a0 S10 Q))))))) ∧ ((r4 = 0) → V_X10_pull_16 l G a0 S3 Q))))) : V_X10_pull_0 l G a0 x1 x2 x3 S Q := by
  refine mj_aload_n dX10_pull_0 rfl rfl ?_
  refine mj_iload_n dX10_pull_1 rfl rfl ?_
  refine mj_callVi (as := [.int x1]) (st := []) dX10_pull_2 cal_X10_isPerson lk_X10_201 im_X10_isPerson se_X10_isPerson (ci := 9) rfl (by decide) hk_a0 h rfl (Nat.le_of_ble_eq_true rfl) (by decide) ⟨Nat.le_of_ble_eq_true rfl, Nat.le_of_ble_eq_true rfl⟩ (fun S1 r2 h hn_r2 hp => ?_)
  have hk_a0 : m_kd S1 a0 = 9 := m_kd_pre hp hk_a0 (by decide)
  refine mj_if_eq (tgt := 16) dX10_pull_5 (by decide) ⟨fun hc => ?_, fun hc => ?_⟩
  · replace h := h.1 hc
    exact mj_lessm [true, false, false, false] rfl h
  · replace h := h.2 hc
    refine mj_aload_n dX10_pull_8 rfl rfl ?_
    refine mj_iload_n dX10_pull_9 rfl rfl ?_
    refine mj_callVi (as := [.int x2]) (st := []) dX10_pull_10 cal_X10_isCurtain lk_X10_168 im_X10_isCurtain se_X10_isCurtain (ci := 9) rfl (by decide) hk_a0 h rfl (Nat.le_of_ble_eq_true rfl) (by decide) ⟨Nat.le_of_ble_eq_true rfl, Nat.le_of_ble_eq_true rfl⟩ (fun S3 r4 h hn_r4 hp => ?_)
    have hk_a0 : m_kd S3 a0 = 9 := m_kd_pre hp hk_a0 (by decide)
    refine mj_if_ne (tgt := 22) dX10_pull_13 (by decide) ⟨fun hc => ?_, fun hc => ?_⟩
    · replace h := h.1 hc
      refine mj_aload_n dX10_pull_22 rfl rfl ?_
      refine mj_iload_n dX10_pull_23 rfl rfl ?_
      refine mj_callVi (as := [.int x1]) (st := []) dX10_pull_24 cal_X10_rightsOf lk_X10_274 im_X10_rightsOf se_X10_rightsOf (ci := 9) rfl (by decide) hk_a0 h rfl (Nat.le_of_ble_eq_true rfl) (by decide) ⟨Nat.le_of_ble_eq_true rfl, Nat.le_of_ble_eq_true rfl⟩ (fun S5 r6 h hn_r6 hp => ?_)
      have hk_a0 : m_kd S5 a0 = 9 := m_kd_pre hp hk_a0 (by decide)
      refine mj_iload_n dX10_pull_27 rfl rfl ?_
      refine mj_callSi (as := [.int r6, .int x2]) (st := []) dX10_pull_28 cal_X10_has lk_X10_190 sm_X10_has h rfl (Nat.le_of_ble_eq_true rfl) (by decide) ⟨Nat.le_of_ble_eq_true rfl, Nat.le_of_ble_eq_true rfl⟩ (fun S7 r8 h hn_r8 hp => ?_)
      have hk_a0 : m_kd S7 a0 = 9 := m_kd_pre hp hk_a0 (by decide)
      refine mj_if_eq (tgt := 49) dX10_pull_31 (by decide) ⟨fun hc => ?_, fun hc => ?_⟩
      · replace h := h.1 hc
        exact mj_lessm [true, false, false, false] rfl h
      · replace h := h.2 hc
        refine mj_aload_n dX10_pull_34 rfl rfl ?_
        obtain ⟨b9, eb9, h⟩ := h
        refine mj_getP dX10_pull_35 fl_X10_51_9 hk_a0 rfl ⟨b9, eb9, fun hk_b9 => ?_⟩
        refine mj_getI dX10_pull_38 fl_X10_187_7 hk_b9 rfl ?_
        refine mj_iload_n dX10_pull_41 rfl rfl ?_
        refine mj_callSi (as := [.int (m_gi S7 b9 3), .int x2]) (st := []) dX10_pull_42 cal_X10_has lk_X10_190 sm_X10_has h rfl (Nat.le_of_ble_eq_true rfl) (by decide) ⟨Nat.le_of_ble_eq_true rfl, Nat.le_of_ble_eq_true rfl⟩ (fun S10 r11 h hn_r11 hp => ?_)
        have hk_a0 : m_kd S10 a0 = 9 := m_kd_pre hp hk_a0 (by decide)
        have hk_b9 : m_kd S10 b9 = 7 := m_kd_pre hp hk_b9 (by decide)
        refine mj_iload_n dX10_pull_45 rfl rfl ?_
        refine mj_icmp_ne (tgt := 55) dX10_pull_46 (by decide) ⟨fun hc => ?_, fun hc => ?_⟩
        · replace h := h.1 hc
          refine mj_aload_n dX10_pull_55 rfl rfl ?_
          obtain ⟨b12, eb12, h⟩ := h
          refine mj_getP dX10_pull_56 fl_X10_51_9 hk_a0 rfl ⟨b12, eb12, fun hk_b12 => ?_⟩
          obtain ⟨b13, eb13, h⟩ := h
          refine mj_getP dX10_pull_59 fl_X10_181_7 hk_b12 rfl ⟨b13, eb13, fun hk_b13 => ?_⟩
          refine mj_iload_n dX10_pull_62 rfl rfl ?_
          refine mj_iald dX10_pull_63 (Or.inl hk_b13) ⟨h.1, ?_⟩
          replace h := h.2
          refine mj_if_ne (tgt := 73) dX10_pull_64 (by decide) ⟨fun hc => ?_, fun hc => ?_⟩
          · replace h := h.1 hc
            refine mj_aload_n dX10_pull_73 rfl rfl ?_
            obtain ⟨b14, eb14, h⟩ := h
            refine mj_getP dX10_pull_74 fl_X10_61_9 hk_a0 rfl ⟨b14, eb14, fun hk_b14 => ?_⟩
            refine mj_aload_n dX10_pull_77 rfl rfl ?_
            obtain ⟨b15, eb15, h⟩ := h
            refine mj_getP dX10_pull_78 fl_X10_51_9 hk_a0 rfl ⟨b15, eb15, fun hk_b15 => ?_⟩
            refine mj_callVv (as := [.ref b15]) (st := []) dX10_pull_81 cal_X4_remember lk_X10_277 im_X4_remember se_X4_remember (ci := 4) rfl (by decide) hk_b14 h rfl (Nat.le_of_ble_eq_true rfl) (by decide) ⟨Nat.le_of_ble_eq_true rfl, Nat.le_of_ble_eq_true rfl⟩ (fun S16 h hp => ?_)
            have hk_a0 : m_kd S16 a0 = 9 := m_kd_pre hp hk_a0 (by decide)
            have hk_b9 : m_kd S16 b9 = 7 := m_kd_pre hp hk_b9 (by decide)
            have hk_b12 : m_kd S16 b12 = 7 := m_kd_pre hp hk_b12 (by decide)
            have hk_b13 : m_kd S16 b13 = 100 := m_kd_pre hp hk_b13 (by decide)
            have hk_b14 : m_kd S16 b14 = 4 := m_kd_pre hp hk_b14 (by decide)
            have hk_b15 : m_kd S16 b15 = 7 := m_kd_pre hp hk_b15 (by decide)
            refine mj_aload_n dX10_pull_84 rfl rfl ?_
            obtain ⟨b17, eb17, h⟩ := h
            refine mj_getP dX10_pull_85 fl_X10_51_9 hk_a0 rfl ⟨b17, eb17, fun hk_b17 => ?_⟩
            refine mj_dup dX10_pull_88 rfl ?_
            refine mj_getI dX10_pull_89 fl_X10_187_7 hk_b17 rfl ?_
            refine mj_iconst (v := 1) dX10_pull_92 (by decide) ?_
            refine mj_iload_n dX10_pull_93 rfl rfl ?_
            refine mj_ishl dX10_pull_94 ?_
            refine mj_ixor dX10_pull_95 ?_
            refine mj_putI dX10_pull_96 fl_X10_187_7 hk_b17 (Or.inl rfl) rfl rfl rfl ?_
            obtain ⟨S18, eS18⟩ : ∃ z, z = m_si S16 b17 3 ((m_gi S16 b17 3) ^^^ ((1 : Int32) <<< (x2 &&& 31))) := ⟨_, rfl⟩
            rw [← eS18]
            replace h := h S18 eS18
            have hk_a0 : m_kd S18 a0 = 9 := by rw [eS18]; exact hk_a0
            have hk_b9 : m_kd S18 b9 = 7 := by rw [eS18]; exact hk_b9
            have hk_b12 : m_kd S18 b12 = 7 := by rw [eS18]; exact hk_b12
            have hk_b13 : m_kd S18 b13 = 100 := by rw [eS18]; exact hk_b13
            have hk_b14 : m_kd S18 b14 = 4 := by rw [eS18]; exact hk_b14
            have hk_b15 : m_kd S18 b15 = 7 := by rw [eS18]; exact hk_b15
            have hk_b17 : m_kd S18 b17 = 7 := by rw [eS18]; exact hk_b17
            refine mj_aload_n dX10_pull_99 rfl rfl ?_
            refine mj_aload_n dX10_pull_100 rfl rfl ?_
            obtain ⟨b19, eb19, h⟩ := h
            refine mj_getP dX10_pull_101 fl_X10_51_9 hk_a0 rfl ⟨b19, eb19, fun hk_b19 => ?_⟩
            refine mj_callVi (as := [.ref b19]) (st := []) dX10_pull_104 cal_X10_statesOf lk_X10_280 im_X10_statesOf se_X10_statesOf (ci := 9) rfl (by decide) hk_a0 h rfl (Nat.le_of_ble_eq_true rfl) (by decide) ⟨Nat.le_of_ble_eq_true rfl, Nat.le_of_ble_eq_true rfl⟩ (fun S20 r21 h hn_r21 hp => ?_)
            have hk_a0 : m_kd S20 a0 = 9 := m_kd_pre hp hk_a0 (by decide)
            have hk_b9 : m_kd S20 b9 = 7 := m_kd_pre hp hk_b9 (by decide)
            have hk_b12 : m_kd S20 b12 = 7 := m_kd_pre hp hk_b12 (by decide)
            have hk_b13 : m_kd S20 b13 = 100 := m_kd_pre hp hk_b13 (by decide)
            have hk_b14 : m_kd S20 b14 = 4 := m_kd_pre hp hk_b14 (by decide)
            have hk_b15 : m_kd S20 b15 = 7 := m_kd_pre hp hk_b15 (by decide)
            have hk_b17 : m_kd S20 b17 = 7 := m_kd_pre hp hk_b17 (by decide)
            have hk_b19 : m_kd S20 b19 = 7 := m_kd_pre hp hk_b19 (by decide)
            exact mj_reti dX10_pull_107 rfl ⟨Nat.le_of_ble_eq_true rfl, Nat.le_of_ble_eq_true rfl⟩ h
          · replace h := h.2 hc
            refine mj_aload_n dX10_pull_67 rfl rfl ?_
            refine mj_iconst (v := 3) dX10_pull_68 (by decide) ?_
            refine mj_callVi (as := [.int (3 : Int32)]) (st := []) dX10_pull_69 cal_X10_refuse lk_X10_271 im_X10_refuse se_X10_refuse (ci := 9) rfl (by decide) hk_a0 h rfl (Nat.le_of_ble_eq_true rfl) (by decide) ⟨Nat.le_of_ble_eq_true rfl, Nat.le_of_ble_eq_true rfl⟩ (fun S22 r23 h hn_r23 hp => ?_)
            have hk_a0 : m_kd S22 a0 = 9 := m_kd_pre hp hk_a0 (by decide)
            have hk_b9 : m_kd S22 b9 = 7 := m_kd_pre hp hk_b9 (by decide)
            have hk_b12 : m_kd S22 b12 = 7 := m_kd_pre hp hk_b12 (by decide)
            have hk_b13 : m_kd S22 b13 = 100 := m_kd_pre hp hk_b13 (by decide)
            exact mj_reti dX10_pull_72 rfl ⟨Nat.le_of_ble_eq_true rfl, Nat.le_of_ble_eq_true rfl⟩ h
        · replace h := h.2 hc
          exact mj_lessm [true, false, false, false] rfl h
    · replace h := h.2 hc
      exact mj_lessm [true, false, false, false] rfl h
set_option maxRecDepth 20000 in
set_option maxHeartbeats 1000000 in
theorem b_X10_pull_16 {l : Launch} {G : mj_G} {a0 : Nat} {S : mj_S} {Q : mj_S → Int32 → Prop} (hk_a0 : m_kd S a0 = 9) (h : M_X10_refuse l G a0 (0 : Int32) S (fun S1 r2 => Q S1 r2)) : V_X10_pull_16 l G a0 S Q := by
  refine mj_aload_n dX10_pull_16 rfl rfl ?_
  refine mj_iconst (v := 0) dX10_pull_17 (by decide) ?_
  refine mj_callVi (as := [.int (0 : Int32)]) (st := []) dX10_pull_18 cal_X10_refuse lk_X10_271 im_X10_refuse se_X10_refuse (ci := 9) rfl (by decide) hk_a0 h rfl (Nat.le_of_ble_eq_true rfl) (by decide) ⟨Nat.le_of_ble_eq_true rfl, Nat.le_of_ble_eq_true rfl⟩ (fun S1 r2 h hn_r2 hp => ?_)
  have hk_a0 : m_kd S1 a0 = 9 := m_kd_pre hp hk_a0 (by decide)
  exact mj_reti dX10_pull_21 rfl ⟨Nat.le_of_ble_eq_true rfl, Nat.le_of_ble_eq_true rfl⟩ h
set_option maxRecDepth 20000 in
set_option maxHeartbeats 1000000 in
theorem b_X10_pull_49 {l : Launch} {G : mj_G} {a0 : Nat} {S : mj_S} {Q : mj_S → Int32 → Prop} (hk_a0 : m_kd S a0 = 9) (h : M_X10_refuse l G a0 (2 : Int32) S (fun S1 r2 => Q S1 r2)) : V_X10_pull_49 l G a0 S Q := by
  refine mj_aload_n dX10_pull_49 rfl rfl ?_
  refine mj_iconst (v := 2) dX10_pull_50 (by decide) ?_
  refine mj_callVi (as := [.int (2 : Int32)]) (st := []) dX10_pull_51 cal_X10_refuse lk_X10_271 im_X10_refuse se_X10_refuse (ci := 9) rfl (by decide) hk_a0 h rfl (Nat.le_of_ble_eq_true rfl) (by decide) ⟨Nat.le_of_ble_eq_true rfl, Nat.le_of_ble_eq_true rfl⟩ (fun S1 r2 h hn_r2 hp => ?_)
  have hk_a0 : m_kd S1 a0 = 9 := m_kd_pre hp hk_a0 (by decide)
  exact mj_reti dX10_pull_54 rfl ⟨Nat.le_of_ble_eq_true rfl, Nat.le_of_ble_eq_true rfl⟩ h
abbrev V_X10_go_0 (l : Launch) (G : mj_G) (a0 : Nat) (x1 : Int32) (x2 : Int32) (S : mj_S) (Q : mj_S → Int32 → Prop) : Prop := mj_V l G (mj_room 4 0 0) RX10 cX10_go 4 (some .int) false 0 [some (.ref a0), some (.int x1), some (.int x2), none] [] S 0 0 (mj_std G (some .int) (mj_room 4 0 0) (mj_qi Q))
abbrev V_X10_go_16 (l : Launch) (G : mj_G) (a0 : Nat) (S : mj_S) (Q : mj_S → Int32 → Prop) : Prop := mj_V l G (mj_room 4 0 0) RX10 cX10_go 4 (some .int) false 16 [some (.ref a0), none, none, none] [] S 0 0 (mj_std G (some .int) (mj_room 4 0 0) (mj_qi Q))
abbrev V_X10_go_57 (l : Launch) (G : mj_G) (a0 : Nat) (S : mj_S) (Q : mj_S → Int32 → Prop) : Prop := mj_V l G (mj_room 4 0 0) RX10 cX10_go 4 (some .int) false 57 [some (.ref a0), none, none, none] [] S 0 0 (mj_std G (some .int) (mj_room 4 0 0) (mj_qi Q))
theorem e_X10_go {l : Launch} {G : mj_G} {a0 : Nat} {x1 : Int32} {x2 : Int32} {S : mj_S} {Q : mj_S → Int32 → Prop} (h : V_X10_go_0 l G a0 x1 x2 S Q) : M_X10_go l G a0 x1 x2 S Q := mj_enter (r := 1) (ini := false) (by decide +kernel) (fun h => by cases h) (fun _ => Nat.le_of_ble_eq_true rfl) rfl h
set_option maxRecDepth 20000 in
set_option maxHeartbeats 1000000 in
theorem b_X10_go_0 {l : Launch} {G : mj_G} {a0 : Nat} {x1 : Int32} {x2 : Int32} {S : mj_S} {Q : mj_S → Int32 → Prop} (hk_a0 : m_kd S a0 = 9) (h : M_X10_isPerson l G a0 x1 S (fun S1 r2 => ((r2 = 0) → V_X10_go_16 l G a0 S1 Q) ∧ ((¬ (r2 = 0)) → M_X10_isSquare l G a0 x2 S1 (fun S3 r4 => ((¬ r4 = 0) → ∃ b5, m_gp S3 a0 7 = some b5 ∧ (∃ b6, m_gp S3 b5 2 = some b6 ∧ (vp_in x1 (m_ln S3 b6) ∧ (M_X10_stateAround l G a0 (m_gi S3 b6 (x1).toNatClampNeg) S3 (fun S7 r8 => M_X10_has l G r8 x2 S7 (fun S9 r10 => ((r10 = 0) → V_X10_go_57 l G a0 S9 Q) ∧ ((¬ (r10 = 0)) → ∃ b11, m_gp S9 a0 7 = some b11 ∧ (∃ b12, m_gp S9 b11 2 = some b12 ∧ (vp_in x1 (m_ln S9 b12) ∧ (((¬ (m_gi S9 b12 (x1).toNatClampNeg) = x2) → ∃ b13, m_gp S9 a0 9 = some b13 ∧ (∃ b14, m_gp S9 a0 7 = some b14 ∧ (M_X4_remember l G b13 b14 S9 (fun S15 => ∃ b16, m_gp S15 a0 7 = some b16 ∧ (∃ b17, m_gp S15 b16 2 = some b17 ∧ (vp_in x1 (m_ln S15 b17) ∧ (∀ S18 : mj_S, S18 = m_si S15 b17 (x1).toNatClampNeg x2 → M_X10_lowest l G r8 S18 (fun S19 r20 => Q S19 r20)))))))) ∧ (((m_gi S9 b12 (x1).toNatClampNeg) = x2) → V_X10_go_57 l G a0 S9 Q))))))))))) ∧ ((r4 = 0) → V_X10_go_16 l G a0 S3 Q))))) : V_X10_go_0 l G a0 x1 x2 S Q := by
  refine mj_aload_n dX10_go_0 rfl rfl ?_
  refine mj_iload_n dX10_go_1 rfl rfl ?_
  refine mj_callVi (as := [.int x1]) (st := []) dX10_go_2 cal_X10_isPerson lk_X10_201 im_X10_isPerson se_X10_isPerson (ci := 9) rfl (by decide) hk_a0 h rfl (Nat.le_of_ble_eq_true rfl) (by decide) ⟨Nat.le_of_ble_eq_true rfl, Nat.le_of_ble_eq_true rfl⟩ (fun S1 r2 h hn_r2 hp => ?_)
  have hk_a0 : m_kd S1 a0 = 9 := m_kd_pre hp hk_a0 (by decide)
  refine mj_if_eq (tgt := 16) dX10_go_5 (by decide) ⟨fun hc => ?_, fun hc => ?_⟩
  · replace h := h.1 hc
    exact mj_lessm [true, false, false, false] rfl h
  · replace h := h.2 hc
    refine mj_aload_n dX10_go_8 rfl rfl ?_
    refine mj_iload_n dX10_go_9 rfl rfl ?_
    refine mj_callVi (as := [.int x2]) (st := []) dX10_go_10 cal_X10_isSquare lk_X10_258 im_X10_isSquare se_X10_isSquare (ci := 9) rfl (by decide) hk_a0 h rfl (Nat.le_of_ble_eq_true rfl) (by decide) ⟨Nat.le_of_ble_eq_true rfl, Nat.le_of_ble_eq_true rfl⟩ (fun S3 r4 h hn_r4 hp => ?_)
    have hk_a0 : m_kd S3 a0 = 9 := m_kd_pre hp hk_a0 (by decide)
    refine mj_if_ne (tgt := 22) dX10_go_13 (by decide) ⟨fun hc => ?_, fun hc => ?_⟩
    · replace h := h.1 hc
      refine mj_aload_n dX10_go_22 rfl rfl ?_
      refine mj_aload_n dX10_go_23 rfl rfl ?_
      obtain ⟨b5, eb5, h⟩ := h
      refine mj_getP dX10_go_24 fl_X10_51_9 hk_a0 rfl ⟨b5, eb5, fun hk_b5 => ?_⟩
      obtain ⟨b6, eb6, h⟩ := h
      refine mj_getP dX10_go_27 fl_X10_211_7 hk_b5 rfl ⟨b6, eb6, fun hk_b6 => ?_⟩
      refine mj_iload_n dX10_go_30 rfl rfl ?_
      refine mj_iald dX10_go_31 (Or.inl hk_b6) ⟨h.1, ?_⟩
      replace h := h.2
      refine mj_callVi (as := [.int (m_gi S3 b6 (x1).toNatClampNeg)]) (st := []) dX10_go_32 cal_X10_stateAround lk_X10_217 im_X10_stateAround se_X10_stateAround (ci := 9) rfl (by decide) hk_a0 h rfl (Nat.le_of_ble_eq_true rfl) (by decide) ⟨Nat.le_of_ble_eq_true rfl, Nat.le_of_ble_eq_true rfl⟩ (fun S7 r8 h hn_r8 hp => ?_)
      have hk_a0 : m_kd S7 a0 = 9 := m_kd_pre hp hk_a0 (by decide)
      have hk_b5 : m_kd S7 b5 = 7 := m_kd_pre hp hk_b5 (by decide)
      have hk_b6 : m_kd S7 b6 = 100 := m_kd_pre hp hk_b6 (by decide)
      refine mj_istore_n dX10_go_35 rfl (by decide) rfl rfl ?_
      refine mj_iload_n dX10_go_36 rfl rfl ?_
      refine mj_iload_n dX10_go_37 rfl rfl ?_
      refine mj_callSi (as := [.int r8, .int x2]) (st := []) dX10_go_38 cal_X10_has lk_X10_190 sm_X10_has h rfl (Nat.le_of_ble_eq_true rfl) (by decide) ⟨Nat.le_of_ble_eq_true rfl, Nat.le_of_ble_eq_true rfl⟩ (fun S9 r10 h hn_r10 hp => ?_)
      have hk_a0 : m_kd S9 a0 = 9 := m_kd_pre hp hk_a0 (by decide)
      have hk_b5 : m_kd S9 b5 = 7 := m_kd_pre hp hk_b5 (by decide)
      have hk_b6 : m_kd S9 b6 = 100 := m_kd_pre hp hk_b6 (by decide)
      refine mj_if_eq (tgt := 57) dX10_go_41 (by decide) ⟨fun hc => ?_, fun hc => ?_⟩
      · replace h := h.1 hc
        exact mj_lessm [true, false, false, false] rfl h
      · replace h := h.2 hc
        refine mj_aload_n dX10_go_44 rfl rfl ?_
        obtain ⟨b11, eb11, h⟩ := h
        refine mj_getP dX10_go_45 fl_X10_51_9 hk_a0 rfl ⟨b11, eb11, fun hk_b11 => ?_⟩
        obtain ⟨b12, eb12, h⟩ := h
        refine mj_getP dX10_go_48 fl_X10_211_7 hk_b11 rfl ⟨b12, eb12, fun hk_b12 => ?_⟩
        refine mj_iload_n dX10_go_51 rfl rfl ?_
        refine mj_iald dX10_go_52 (Or.inl hk_b12) ⟨h.1, ?_⟩
        replace h := h.2
        refine mj_iload_n dX10_go_53 rfl rfl ?_
        refine mj_icmp_ne (tgt := 63) dX10_go_54 (by decide) ⟨fun hc => ?_, fun hc => ?_⟩
        · replace h := h.1 hc
          refine mj_aload_n dX10_go_63 rfl rfl ?_
          obtain ⟨b13, eb13, h⟩ := h
          refine mj_getP dX10_go_64 fl_X10_61_9 hk_a0 rfl ⟨b13, eb13, fun hk_b13 => ?_⟩
          refine mj_aload_n dX10_go_67 rfl rfl ?_
          obtain ⟨b14, eb14, h⟩ := h
          refine mj_getP dX10_go_68 fl_X10_51_9 hk_a0 rfl ⟨b14, eb14, fun hk_b14 => ?_⟩
          refine mj_callVv (as := [.ref b14]) (st := []) dX10_go_71 cal_X4_remember lk_X10_277 im_X4_remember se_X4_remember (ci := 4) rfl (by decide) hk_b13 h rfl (Nat.le_of_ble_eq_true rfl) (by decide) ⟨Nat.le_of_ble_eq_true rfl, Nat.le_of_ble_eq_true rfl⟩ (fun S15 h hp => ?_)
          have hk_a0 : m_kd S15 a0 = 9 := m_kd_pre hp hk_a0 (by decide)
          have hk_b5 : m_kd S15 b5 = 7 := m_kd_pre hp hk_b5 (by decide)
          have hk_b6 : m_kd S15 b6 = 100 := m_kd_pre hp hk_b6 (by decide)
          have hk_b11 : m_kd S15 b11 = 7 := m_kd_pre hp hk_b11 (by decide)
          have hk_b12 : m_kd S15 b12 = 100 := m_kd_pre hp hk_b12 (by decide)
          have hk_b13 : m_kd S15 b13 = 4 := m_kd_pre hp hk_b13 (by decide)
          have hk_b14 : m_kd S15 b14 = 7 := m_kd_pre hp hk_b14 (by decide)
          refine mj_aload_n dX10_go_74 rfl rfl ?_
          obtain ⟨b16, eb16, h⟩ := h
          refine mj_getP dX10_go_75 fl_X10_51_9 hk_a0 rfl ⟨b16, eb16, fun hk_b16 => ?_⟩
          obtain ⟨b17, eb17, h⟩ := h
          refine mj_getP dX10_go_78 fl_X10_211_7 hk_b16 rfl ⟨b17, eb17, fun hk_b17 => ?_⟩
          refine mj_iload_n dX10_go_81 rfl rfl ?_
          refine mj_iload_n dX10_go_82 rfl rfl ?_
          refine mj_iast dX10_go_83 hk_b17 ⟨h.1, ?_⟩
          replace h := h.2
          obtain ⟨S18, eS18⟩ : ∃ z, z = m_si S15 b17 (x1).toNatClampNeg x2 := ⟨_, rfl⟩
          rw [← eS18]
          replace h := h S18 eS18
          have hk_a0 : m_kd S18 a0 = 9 := by rw [eS18]; exact hk_a0
          have hk_b5 : m_kd S18 b5 = 7 := by rw [eS18]; exact hk_b5
          have hk_b6 : m_kd S18 b6 = 100 := by rw [eS18]; exact hk_b6
          have hk_b11 : m_kd S18 b11 = 7 := by rw [eS18]; exact hk_b11
          have hk_b12 : m_kd S18 b12 = 100 := by rw [eS18]; exact hk_b12
          have hk_b13 : m_kd S18 b13 = 4 := by rw [eS18]; exact hk_b13
          have hk_b14 : m_kd S18 b14 = 7 := by rw [eS18]; exact hk_b14
          have hk_b16 : m_kd S18 b16 = 7 := by rw [eS18]; exact hk_b16
          have hk_b17 : m_kd S18 b17 = 100 := by rw [eS18]; exact hk_b17
          refine mj_iload_n dX10_go_84 rfl rfl ?_
          refine mj_callSi (as := [.int r8]) (st := []) dX10_go_85 cal_X10_lowest lk_X10_220 sm_X10_lowest h rfl (Nat.le_of_ble_eq_true rfl) (by decide) ⟨Nat.le_of_ble_eq_true rfl, Nat.le_of_ble_eq_true rfl⟩ (fun S19 r20 h hn_r20 hp => ?_)
          have hk_a0 : m_kd S19 a0 = 9 := m_kd_pre hp hk_a0 (by decide)
          have hk_b5 : m_kd S19 b5 = 7 := m_kd_pre hp hk_b5 (by decide)
          have hk_b6 : m_kd S19 b6 = 100 := m_kd_pre hp hk_b6 (by decide)
          have hk_b11 : m_kd S19 b11 = 7 := m_kd_pre hp hk_b11 (by decide)
          have hk_b12 : m_kd S19 b12 = 100 := m_kd_pre hp hk_b12 (by decide)
          have hk_b13 : m_kd S19 b13 = 4 := m_kd_pre hp hk_b13 (by decide)
          have hk_b14 : m_kd S19 b14 = 7 := m_kd_pre hp hk_b14 (by decide)
          have hk_b16 : m_kd S19 b16 = 7 := m_kd_pre hp hk_b16 (by decide)
          have hk_b17 : m_kd S19 b17 = 100 := m_kd_pre hp hk_b17 (by decide)
          exact mj_reti dX10_go_88 rfl ⟨Nat.le_of_ble_eq_true rfl, Nat.le_of_ble_eq_true rfl⟩ h
        · replace h := h.2 hc
          exact mj_lessm [true, false, false, false] rfl h
    · replace h := h.2 hc
      exact mj_lessm [true, false, false, false] rfl h
set_option maxRecDepth 20000 in
set_option maxHeartbeats 1000000 in
theorem b_X10_go_16 {l : Launch} {G : mj_G} {a0 : Nat} {S : mj_S} {Q : mj_S → Int32 → Prop} (hk_a0 : m_kd S a0 = 9) (h : M_X10_refuse l G a0 (0 : Int32) S (fun S1 r2 => Q S1 r2)) : V_X10_go_16 l G a0 S Q := by
  refine mj_aload_n dX10_go_16 rfl rfl ?_
  refine mj_iconst (v := 0) dX10_go_17 (by decide) ?_
  refine mj_callVi (as := [.int (0 : Int32)]) (st := []) dX10_go_18 cal_X10_refuse lk_X10_271 im_X10_refuse se_X10_refuse (ci := 9) rfl (by decide) hk_a0 h rfl (Nat.le_of_ble_eq_true rfl) (by decide) ⟨Nat.le_of_ble_eq_true rfl, Nat.le_of_ble_eq_true rfl⟩ (fun S1 r2 h hn_r2 hp => ?_)
  have hk_a0 : m_kd S1 a0 = 9 := m_kd_pre hp hk_a0 (by decide)
  exact mj_reti dX10_go_21 rfl ⟨Nat.le_of_ble_eq_true rfl, Nat.le_of_ble_eq_true rfl⟩ h
set_option maxRecDepth 20000 in
set_option maxHeartbeats 1000000 in
theorem b_X10_go_57 {l : Launch} {G : mj_G} {a0 : Nat} {S : mj_S} {Q : mj_S → Int32 → Prop} (hk_a0 : m_kd S a0 = 9) (h : M_X10_refuse l G a0 (2 : Int32) S (fun S1 r2 => Q S1 r2)) : V_X10_go_57 l G a0 S Q := by
  refine mj_aload_n dX10_go_57 rfl rfl ?_
  refine mj_iconst (v := 2) dX10_go_58 (by decide) ?_
  refine mj_callVi (as := [.int (2 : Int32)]) (st := []) dX10_go_59 cal_X10_refuse lk_X10_271 im_X10_refuse se_X10_refuse (ci := 9) rfl (by decide) hk_a0 h rfl (Nat.le_of_ble_eq_true rfl) (by decide) ⟨Nat.le_of_ble_eq_true rfl, Nat.le_of_ble_eq_true rfl⟩ (fun S1 r2 h hn_r2 hp => ?_)
  have hk_a0 : m_kd S1 a0 = 9 := m_kd_pre hp hk_a0 (by decide)
  exact mj_reti dX10_go_62 rfl ⟨Nat.le_of_ble_eq_true rfl, Nat.le_of_ble_eq_true rfl⟩ h
abbrev V_X10_creep_0 (l : Launch) (G : mj_G) (a0 : Nat) (x1 : Int32) (x2 : Int32) (S : mj_S) (Q : mj_S → Int32 → Prop) : Prop := mj_V l G (mj_room 4 0 0) RX10 cX10_creep 5 (some .int) false 0 [some (.ref a0), some (.int x1), some (.int x2), none, none] [] S 0 0 (mj_std G (some .int) (mj_room 4 0 0) (mj_qi Q))
abbrev V_X10_creep_16 (l : Launch) (G : mj_G) (a0 : Nat) (S : mj_S) (Q : mj_S → Int32 → Prop) : Prop := mj_V l G (mj_room 4 0 0) RX10 cX10_creep 5 (some .int) false 16 [some (.ref a0), none, none, none, none] [] S 0 0 (mj_std G (some .int) (mj_room 4 0 0) (mj_qi Q))
abbrev V_X10_creep_77 (l : Launch) (G : mj_G) (a0 : Nat) (S : mj_S) (Q : mj_S → Int32 → Prop) : Prop := mj_V l G (mj_room 4 0 0) RX10 cX10_creep 5 (some .int) false 77 [some (.ref a0), none, none, none, none] [] S 0 0 (mj_std G (some .int) (mj_room 4 0 0) (mj_qi Q))
theorem e_X10_creep {l : Launch} {G : mj_G} {a0 : Nat} {x1 : Int32} {x2 : Int32} {S : mj_S} {Q : mj_S → Int32 → Prop} (h : V_X10_creep_0 l G a0 x1 x2 S Q) : M_X10_creep l G a0 x1 x2 S Q := mj_enter (r := 2) (ini := false) (by decide +kernel) (fun h => by cases h) (fun _ => Nat.le_of_ble_eq_true rfl) rfl h
set_option maxRecDepth 20000 in
set_option maxHeartbeats 1000000 in
theorem b_X10_creep_0 {l : Launch} {G : mj_G} {a0 : Nat} {x1 : Int32} {x2 : Int32} {S : mj_S} {Q : mj_S → Int32 → Prop} (hk_a0 : m_kd S a0 = 9) (h : M_X10_isPerson l G a0 x1 S (fun S1 r2 => ((r2 = 0) → V_X10_creep_16 l G a0 S1 Q) ∧ ((¬ (r2 = 0)) → M_X10_isCurtain l G a0 x2 S1 (fun S3 r4 => ((¬ r4 = 0) → ∃ b5, m_gp S3 a0 7 = some b5 ∧ (∃ b6, m_gp S3 b5 2 = some b6 ∧ (vp_in x1 (m_ln S3 b6) ∧ (∀ v7 : Int32, v7 = (m_gi S3 b6 (x1).toNatClampNeg) → ∃ b8, m_gp S3 a0 7 = some b8 ∧ (M_X8_hung l G b8 S3 (fun S9 r10 => M_X10_besides l G a0 v7 S9 (fun S11 r12 => M_X10_has l G (r10 &&& r12) x2 S11 (fun S13 r14 => ((r14 = 0) → V_X10_creep_77 l G a0 S13 Q) ∧ ((¬ (r14 = 0)) → ∃ b15, m_gp S13 a0 5 = some b15 ∧ (∃ b16, m_gp S13 b15 12 = some b16 ∧ (vp_in x2 (m_ln S13 b16) ∧ (∃ b17, m_gp S13 a0 5 = some b17 ∧ (∃ b18, m_gp S13 b17 16 = some b18 ∧ (vp_in x1 (m_ln S13 b18) ∧ ((((m_gi S13 b18 (x1).toNatClampNeg) ≤ (m_gi S13 b16 (x2).toNatClampNeg)) → ∃ b19, m_gp S13 a0 9 = some b19 ∧ (∃ b20, m_gp S13 a0 7 = some b20 ∧ (M_X4_remember l G b19 b20 S13 (fun S21 => ∃ b22, m_gp S21 a0 7 = some b22 ∧ (∃ b23, m_gp S21 b22 2 = some b23 ∧ (∃ b24, m_gp S21 a0 5 = some b24 ∧ (∃ b25, m_gp S21 b24 8 = some b25 ∧ (vp_in x2 (m_ln S21 b25) ∧ (((¬ (m_gi S21 b25 (x2).toNatClampNeg) = v7) → ∃ b26, m_gp S21 a0 5 = some b26 ∧ (∃ b27, m_gp S21 b26 8 = some b27 ∧ (vp_in x2 (m_ln S21 b27) ∧ (vp_in x1 (m_ln S21 b23) ∧ (∀ S28 : mj_S, S28 = m_si S21 b23 (x1).toNatClampNeg (m_gi S21 b27 (x2).toNatClampNeg) → ∃ b29, m_gp S28 a0 7 = some b29 ∧ (∃ b30, m_gp S28 b29 2 = some b30 ∧ (vp_in x1 (m_ln S28 b30) ∧ (Q S28 (m_gi S28 b30 (x1).toNatClampNeg))))))))) ∧ (((m_gi S21 b25 (x2).toNatClampNeg) = v7) → ∃ b31, m_gp S21 a0 5 = some b31 ∧ (∃ b32, m_gp S21 b31 9 = some b32 ∧ (vp_in x2 (m_ln S21 b32) ∧ (vp_in x1 (m_ln S21 b23) ∧ (∀ S33 : mj_S, S33 = m_si S21 b23 (x1).toNatClampNeg (m_gi S21 b32 (x2).toNatClampNeg) → ∃ b34, m_gp S33 a0 7 = some b34 ∧ (∃ b35, m_gp S33 b34 2 = some b35 ∧ (vp_in x1 (m_ln S33 b35) ∧ (Q S33 (m_gi S33 b35 (x1).toNatClampNeg)))))))))))))))))) ∧ ((¬ ((m_gi S13 b18 (x1).toNatClampNeg) ≤ (m_gi S13 b16 (x2).toNatClampNeg))) → V_X10_creep_77 l G a0 S13 Q)))))))))))))))) ∧ ((r4 = 0) → V_X10_creep_16 l G a0 S3 Q))))) : V_X10_creep_0 l G a0 x1 x2 S Q := by
  refine mj_aload_n dX10_creep_0 rfl rfl ?_
  refine mj_iload_n dX10_creep_1 rfl rfl ?_
  refine mj_callVi (as := [.int x1]) (st := []) dX10_creep_2 cal_X10_isPerson lk_X10_201 im_X10_isPerson se_X10_isPerson (ci := 9) rfl (by decide) hk_a0 h rfl (Nat.le_of_ble_eq_true rfl) (by decide) ⟨Nat.le_of_ble_eq_true rfl, Nat.le_of_ble_eq_true rfl⟩ (fun S1 r2 h hn_r2 hp => ?_)
  have hk_a0 : m_kd S1 a0 = 9 := m_kd_pre hp hk_a0 (by decide)
  refine mj_if_eq (tgt := 16) dX10_creep_5 (by decide) ⟨fun hc => ?_, fun hc => ?_⟩
  · replace h := h.1 hc
    exact mj_lessm [true, false, false, false, false] rfl h
  · replace h := h.2 hc
    refine mj_aload_n dX10_creep_8 rfl rfl ?_
    refine mj_iload_n dX10_creep_9 rfl rfl ?_
    refine mj_callVi (as := [.int x2]) (st := []) dX10_creep_10 cal_X10_isCurtain lk_X10_168 im_X10_isCurtain se_X10_isCurtain (ci := 9) rfl (by decide) hk_a0 h rfl (Nat.le_of_ble_eq_true rfl) (by decide) ⟨Nat.le_of_ble_eq_true rfl, Nat.le_of_ble_eq_true rfl⟩ (fun S3 r4 h hn_r4 hp => ?_)
    have hk_a0 : m_kd S3 a0 = 9 := m_kd_pre hp hk_a0 (by decide)
    refine mj_if_ne (tgt := 22) dX10_creep_13 (by decide) ⟨fun hc => ?_, fun hc => ?_⟩
    · replace h := h.1 hc
      refine mj_aload_n dX10_creep_22 rfl rfl ?_
      obtain ⟨b5, eb5, h⟩ := h
      refine mj_getP dX10_creep_23 fl_X10_51_9 hk_a0 rfl ⟨b5, eb5, fun hk_b5 => ?_⟩
      obtain ⟨b6, eb6, h⟩ := h
      refine mj_getP dX10_creep_26 fl_X10_211_7 hk_b5 rfl ⟨b6, eb6, fun hk_b6 => ?_⟩
      refine mj_iload_n dX10_creep_29 rfl rfl ?_
      refine mj_iald dX10_creep_30 (Or.inl hk_b6) ⟨h.1, ?_⟩
      replace h := h.2
      refine mj_nmi (fun v7 ev7 => ?_)
      replace h := h v7 ev7
      refine mj_istore_n dX10_creep_31 rfl (by decide) rfl rfl ?_
      refine mj_aload_n dX10_creep_32 rfl rfl ?_
      obtain ⟨b8, eb8, h⟩ := h
      refine mj_getP dX10_creep_33 fl_X10_51_9 hk_a0 rfl ⟨b8, eb8, fun hk_b8 => ?_⟩
      refine mj_callVi (as := []) (st := []) dX10_creep_36 cal_X8_hung lk_X10_194 im_X8_hung se_X8_hung (ci := 7) rfl (by decide) hk_b8 h rfl (Nat.le_of_ble_eq_true rfl) (by decide) ⟨Nat.le_of_ble_eq_true rfl, Nat.le_of_ble_eq_true rfl⟩ (fun S9 r10 h hn_r10 hp => ?_)
      have hk_a0 : m_kd S9 a0 = 9 := m_kd_pre hp hk_a0 (by decide)
      have hk_b5 : m_kd S9 b5 = 7 := m_kd_pre hp hk_b5 (by decide)
      have hk_b6 : m_kd S9 b6 = 100 := m_kd_pre hp hk_b6 (by decide)
      have hk_b8 : m_kd S9 b8 = 7 := m_kd_pre hp hk_b8 (by decide)
      refine mj_aload_n dX10_creep_39 rfl rfl ?_
      refine mj_iload_n dX10_creep_40 rfl rfl ?_
      refine mj_callVi (as := [.int v7]) (st := [.int r10]) dX10_creep_41 cal_X10_besides lk_X10_284 im_X10_besides se_X10_besides (ci := 9) rfl (by decide) hk_a0 h rfl (Nat.le_of_ble_eq_true rfl) (by decide) ⟨Nat.le_of_ble_eq_true rfl, Nat.le_of_ble_eq_true rfl⟩ (fun S11 r12 h hn_r12 hp => ?_)
      have hk_a0 : m_kd S11 a0 = 9 := m_kd_pre hp hk_a0 (by decide)
      have hk_b5 : m_kd S11 b5 = 7 := m_kd_pre hp hk_b5 (by decide)
      have hk_b6 : m_kd S11 b6 = 100 := m_kd_pre hp hk_b6 (by decide)
      have hk_b8 : m_kd S11 b8 = 7 := m_kd_pre hp hk_b8 (by decide)
      refine mj_iand dX10_creep_44 ?_
      refine mj_iload_n dX10_creep_45 rfl rfl ?_
      refine mj_callSi (as := [.int (r10 &&& r12), .int x2]) (st := []) dX10_creep_46 cal_X10_has lk_X10_190 sm_X10_has h rfl (Nat.le_of_ble_eq_true rfl) (by decide) ⟨Nat.le_of_ble_eq_true rfl, Nat.le_of_ble_eq_true rfl⟩ (fun S13 r14 h hn_r14 hp => ?_)
      have hk_a0 : m_kd S13 a0 = 9 := m_kd_pre hp hk_a0 (by decide)
      have hk_b5 : m_kd S13 b5 = 7 := m_kd_pre hp hk_b5 (by decide)
      have hk_b6 : m_kd S13 b6 = 100 := m_kd_pre hp hk_b6 (by decide)
      have hk_b8 : m_kd S13 b8 = 7 := m_kd_pre hp hk_b8 (by decide)
      refine mj_istore dX10_creep_49 (by decide) rfl rfl ?_
      refine mj_iload dX10_creep_51 rfl ?_
      refine mj_if_eq (tgt := 77) dX10_creep_53 (by decide) ⟨fun hc => ?_, fun hc => ?_⟩
      · replace h := h.1 hc
        exact mj_lessm [true, false, false, false, false] rfl h
      · replace h := h.2 hc
        refine mj_aload_n dX10_creep_56 rfl rfl ?_
        obtain ⟨b15, eb15, h⟩ := h
        refine mj_getP dX10_creep_57 fl_X10_41_9 hk_a0 rfl ⟨b15, eb15, fun hk_b15 => ?_⟩
        obtain ⟨b16, eb16, h⟩ := h
        refine mj_getP dX10_creep_60 fl_X10_184_5 hk_b15 rfl ⟨b16, eb16, fun hk_b16 => ?_⟩
        refine mj_iload_n dX10_creep_63 rfl rfl ?_
        refine mj_iald dX10_creep_64 (Or.inl hk_b16) ⟨h.1, ?_⟩
        replace h := h.2
        refine mj_aload_n dX10_creep_65 rfl rfl ?_
        obtain ⟨b17, eb17, h⟩ := h
        refine mj_getP dX10_creep_66 fl_X10_41_9 hk_a0 rfl ⟨b17, eb17, fun hk_b17 => ?_⟩
        obtain ⟨b18, eb18, h⟩ := h
        refine mj_getP dX10_creep_69 fl_X10_214_5 hk_b17 rfl ⟨b18, eb18, fun hk_b18 => ?_⟩
        refine mj_iload_n dX10_creep_72 rfl rfl ?_
        refine mj_iald dX10_creep_73 (Or.inl hk_b18) ⟨h.1, ?_⟩
        replace h := h.2
        refine mj_icmp_ge (tgt := 83) dX10_creep_74 (by decide) ⟨fun hc => ?_, fun hc => ?_⟩
        · replace h := h.1 hc
          refine mj_aload_n dX10_creep_83 rfl rfl ?_
          obtain ⟨b19, eb19, h⟩ := h
          refine mj_getP dX10_creep_84 fl_X10_61_9 hk_a0 rfl ⟨b19, eb19, fun hk_b19 => ?_⟩
          refine mj_aload_n dX10_creep_87 rfl rfl ?_
          obtain ⟨b20, eb20, h⟩ := h
          refine mj_getP dX10_creep_88 fl_X10_51_9 hk_a0 rfl ⟨b20, eb20, fun hk_b20 => ?_⟩
          refine mj_callVv (as := [.ref b20]) (st := []) dX10_creep_91 cal_X4_remember lk_X10_277 im_X4_remember se_X4_remember (ci := 4) rfl (by decide) hk_b19 h rfl (Nat.le_of_ble_eq_true rfl) (by decide) ⟨Nat.le_of_ble_eq_true rfl, Nat.le_of_ble_eq_true rfl⟩ (fun S21 h hp => ?_)
          have hk_a0 : m_kd S21 a0 = 9 := m_kd_pre hp hk_a0 (by decide)
          have hk_b5 : m_kd S21 b5 = 7 := m_kd_pre hp hk_b5 (by decide)
          have hk_b6 : m_kd S21 b6 = 100 := m_kd_pre hp hk_b6 (by decide)
          have hk_b8 : m_kd S21 b8 = 7 := m_kd_pre hp hk_b8 (by decide)
          have hk_b15 : m_kd S21 b15 = 5 := m_kd_pre hp hk_b15 (by decide)
          have hk_b16 : m_kd S21 b16 = 100 := m_kd_pre hp hk_b16 (by decide)
          have hk_b17 : m_kd S21 b17 = 5 := m_kd_pre hp hk_b17 (by decide)
          have hk_b18 : m_kd S21 b18 = 100 := m_kd_pre hp hk_b18 (by decide)
          have hk_b19 : m_kd S21 b19 = 4 := m_kd_pre hp hk_b19 (by decide)
          have hk_b20 : m_kd S21 b20 = 7 := m_kd_pre hp hk_b20 (by decide)
          refine mj_aload_n dX10_creep_94 rfl rfl ?_
          obtain ⟨b22, eb22, h⟩ := h
          refine mj_getP dX10_creep_95 fl_X10_51_9 hk_a0 rfl ⟨b22, eb22, fun hk_b22 => ?_⟩
          obtain ⟨b23, eb23, h⟩ := h
          refine mj_getP dX10_creep_98 fl_X10_211_7 hk_b22 rfl ⟨b23, eb23, fun hk_b23 => ?_⟩
          refine mj_iload_n dX10_creep_101 rfl rfl ?_
          refine mj_aload_n dX10_creep_102 rfl rfl ?_
          obtain ⟨b24, eb24, h⟩ := h
          refine mj_getP dX10_creep_103 fl_X10_41_9 hk_a0 rfl ⟨b24, eb24, fun hk_b24 => ?_⟩
          obtain ⟨b25, eb25, h⟩ := h
          refine mj_getP dX10_creep_106 fl_X10_172_5 hk_b24 rfl ⟨b25, eb25, fun hk_b25 => ?_⟩
          refine mj_iload_n dX10_creep_109 rfl rfl ?_
          refine mj_iald dX10_creep_110 (Or.inl hk_b25) ⟨h.1, ?_⟩
          replace h := h.2
          refine mj_iload_n dX10_creep_111 rfl rfl ?_
          refine mj_icmp_ne (tgt := 127) dX10_creep_112 (by decide) ⟨fun hc => ?_, fun hc => ?_⟩
          · replace h := h.1 hc
            refine mj_aload_n dX10_creep_127 rfl rfl ?_
            obtain ⟨b26, eb26, h⟩ := h
            refine mj_getP dX10_creep_128 fl_X10_41_9 hk_a0 rfl ⟨b26, eb26, fun hk_b26 => ?_⟩
            obtain ⟨b27, eb27, h⟩ := h
            refine mj_getP dX10_creep_131 fl_X10_172_5 hk_b26 rfl ⟨b27, eb27, fun hk_b27 => ?_⟩
            refine mj_iload_n dX10_creep_134 rfl rfl ?_
            refine mj_iald dX10_creep_135 (Or.inl hk_b27) ⟨h.1, ?_⟩
            replace h := h.2
            refine mj_iast dX10_creep_136 hk_b23 ⟨h.1, ?_⟩
            replace h := h.2
            obtain ⟨S28, eS28⟩ : ∃ z, z = m_si S21 b23 (x1).toNatClampNeg (m_gi S21 b27 (x2).toNatClampNeg) := ⟨_, rfl⟩
            rw [← eS28]
            replace h := h S28 eS28
            have hk_a0 : m_kd S28 a0 = 9 := by rw [eS28]; exact hk_a0
            have hk_b5 : m_kd S28 b5 = 7 := by rw [eS28]; exact hk_b5
            have hk_b6 : m_kd S28 b6 = 100 := by rw [eS28]; exact hk_b6
            have hk_b8 : m_kd S28 b8 = 7 := by rw [eS28]; exact hk_b8
            have hk_b15 : m_kd S28 b15 = 5 := by rw [eS28]; exact hk_b15
            have hk_b16 : m_kd S28 b16 = 100 := by rw [eS28]; exact hk_b16
            have hk_b17 : m_kd S28 b17 = 5 := by rw [eS28]; exact hk_b17
            have hk_b18 : m_kd S28 b18 = 100 := by rw [eS28]; exact hk_b18
            have hk_b19 : m_kd S28 b19 = 4 := by rw [eS28]; exact hk_b19
            have hk_b20 : m_kd S28 b20 = 7 := by rw [eS28]; exact hk_b20
            have hk_b22 : m_kd S28 b22 = 7 := by rw [eS28]; exact hk_b22
            have hk_b23 : m_kd S28 b23 = 100 := by rw [eS28]; exact hk_b23
            have hk_b24 : m_kd S28 b24 = 5 := by rw [eS28]; exact hk_b24
            have hk_b25 : m_kd S28 b25 = 100 := by rw [eS28]; exact hk_b25
            have hk_b26 : m_kd S28 b26 = 5 := by rw [eS28]; exact hk_b26
            have hk_b27 : m_kd S28 b27 = 100 := by rw [eS28]; exact hk_b27
            refine mj_aload_n dX10_creep_137 rfl rfl ?_
            obtain ⟨b29, eb29, h⟩ := h
            refine mj_getP dX10_creep_138 fl_X10_51_9 hk_a0 rfl ⟨b29, eb29, fun hk_b29 => ?_⟩
            obtain ⟨b30, eb30, h⟩ := h
            refine mj_getP dX10_creep_141 fl_X10_211_7 hk_b29 rfl ⟨b30, eb30, fun hk_b30 => ?_⟩
            refine mj_iload_n dX10_creep_144 rfl rfl ?_
            refine mj_iald dX10_creep_145 (Or.inl hk_b30) ⟨h.1, ?_⟩
            replace h := h.2
            exact mj_reti dX10_creep_146 rfl ⟨Nat.le_of_ble_eq_true rfl, Nat.le_of_ble_eq_true rfl⟩ h
          · replace h := h.2 hc
            refine mj_aload_n dX10_creep_115 rfl rfl ?_
            obtain ⟨b31, eb31, h⟩ := h
            refine mj_getP dX10_creep_116 fl_X10_41_9 hk_a0 rfl ⟨b31, eb31, fun hk_b31 => ?_⟩
            obtain ⟨b32, eb32, h⟩ := h
            refine mj_getP dX10_creep_119 fl_X10_175_5 hk_b31 rfl ⟨b32, eb32, fun hk_b32 => ?_⟩
            refine mj_iload_n dX10_creep_122 rfl rfl ?_
            refine mj_iald dX10_creep_123 (Or.inl hk_b32) ⟨h.1, ?_⟩
            replace h := h.2
            refine mj_goto (tgt := 136) dX10_creep_124 (by decide) ?_
            refine mj_iast dX10_creep_136 hk_b23 ⟨h.1, ?_⟩
            replace h := h.2
            obtain ⟨S33, eS33⟩ : ∃ z, z = m_si S21 b23 (x1).toNatClampNeg (m_gi S21 b32 (x2).toNatClampNeg) := ⟨_, rfl⟩
            rw [← eS33]
            replace h := h S33 eS33
            have hk_a0 : m_kd S33 a0 = 9 := by rw [eS33]; exact hk_a0
            have hk_b5 : m_kd S33 b5 = 7 := by rw [eS33]; exact hk_b5
            have hk_b6 : m_kd S33 b6 = 100 := by rw [eS33]; exact hk_b6
            have hk_b8 : m_kd S33 b8 = 7 := by rw [eS33]; exact hk_b8
            have hk_b15 : m_kd S33 b15 = 5 := by rw [eS33]; exact hk_b15
            have hk_b16 : m_kd S33 b16 = 100 := by rw [eS33]; exact hk_b16
            have hk_b17 : m_kd S33 b17 = 5 := by rw [eS33]; exact hk_b17
            have hk_b18 : m_kd S33 b18 = 100 := by rw [eS33]; exact hk_b18
            have hk_b19 : m_kd S33 b19 = 4 := by rw [eS33]; exact hk_b19
            have hk_b20 : m_kd S33 b20 = 7 := by rw [eS33]; exact hk_b20
            have hk_b22 : m_kd S33 b22 = 7 := by rw [eS33]; exact hk_b22
            have hk_b23 : m_kd S33 b23 = 100 := by rw [eS33]; exact hk_b23
            have hk_b24 : m_kd S33 b24 = 5 := by rw [eS33]; exact hk_b24
            have hk_b25 : m_kd S33 b25 = 100 := by rw [eS33]; exact hk_b25
            have hk_b31 : m_kd S33 b31 = 5 := by rw [eS33]; exact hk_b31
            have hk_b32 : m_kd S33 b32 = 100 := by rw [eS33]; exact hk_b32
            refine mj_aload_n dX10_creep_137 rfl rfl ?_
            obtain ⟨b34, eb34, h⟩ := h
            refine mj_getP dX10_creep_138 fl_X10_51_9 hk_a0 rfl ⟨b34, eb34, fun hk_b34 => ?_⟩
            obtain ⟨b35, eb35, h⟩ := h
            refine mj_getP dX10_creep_141 fl_X10_211_7 hk_b34 rfl ⟨b35, eb35, fun hk_b35 => ?_⟩
            refine mj_iload_n dX10_creep_144 rfl rfl ?_
            refine mj_iald dX10_creep_145 (Or.inl hk_b35) ⟨h.1, ?_⟩
            replace h := h.2
            exact mj_reti dX10_creep_146 rfl ⟨Nat.le_of_ble_eq_true rfl, Nat.le_of_ble_eq_true rfl⟩ h
        · replace h := h.2 hc
          exact mj_lessm [true, false, false, false, false] rfl h
    · replace h := h.2 hc
      exact mj_lessm [true, false, false, false, false] rfl h
set_option maxRecDepth 20000 in
set_option maxHeartbeats 1000000 in
theorem b_X10_creep_16 {l : Launch} {G : mj_G} {a0 : Nat} {S : mj_S} {Q : mj_S → Int32 → Prop} (hk_a0 : m_kd S a0 = 9) (h : M_X10_refuse l G a0 (0 : Int32) S (fun S1 r2 => Q S1 r2)) : V_X10_creep_16 l G a0 S Q := by
  refine mj_aload_n dX10_creep_16 rfl rfl ?_
  refine mj_iconst (v := 0) dX10_creep_17 (by decide) ?_
  refine mj_callVi (as := [.int (0 : Int32)]) (st := []) dX10_creep_18 cal_X10_refuse lk_X10_271 im_X10_refuse se_X10_refuse (ci := 9) rfl (by decide) hk_a0 h rfl (Nat.le_of_ble_eq_true rfl) (by decide) ⟨Nat.le_of_ble_eq_true rfl, Nat.le_of_ble_eq_true rfl⟩ (fun S1 r2 h hn_r2 hp => ?_)
  have hk_a0 : m_kd S1 a0 = 9 := m_kd_pre hp hk_a0 (by decide)
  exact mj_reti dX10_creep_21 rfl ⟨Nat.le_of_ble_eq_true rfl, Nat.le_of_ble_eq_true rfl⟩ h
set_option maxRecDepth 20000 in
set_option maxHeartbeats 1000000 in
theorem b_X10_creep_77 {l : Launch} {G : mj_G} {a0 : Nat} {S : mj_S} {Q : mj_S → Int32 → Prop} (hk_a0 : m_kd S a0 = 9) (h : M_X10_refuse l G a0 (2 : Int32) S (fun S1 r2 => Q S1 r2)) : V_X10_creep_77 l G a0 S Q := by
  refine mj_aload_n dX10_creep_77 rfl rfl ?_
  refine mj_iconst (v := 2) dX10_creep_78 (by decide) ?_
  refine mj_callVi (as := [.int (2 : Int32)]) (st := []) dX10_creep_79 cal_X10_refuse lk_X10_271 im_X10_refuse se_X10_refuse (ci := 9) rfl (by decide) hk_a0 h rfl (Nat.le_of_ble_eq_true rfl) (by decide) ⟨Nat.le_of_ble_eq_true rfl, Nat.le_of_ble_eq_true rfl⟩ (fun S1 r2 h hn_r2 hp => ?_)
  have hk_a0 : m_kd S1 a0 = 9 := m_kd_pre hp hk_a0 (by decide)
  exact mj_reti dX10_creep_82 rfl ⟨Nat.le_of_ble_eq_true rfl, Nat.le_of_ble_eq_true rfl⟩ h
abbrev V_X10_mend_0 (l : Launch) (G : mj_G) (a0 : Nat) (x1 : Int32) (x2 : Int32) (S : mj_S) (Q : mj_S → Int32 → Prop) : Prop := mj_V l G (mj_room 4 0 0) RX10 cX10_mend 3 (some .int) false 0 [some (.ref a0), some (.int x1), some (.int x2)] [] S 0 0 (mj_std G (some .int) (mj_room 4 0 0) (mj_qi Q))
abbrev V_X10_mend_40 (l : Launch) (G : mj_G) (a0 : Nat) (S : mj_S) (Q : mj_S → Int32 → Prop) : Prop := mj_V l G (mj_room 4 0 0) RX10 cX10_mend 3 (some .int) false 40 [some (.ref a0), none, none] [] S 0 0 (mj_std G (some .int) (mj_room 4 0 0) (mj_qi Q))
theorem e_X10_mend {l : Launch} {G : mj_G} {a0 : Nat} {x1 : Int32} {x2 : Int32} {S : mj_S} {Q : mj_S → Int32 → Prop} (h : V_X10_mend_0 l G a0 x1 x2 S Q) : M_X10_mend l G a0 x1 x2 S Q := mj_enter (r := 0) (ini := false) (by decide +kernel) (fun h => by cases h) (fun _ => Nat.le_of_ble_eq_true rfl) rfl h
set_option maxRecDepth 20000 in
set_option maxHeartbeats 1000000 in
theorem b_X10_mend_0 {l : Launch} {G : mj_G} {a0 : Nat} {x1 : Int32} {x2 : Int32} {S : mj_S} {Q : mj_S → Int32 → Prop} (hk_a0 : m_kd S a0 = 9) (h : M_X10_isCurtain l G a0 x1 S (fun S1 r2 => ((¬ r2 = 0) → M_X10_within l G x2 (1 : Int32) (9 : Int32) S1 (fun S3 r4 => ((r4 = 0) → V_X10_mend_40 l G a0 S3 Q) ∧ ((¬ (r4 = 0)) → ∃ b5, m_gp S3 a0 7 = some b5 ∧ (∃ b6, m_gp S3 b5 1 = some b6 ∧ (vp_in x1 (m_ln S3 b6) ∧ (((((m_gi S3 b6 (x1).toNatClampNeg) + x2) ≤ (99 : Int32)) → ∃ b7, m_gp S3 a0 7 = some b7 ∧ (∃ b8, m_gp S3 b7 1 = some b8 ∧ (vp_in x1 (m_ln S3 b8) ∧ (((¬ (m_gi S3 b8 (x1).toNatClampNeg) = 0) → ∃ b9, m_gp S3 a0 9 = some b9 ∧ (∃ b10, m_gp S3 a0 7 = some b10 ∧ (M_X4_remember l G b9 b10 S3 (fun S11 => ∃ b12, m_gp S11 a0 7 = some b12 ∧ (∃ b13, m_gp S11 b12 1 = some b13 ∧ (vp_in x1 (m_ln S11 b13) ∧ (vp_in x1 (m_ln S11 b13) ∧ (∀ S14 : mj_S, S14 = m_si S11 b13 (x1).toNatClampNeg ((m_gi S11 b13 (x1).toNatClampNeg) + x2) → ∃ b15, m_gp S14 a0 7 = some b15 ∧ (∃ b16, m_gp S14 b15 1 = some b16 ∧ (vp_in x1 (m_ln S14 b16) ∧ (Q S14 (m_gi S14 b16 (x1).toNatClampNeg)))))))))))) ∧ (((m_gi S3 b8 (x1).toNatClampNeg) = 0) → M_X10_refuse l G a0 (3 : Int32) S3 (fun S17 r18 => Q S17 r18)))))) ∧ ((¬ (((m_gi S3 b6 (x1).toNatClampNeg) + x2) ≤ (99 : Int32))) → V_X10_mend_40 l G a0 S3 Q))))))) ∧ ((r2 = 0) → M_X10_refuse l G a0 (0 : Int32) S1 (fun S19 r20 => Q S19 r20)))) : V_X10_mend_0 l G a0 x1 x2 S Q := by
  refine mj_aload_n dX10_mend_0 rfl rfl ?_
  refine mj_iload_n dX10_mend_1 rfl rfl ?_
  refine mj_callVi (as := [.int x1]) (st := []) dX10_mend_2 cal_X10_isCurtain lk_X10_168 im_X10_isCurtain se_X10_isCurtain (ci := 9) rfl (by decide) hk_a0 h rfl (Nat.le_of_ble_eq_true rfl) (by decide) ⟨Nat.le_of_ble_eq_true rfl, Nat.le_of_ble_eq_true rfl⟩ (fun S1 r2 h hn_r2 hp => ?_)
  have hk_a0 : m_kd S1 a0 = 9 := m_kd_pre hp hk_a0 (by decide)
  refine mj_if_ne (tgt := 14) dX10_mend_5 (by decide) ⟨fun hc => ?_, fun hc => ?_⟩
  · replace h := h.1 hc
    refine mj_iload_n dX10_mend_14 rfl rfl ?_
    refine mj_iconst (v := 1) dX10_mend_15 (by decide) ?_
    refine mj_bipush (v := 9) dX10_mend_16 (by decide) ?_
    refine mj_callSi (as := [.int x2, .int (1 : Int32), .int (9 : Int32)]) (st := []) dX10_mend_18 cal_X10_within lk_X10_204 sm_X10_within h rfl (Nat.le_of_ble_eq_true rfl) (by decide) ⟨Nat.le_of_ble_eq_true rfl, Nat.le_of_ble_eq_true rfl⟩ (fun S3 r4 h hn_r4 hp => ?_)
    have hk_a0 : m_kd S3 a0 = 9 := m_kd_pre hp hk_a0 (by decide)
    refine mj_if_eq (tgt := 40) dX10_mend_21 (by decide) ⟨fun hc => ?_, fun hc => ?_⟩
    · replace h := h.1 hc
      exact mj_lessm [true, false, false] rfl h
    · replace h := h.2 hc
      refine mj_aload_n dX10_mend_24 rfl rfl ?_
      obtain ⟨b5, eb5, h⟩ := h
      refine mj_getP dX10_mend_25 fl_X10_51_9 hk_a0 rfl ⟨b5, eb5, fun hk_b5 => ?_⟩
      obtain ⟨b6, eb6, h⟩ := h
      refine mj_getP dX10_mend_28 fl_X10_181_7 hk_b5 rfl ⟨b6, eb6, fun hk_b6 => ?_⟩
      refine mj_iload_n dX10_mend_31 rfl rfl ?_
      refine mj_iald dX10_mend_32 (Or.inl hk_b6) ⟨h.1, ?_⟩
      replace h := h.2
      refine mj_iload_n dX10_mend_33 rfl rfl ?_
      refine mj_iadd dX10_mend_34 ?_
      refine mj_bipush (v := 99) dX10_mend_35 (by decide) ?_
      refine mj_icmp_le (tgt := 46) dX10_mend_37 (by decide) ⟨fun hc => ?_, fun hc => ?_⟩
      · replace h := h.1 hc
        refine mj_aload_n dX10_mend_46 rfl rfl ?_
        obtain ⟨b7, eb7, h⟩ := h
        refine mj_getP dX10_mend_47 fl_X10_51_9 hk_a0 rfl ⟨b7, eb7, fun hk_b7 => ?_⟩
        obtain ⟨b8, eb8, h⟩ := h
        refine mj_getP dX10_mend_50 fl_X10_181_7 hk_b7 rfl ⟨b8, eb8, fun hk_b8 => ?_⟩
        refine mj_iload_n dX10_mend_53 rfl rfl ?_
        refine mj_iald dX10_mend_54 (Or.inl hk_b8) ⟨h.1, ?_⟩
        replace h := h.2
        refine mj_if_ne (tgt := 64) dX10_mend_55 (by decide) ⟨fun hc => ?_, fun hc => ?_⟩
        · replace h := h.1 hc
          refine mj_aload_n dX10_mend_64 rfl rfl ?_
          obtain ⟨b9, eb9, h⟩ := h
          refine mj_getP dX10_mend_65 fl_X10_61_9 hk_a0 rfl ⟨b9, eb9, fun hk_b9 => ?_⟩
          refine mj_aload_n dX10_mend_68 rfl rfl ?_
          obtain ⟨b10, eb10, h⟩ := h
          refine mj_getP dX10_mend_69 fl_X10_51_9 hk_a0 rfl ⟨b10, eb10, fun hk_b10 => ?_⟩
          refine mj_callVv (as := [.ref b10]) (st := []) dX10_mend_72 cal_X4_remember lk_X10_277 im_X4_remember se_X4_remember (ci := 4) rfl (by decide) hk_b9 h rfl (Nat.le_of_ble_eq_true rfl) (by decide) ⟨Nat.le_of_ble_eq_true rfl, Nat.le_of_ble_eq_true rfl⟩ (fun S11 h hp => ?_)
          have hk_a0 : m_kd S11 a0 = 9 := m_kd_pre hp hk_a0 (by decide)
          have hk_b5 : m_kd S11 b5 = 7 := m_kd_pre hp hk_b5 (by decide)
          have hk_b6 : m_kd S11 b6 = 100 := m_kd_pre hp hk_b6 (by decide)
          have hk_b7 : m_kd S11 b7 = 7 := m_kd_pre hp hk_b7 (by decide)
          have hk_b8 : m_kd S11 b8 = 100 := m_kd_pre hp hk_b8 (by decide)
          have hk_b9 : m_kd S11 b9 = 4 := m_kd_pre hp hk_b9 (by decide)
          have hk_b10 : m_kd S11 b10 = 7 := m_kd_pre hp hk_b10 (by decide)
          refine mj_aload_n dX10_mend_75 rfl rfl ?_
          obtain ⟨b12, eb12, h⟩ := h
          refine mj_getP dX10_mend_76 fl_X10_51_9 hk_a0 rfl ⟨b12, eb12, fun hk_b12 => ?_⟩
          obtain ⟨b13, eb13, h⟩ := h
          refine mj_getP dX10_mend_79 fl_X10_181_7 hk_b12 rfl ⟨b13, eb13, fun hk_b13 => ?_⟩
          refine mj_iload_n dX10_mend_82 rfl rfl ?_
          refine mj_dup2 dX10_mend_83 rfl rfl ?_
          refine mj_iald dX10_mend_84 (Or.inl hk_b13) ⟨h.1, ?_⟩
          replace h := h.2
          refine mj_iload_n dX10_mend_85 rfl rfl ?_
          refine mj_iadd dX10_mend_86 ?_
          refine mj_iast dX10_mend_87 hk_b13 ⟨h.1, ?_⟩
          replace h := h.2
          obtain ⟨S14, eS14⟩ : ∃ z, z = m_si S11 b13 (x1).toNatClampNeg ((m_gi S11 b13 (x1).toNatClampNeg) + x2) := ⟨_, rfl⟩
          rw [← eS14]
          replace h := h S14 eS14
          have hk_a0 : m_kd S14 a0 = 9 := by rw [eS14]; exact hk_a0
          have hk_b5 : m_kd S14 b5 = 7 := by rw [eS14]; exact hk_b5
          have hk_b6 : m_kd S14 b6 = 100 := by rw [eS14]; exact hk_b6
          have hk_b7 : m_kd S14 b7 = 7 := by rw [eS14]; exact hk_b7
          have hk_b8 : m_kd S14 b8 = 100 := by rw [eS14]; exact hk_b8
          have hk_b9 : m_kd S14 b9 = 4 := by rw [eS14]; exact hk_b9
          have hk_b10 : m_kd S14 b10 = 7 := by rw [eS14]; exact hk_b10
          have hk_b12 : m_kd S14 b12 = 7 := by rw [eS14]; exact hk_b12
          have hk_b13 : m_kd S14 b13 = 100 := by rw [eS14]; exact hk_b13
          refine mj_aload_n dX10_mend_88 rfl rfl ?_
          obtain ⟨b15, eb15, h⟩ := h
          refine mj_getP dX10_mend_89 fl_X10_51_9 hk_a0 rfl ⟨b15, eb15, fun hk_b15 => ?_⟩
          obtain ⟨b16, eb16, h⟩ := h
          refine mj_getP dX10_mend_92 fl_X10_181_7 hk_b15 rfl ⟨b16, eb16, fun hk_b16 => ?_⟩
          refine mj_iload_n dX10_mend_95 rfl rfl ?_
          refine mj_iald dX10_mend_96 (Or.inl hk_b16) ⟨h.1, ?_⟩
          replace h := h.2
          exact mj_reti dX10_mend_97 rfl ⟨Nat.le_of_ble_eq_true rfl, Nat.le_of_ble_eq_true rfl⟩ h
        · replace h := h.2 hc
          refine mj_aload_n dX10_mend_58 rfl rfl ?_
          refine mj_iconst (v := 3) dX10_mend_59 (by decide) ?_
          refine mj_callVi (as := [.int (3 : Int32)]) (st := []) dX10_mend_60 cal_X10_refuse lk_X10_271 im_X10_refuse se_X10_refuse (ci := 9) rfl (by decide) hk_a0 h rfl (Nat.le_of_ble_eq_true rfl) (by decide) ⟨Nat.le_of_ble_eq_true rfl, Nat.le_of_ble_eq_true rfl⟩ (fun S17 r18 h hn_r18 hp => ?_)
          have hk_a0 : m_kd S17 a0 = 9 := m_kd_pre hp hk_a0 (by decide)
          have hk_b5 : m_kd S17 b5 = 7 := m_kd_pre hp hk_b5 (by decide)
          have hk_b6 : m_kd S17 b6 = 100 := m_kd_pre hp hk_b6 (by decide)
          have hk_b7 : m_kd S17 b7 = 7 := m_kd_pre hp hk_b7 (by decide)
          have hk_b8 : m_kd S17 b8 = 100 := m_kd_pre hp hk_b8 (by decide)
          exact mj_reti dX10_mend_63 rfl ⟨Nat.le_of_ble_eq_true rfl, Nat.le_of_ble_eq_true rfl⟩ h
      · replace h := h.2 hc
        exact mj_lessm [true, false, false] rfl h
  · replace h := h.2 hc
    refine mj_aload_n dX10_mend_8 rfl rfl ?_
    refine mj_iconst (v := 0) dX10_mend_9 (by decide) ?_
    refine mj_callVi (as := [.int (0 : Int32)]) (st := []) dX10_mend_10 cal_X10_refuse lk_X10_271 im_X10_refuse se_X10_refuse (ci := 9) rfl (by decide) hk_a0 h rfl (Nat.le_of_ble_eq_true rfl) (by decide) ⟨Nat.le_of_ble_eq_true rfl, Nat.le_of_ble_eq_true rfl⟩ (fun S19 r20 h hn_r20 hp => ?_)
    have hk_a0 : m_kd S19 a0 = 9 := m_kd_pre hp hk_a0 (by decide)
    exact mj_reti dX10_mend_13 rfl ⟨Nat.le_of_ble_eq_true rfl, Nat.le_of_ble_eq_true rfl⟩ h
set_option maxRecDepth 20000 in
set_option maxHeartbeats 1000000 in
theorem b_X10_mend_40 {l : Launch} {G : mj_G} {a0 : Nat} {S : mj_S} {Q : mj_S → Int32 → Prop} (hk_a0 : m_kd S a0 = 9) (h : M_X10_refuse l G a0 (1 : Int32) S (fun S1 r2 => Q S1 r2)) : V_X10_mend_40 l G a0 S Q := by
  refine mj_aload_n dX10_mend_40 rfl rfl ?_
  refine mj_iconst (v := 1) dX10_mend_41 (by decide) ?_
  refine mj_callVi (as := [.int (1 : Int32)]) (st := []) dX10_mend_42 cal_X10_refuse lk_X10_271 im_X10_refuse se_X10_refuse (ci := 9) rfl (by decide) hk_a0 h rfl (Nat.le_of_ble_eq_true rfl) (by decide) ⟨Nat.le_of_ble_eq_true rfl, Nat.le_of_ble_eq_true rfl⟩ (fun S1 r2 h hn_r2 hp => ?_)
  have hk_a0 : m_kd S1 a0 = 9 := m_kd_pre hp hk_a0 (by decide)
  exact mj_reti dX10_mend_45 rfl ⟨Nat.le_of_ble_eq_true rfl, Nat.le_of_ble_eq_true rfl⟩ h
abbrev V_X10_years_0 (l : Launch) (G : mj_G) (a0 : Nat) (x1 : Int32) (S : mj_S) (Q : mj_S → Int32 → Prop) : Prop := mj_V l G (mj_room 8 0 0) RX10 cX10_years 3 (some .int) false 0 [some (.ref a0), some (.int x1), none] [] S 0 0 (mj_std G (some .int) (mj_room 8 0 0) (mj_qi Q))
abbrev V_X10_years_52 (l : Launch) (G : mj_G) (a0 : Nat) (x1 : Int32) (x2 : Int32) (S : mj_S) (Q : mj_S → Int32 → Prop) : Prop := mj_V l G (mj_room 8 0 0) RX10 cX10_years 3 (some .int) false 52 [some (.ref a0), some (.int x1), some (.int x2)] [] S 0 0 (mj_std G (some .int) (mj_room 8 0 0) (mj_qi Q))
theorem e_X10_years {l : Launch} {G : mj_G} {a0 : Nat} {x1 : Int32} {S : mj_S} {Q : mj_S → Int32 → Prop} (h : V_X10_years_0 l G a0 x1 S Q) : M_X10_years l G a0 x1 S Q := mj_enter (r := 1) (ini := false) (by decide +kernel) (fun h => by cases h) (fun _ => Nat.le_of_ble_eq_true rfl) rfl h
set_option maxRecDepth 20000 in
set_option maxHeartbeats 1000000 in
theorem b_X10_years_0 {l : Launch} {G : mj_G} {a0 : Nat} {x1 : Int32} {S : mj_S} {Q : mj_S → Int32 → Prop} (hk_a0 : m_kd S a0 = 9) (h : M_X10_hasRoom l G a0 S (fun S1 r2 => ((¬ r2 = 0) → M_X10_within l G x1 (1 : Int32) (60 : Int32) S1 (fun S3 r4 => ((¬ r4 = 0) → ∃ b5, m_gp S3 a0 7 = some b5 ∧ (((((m_gi S3 b5 4) + x1) ≤ (999 : Int32)) → V_X10_years_52 l G a0 x1 (0 : Int32) S3 Q) ∧ ((¬ (((m_gi S3 b5 4) + x1) ≤ (999 : Int32))) → M_X10_refuse l G a0 (4 : Int32) S3 (fun S6 r7 => Q S6 r7)))) ∧ ((r4 = 0) → M_X10_refuse l G a0 (1 : Int32) S3 (fun S8 r9 => Q S8 r9)))) ∧ ((r2 = 0) → M_X10_refuse l G a0 (0 : Int32) S1 (fun S10 r11 => Q S10 r11)))) : V_X10_years_0 l G a0 x1 S Q := by
  refine mj_aload_n dX10_years_0 rfl rfl ?_
  refine mj_callVi (as := []) (st := []) dX10_years_1 cal_X10_hasRoom lk_X10_152 im_X10_hasRoom se_X10_hasRoom (ci := 9) rfl (by decide) hk_a0 h rfl (Nat.le_of_ble_eq_true rfl) (by decide) ⟨Nat.le_of_ble_eq_true rfl, Nat.le_of_ble_eq_true rfl⟩ (fun S1 r2 h hn_r2 hp => ?_)
  have hk_a0 : m_kd S1 a0 = 9 := m_kd_pre hp hk_a0 (by decide)
  refine mj_if_ne (tgt := 13) dX10_years_4 (by decide) ⟨fun hc => ?_, fun hc => ?_⟩
  · replace h := h.1 hc
    refine mj_iload_n dX10_years_13 rfl rfl ?_
    refine mj_iconst (v := 1) dX10_years_14 (by decide) ?_
    refine mj_bipush (v := 60) dX10_years_15 (by decide) ?_
    refine mj_callSi (as := [.int x1, .int (1 : Int32), .int (60 : Int32)]) (st := []) dX10_years_17 cal_X10_within lk_X10_204 sm_X10_within h rfl (Nat.le_of_ble_eq_true rfl) (by decide) ⟨Nat.le_of_ble_eq_true rfl, Nat.le_of_ble_eq_true rfl⟩ (fun S3 r4 h hn_r4 hp => ?_)
    have hk_a0 : m_kd S3 a0 = 9 := m_kd_pre hp hk_a0 (by decide)
    refine mj_if_ne (tgt := 29) dX10_years_20 (by decide) ⟨fun hc => ?_, fun hc => ?_⟩
    · replace h := h.1 hc
      refine mj_aload_n dX10_years_29 rfl rfl ?_
      obtain ⟨b5, eb5, h⟩ := h
      refine mj_getP dX10_years_30 fl_X10_51_9 hk_a0 rfl ⟨b5, eb5, fun hk_b5 => ?_⟩
      refine mj_getI dX10_years_33 fl_X10_287_7 hk_b5 rfl ?_
      refine mj_iload_n dX10_years_36 rfl rfl ?_
      refine mj_iadd dX10_years_37 ?_
      refine mj_sipush (v := 999) dX10_years_38 (by decide) ?_
      refine mj_icmp_le (tgt := 50) dX10_years_41 (by decide) ⟨fun hc => ?_, fun hc => ?_⟩
      · replace h := h.1 hc
        refine mj_iconst (v := 0) dX10_years_50 (by decide) ?_
        refine mj_istore_n dX10_years_51 rfl (by decide) rfl rfl ?_
        exact h
      · replace h := h.2 hc
        refine mj_aload_n dX10_years_44 rfl rfl ?_
        refine mj_iconst (v := 4) dX10_years_45 (by decide) ?_
        refine mj_callVi (as := [.int (4 : Int32)]) (st := []) dX10_years_46 cal_X10_refuse lk_X10_271 im_X10_refuse se_X10_refuse (ci := 9) rfl (by decide) hk_a0 h rfl (Nat.le_of_ble_eq_true rfl) (by decide) ⟨Nat.le_of_ble_eq_true rfl, Nat.le_of_ble_eq_true rfl⟩ (fun S6 r7 h hn_r7 hp => ?_)
        have hk_a0 : m_kd S6 a0 = 9 := m_kd_pre hp hk_a0 (by decide)
        have hk_b5 : m_kd S6 b5 = 7 := m_kd_pre hp hk_b5 (by decide)
        exact mj_reti dX10_years_49 rfl ⟨Nat.le_of_ble_eq_true rfl, Nat.le_of_ble_eq_true rfl⟩ h
    · replace h := h.2 hc
      refine mj_aload_n dX10_years_23 rfl rfl ?_
      refine mj_iconst (v := 1) dX10_years_24 (by decide) ?_
      refine mj_callVi (as := [.int (1 : Int32)]) (st := []) dX10_years_25 cal_X10_refuse lk_X10_271 im_X10_refuse se_X10_refuse (ci := 9) rfl (by decide) hk_a0 h rfl (Nat.le_of_ble_eq_true rfl) (by decide) ⟨Nat.le_of_ble_eq_true rfl, Nat.le_of_ble_eq_true rfl⟩ (fun S8 r9 h hn_r9 hp => ?_)
      have hk_a0 : m_kd S8 a0 = 9 := m_kd_pre hp hk_a0 (by decide)
      exact mj_reti dX10_years_28 rfl ⟨Nat.le_of_ble_eq_true rfl, Nat.le_of_ble_eq_true rfl⟩ h
  · replace h := h.2 hc
    refine mj_aload_n dX10_years_7 rfl rfl ?_
    refine mj_iconst (v := 0) dX10_years_8 (by decide) ?_
    refine mj_callVi (as := [.int (0 : Int32)]) (st := []) dX10_years_9 cal_X10_refuse lk_X10_271 im_X10_refuse se_X10_refuse (ci := 9) rfl (by decide) hk_a0 h rfl (Nat.le_of_ble_eq_true rfl) (by decide) ⟨Nat.le_of_ble_eq_true rfl, Nat.le_of_ble_eq_true rfl⟩ (fun S10 r11 h hn_r11 hp => ?_)
    have hk_a0 : m_kd S10 a0 = 9 := m_kd_pre hp hk_a0 (by decide)
    exact mj_reti dX10_years_12 rfl ⟨Nat.le_of_ble_eq_true rfl, Nat.le_of_ble_eq_true rfl⟩ h
set_option maxRecDepth 20000 in
set_option maxHeartbeats 1000000 in
theorem b_X10_years_52 {l : Launch} {G : mj_G} {a0 : Nat} {x1 : Int32} {x2 : Int32} {S : mj_S} {Q : mj_S → Int32 → Prop} (hk_a0 : m_kd S a0 = 9) (h : ((x1 ≤ x2) → ∃ b1, m_gp S a0 7 = some b1 ∧ (Q S (m_gi S b1 4))) ∧ ((¬ (x1 ≤ x2)) → ∃ b2, m_gp S a0 9 = some b2 ∧ (∃ b3, m_gp S a0 7 = some b3 ∧ (M_X4_remember l G b2 b3 S (fun S4 => M_X10_liveYear l G a0 S4 (fun S5 => ∀ v6 : Int32, v6 = x2 + (1 : Int32) → V_X10_years_52 l G a0 x1 v6 S5 Q)))))) : V_X10_years_52 l G a0 x1 x2 S Q := by
  refine mj_iload_n dX10_years_52 rfl rfl ?_
  refine mj_iload_n dX10_years_53 rfl rfl ?_
  refine mj_icmp_ge (tgt := 78) dX10_years_54 (by decide) ⟨fun hc => ?_, fun hc => ?_⟩
  · replace h := h.1 hc
    refine mj_aload_n dX10_years_78 rfl rfl ?_
    obtain ⟨b1, eb1, h⟩ := h
    refine mj_getP dX10_years_79 fl_X10_51_9 hk_a0 rfl ⟨b1, eb1, fun hk_b1 => ?_⟩
    refine mj_getI dX10_years_82 fl_X10_287_7 hk_b1 rfl ?_
    exact mj_reti dX10_years_85 rfl ⟨Nat.le_of_ble_eq_true rfl, Nat.le_of_ble_eq_true rfl⟩ h
  · replace h := h.2 hc
    refine mj_aload_n dX10_years_57 rfl rfl ?_
    obtain ⟨b2, eb2, h⟩ := h
    refine mj_getP dX10_years_58 fl_X10_61_9 hk_a0 rfl ⟨b2, eb2, fun hk_b2 => ?_⟩
    refine mj_aload_n dX10_years_61 rfl rfl ?_
    obtain ⟨b3, eb3, h⟩ := h
    refine mj_getP dX10_years_62 fl_X10_51_9 hk_a0 rfl ⟨b3, eb3, fun hk_b3 => ?_⟩
    refine mj_callVv (as := [.ref b3]) (st := []) dX10_years_65 cal_X4_remember lk_X10_277 im_X4_remember se_X4_remember (ci := 4) rfl (by decide) hk_b2 h rfl (Nat.le_of_ble_eq_true rfl) (by decide) ⟨Nat.le_of_ble_eq_true rfl, Nat.le_of_ble_eq_true rfl⟩ (fun S4 h hp => ?_)
    have hk_a0 : m_kd S4 a0 = 9 := m_kd_pre hp hk_a0 (by decide)
    have hk_b2 : m_kd S4 b2 = 4 := m_kd_pre hp hk_b2 (by decide)
    have hk_b3 : m_kd S4 b3 = 7 := m_kd_pre hp hk_b3 (by decide)
    refine mj_aload_n dX10_years_68 rfl rfl ?_
    refine mj_callVv (as := []) (st := []) dX10_years_69 cal_X10_liveYear lk_X10_290 im_X10_liveYear se_X10_liveYear (ci := 9) rfl (by decide) hk_a0 h rfl (Nat.le_of_ble_eq_true rfl) (by decide) ⟨Nat.le_of_ble_eq_true rfl, Nat.le_of_ble_eq_true rfl⟩ (fun S5 h hp => ?_)
    have hk_a0 : m_kd S5 a0 = 9 := m_kd_pre hp hk_a0 (by decide)
    have hk_b2 : m_kd S5 b2 = 4 := m_kd_pre hp hk_b2 (by decide)
    have hk_b3 : m_kd S5 b3 = 7 := m_kd_pre hp hk_b3 (by decide)
    obtain ⟨v6, ev6⟩ : ∃ z : Int32, z = x2 + (1 : Int32) := ⟨_, rfl⟩
    refine mj_iinc (v := v6) dX10_years_72 rfl (by rw [ev6]; rfl) (by decide) rfl rfl ?_
    replace h := h v6 ev6
    refine mj_goto (tgt := 52) dX10_years_75 (by decide) ?_
    exact h
abbrev V_X10_liveYear_0 (l : Launch) (G : mj_G) (a0 : Nat) (S : mj_S) (Q : mj_S → Prop) : Prop := mj_V l G (mj_room 7 0 0) RX10 cX10_liveYear 2 none false 0 [some (.ref a0), none] [] S 0 0 (mj_std G none (mj_room 7 0 0) (mj_qv Q))
theorem e_X10_liveYear {l : Launch} {G : mj_G} {a0 : Nat} {S : mj_S} {Q : mj_S → Prop} (h : V_X10_liveYear_0 l G a0 S Q) : M_X10_liveYear l G a0 S Q := mj_enter (r := 1) (ini := false) (by decide +kernel) (fun h => by cases h) (fun _ => Nat.le_of_ble_eq_true rfl) rfl h
set_option maxRecDepth 20000 in
set_option maxHeartbeats 1000000 in
theorem b_X10_liveYear_0 {l : Launch} {G : mj_G} {a0 : Nat} {S : mj_S} {Q : mj_S → Prop} (hk_a0 : m_kd S a0 = 9) (h : ∃ b1, m_gp S a0 7 = some b1 ∧ (M_X10_shine l G a0 b1 S (fun S2 => ∃ b3, m_gp S2 a0 7 = some b3 ∧ (∃ b4, m_gp S2 a0 11 = some b4 ∧ (∃ b5, m_gp S2 b4 0 = some b5 ∧ (M_X8_wear l G b3 b5 S2 (fun S6 r7 => ∃ b8, m_gp S6 a0 7 = some b8 ∧ (M_X10_shine l G a0 b8 S6 (fun S9 => ∃ b10, m_gp S9 a0 9 = some b10 ∧ (∃ b11, m_gp S9 a0 7 = some b11 ∧ (∃ b12, m_gp S9 a0 7 = some b12 ∧ (M_X10_statesOf l G a0 b12 S9 (fun S13 r14 => ∃ b15, m_gp S13 a0 11 = some b15 ∧ (∃ b16, m_gp S13 a0 5 = some b16 ∧ (M_X3_sum l G b15 (m_gi S13 b16 4) S13 (fun S17 r18 => M_X4_note l G b10 (m_gi S9 b11 4) r14 r18 r7 S17 (fun S19 => Q S19))))))))))))))))) : V_X10_liveYear_0 l G a0 S Q := by
  refine mj_aload_n dX10_liveYear_0 rfl rfl ?_
  refine mj_aload_n dX10_liveYear_1 rfl rfl ?_
  obtain ⟨b1, eb1, h⟩ := h
  refine mj_getP dX10_liveYear_2 fl_X10_51_9 hk_a0 rfl ⟨b1, eb1, fun hk_b1 => ?_⟩
  refine mj_callVv (as := [.ref b1]) (st := []) dX10_liveYear_5 cal_X10_shine lk_X10_261 im_X10_shine se_X10_shine (ci := 9) rfl (by decide) hk_a0 h rfl (Nat.le_of_ble_eq_true rfl) (by decide) ⟨Nat.le_of_ble_eq_true rfl, Nat.le_of_ble_eq_true rfl⟩ (fun S2 h hp => ?_)
  have hk_a0 : m_kd S2 a0 = 9 := m_kd_pre hp hk_a0 (by decide)
  have hk_b1 : m_kd S2 b1 = 7 := m_kd_pre hp hk_b1 (by decide)
  refine mj_aload_n dX10_liveYear_8 rfl rfl ?_
  obtain ⟨b3, eb3, h⟩ := h
  refine mj_getP dX10_liveYear_9 fl_X10_51_9 hk_a0 rfl ⟨b3, eb3, fun hk_b3 => ?_⟩
  refine mj_aload_n dX10_liveYear_12 rfl rfl ?_
  obtain ⟨b4, eb4, h⟩ := h
  refine mj_getP dX10_liveYear_13 fl_X10_75_9 hk_a0 rfl ⟨b4, eb4, fun hk_b4 => ?_⟩
  obtain ⟨b5, eb5, h⟩ := h
  refine mj_getP dX10_liveYear_16 fl_X10_265_3 hk_b4 rfl ⟨b5, eb5, fun hk_b5 => ?_⟩
  refine mj_callVi (as := [.ref b5]) (st := []) dX10_liveYear_19 cal_X8_wear lk_X10_293 im_X8_wear se_X8_wear (ci := 7) rfl (by decide) hk_b3 h rfl (Nat.le_of_ble_eq_true rfl) (by decide) ⟨Nat.le_of_ble_eq_true rfl, Nat.le_of_ble_eq_true rfl⟩ (fun S6 r7 h hn_r7 hp => ?_)
  have hk_a0 : m_kd S6 a0 = 9 := m_kd_pre hp hk_a0 (by decide)
  have hk_b1 : m_kd S6 b1 = 7 := m_kd_pre hp hk_b1 (by decide)
  have hk_b3 : m_kd S6 b3 = 7 := m_kd_pre hp hk_b3 (by decide)
  have hk_b4 : m_kd S6 b4 = 3 := m_kd_pre hp hk_b4 (by decide)
  have hk_b5 : m_kd S6 b5 = 100 := m_kd_pre hp hk_b5 (by decide)
  refine mj_istore_n dX10_liveYear_22 rfl (by decide) rfl rfl ?_
  refine mj_aload_n dX10_liveYear_23 rfl rfl ?_
  refine mj_aload_n dX10_liveYear_24 rfl rfl ?_
  obtain ⟨b8, eb8, h⟩ := h
  refine mj_getP dX10_liveYear_25 fl_X10_51_9 hk_a0 rfl ⟨b8, eb8, fun hk_b8 => ?_⟩
  refine mj_callVv (as := [.ref b8]) (st := []) dX10_liveYear_28 cal_X10_shine lk_X10_261 im_X10_shine se_X10_shine (ci := 9) rfl (by decide) hk_a0 h rfl (Nat.le_of_ble_eq_true rfl) (by decide) ⟨Nat.le_of_ble_eq_true rfl, Nat.le_of_ble_eq_true rfl⟩ (fun S9 h hp => ?_)
  have hk_a0 : m_kd S9 a0 = 9 := m_kd_pre hp hk_a0 (by decide)
  have hk_b1 : m_kd S9 b1 = 7 := m_kd_pre hp hk_b1 (by decide)
  have hk_b3 : m_kd S9 b3 = 7 := m_kd_pre hp hk_b3 (by decide)
  have hk_b4 : m_kd S9 b4 = 3 := m_kd_pre hp hk_b4 (by decide)
  have hk_b5 : m_kd S9 b5 = 100 := m_kd_pre hp hk_b5 (by decide)
  have hk_b8 : m_kd S9 b8 = 7 := m_kd_pre hp hk_b8 (by decide)
  refine mj_aload_n dX10_liveYear_31 rfl rfl ?_
  obtain ⟨b10, eb10, h⟩ := h
  refine mj_getP dX10_liveYear_32 fl_X10_61_9 hk_a0 rfl ⟨b10, eb10, fun hk_b10 => ?_⟩
  refine mj_aload_n dX10_liveYear_35 rfl rfl ?_
  obtain ⟨b11, eb11, h⟩ := h
  refine mj_getP dX10_liveYear_36 fl_X10_51_9 hk_a0 rfl ⟨b11, eb11, fun hk_b11 => ?_⟩
  refine mj_getI dX10_liveYear_39 fl_X10_287_7 hk_b11 rfl ?_
  refine mj_aload_n dX10_liveYear_42 rfl rfl ?_
  refine mj_aload_n dX10_liveYear_43 rfl rfl ?_
  obtain ⟨b12, eb12, h⟩ := h
  refine mj_getP dX10_liveYear_44 fl_X10_51_9 hk_a0 rfl ⟨b12, eb12, fun hk_b12 => ?_⟩
  refine mj_callVi (as := [.ref b12]) (st := [.int (m_gi S9 b11 4), .ref b10]) dX10_liveYear_47 cal_X10_statesOf lk_X10_280 im_X10_statesOf se_X10_statesOf (ci := 9) rfl (by decide) hk_a0 h rfl (Nat.le_of_ble_eq_true rfl) (by decide) ⟨Nat.le_of_ble_eq_true rfl, Nat.le_of_ble_eq_true rfl⟩ (fun S13 r14 h hn_r14 hp => ?_)
  have hk_a0 : m_kd S13 a0 = 9 := m_kd_pre hp hk_a0 (by decide)
  have hk_b1 : m_kd S13 b1 = 7 := m_kd_pre hp hk_b1 (by decide)
  have hk_b3 : m_kd S13 b3 = 7 := m_kd_pre hp hk_b3 (by decide)
  have hk_b4 : m_kd S13 b4 = 3 := m_kd_pre hp hk_b4 (by decide)
  have hk_b5 : m_kd S13 b5 = 100 := m_kd_pre hp hk_b5 (by decide)
  have hk_b8 : m_kd S13 b8 = 7 := m_kd_pre hp hk_b8 (by decide)
  have hk_b10 : m_kd S13 b10 = 4 := m_kd_pre hp hk_b10 (by decide)
  have hk_b11 : m_kd S13 b11 = 7 := m_kd_pre hp hk_b11 (by decide)
  have hk_b12 : m_kd S13 b12 = 7 := m_kd_pre hp hk_b12 (by decide)
  refine mj_aload_n dX10_liveYear_50 rfl rfl ?_
  obtain ⟨b15, eb15, h⟩ := h
  refine mj_getP dX10_liveYear_51 fl_X10_75_9 hk_a0 rfl ⟨b15, eb15, fun hk_b15 => ?_⟩
  refine mj_aload_n dX10_liveYear_54 rfl rfl ?_
  obtain ⟨b16, eb16, h⟩ := h
  refine mj_getP dX10_liveYear_55 fl_X10_41_9 hk_a0 rfl ⟨b16, eb16, fun hk_b16 => ?_⟩
  refine mj_getI dX10_liveYear_58 fl_X10_143_5 hk_b16 rfl ?_
  refine mj_callVi (as := [.int (m_gi S13 b16 4)]) (st := [.int r14, .int (m_gi S9 b11 4), .ref b10]) dX10_liveYear_61 cal_X3_sum lk_X10_297 im_X3_sum se_X3_sum (ci := 3) rfl (by decide) hk_b15 h rfl (Nat.le_of_ble_eq_true rfl) (by decide) ⟨Nat.le_of_ble_eq_true rfl, Nat.le_of_ble_eq_true rfl⟩ (fun S17 r18 h hn_r18 hp => ?_)
  have hk_a0 : m_kd S17 a0 = 9 := m_kd_pre hp hk_a0 (by decide)
  have hk_b1 : m_kd S17 b1 = 7 := m_kd_pre hp hk_b1 (by decide)
  have hk_b3 : m_kd S17 b3 = 7 := m_kd_pre hp hk_b3 (by decide)
  have hk_b4 : m_kd S17 b4 = 3 := m_kd_pre hp hk_b4 (by decide)
  have hk_b5 : m_kd S17 b5 = 100 := m_kd_pre hp hk_b5 (by decide)
  have hk_b8 : m_kd S17 b8 = 7 := m_kd_pre hp hk_b8 (by decide)
  have hk_b10 : m_kd S17 b10 = 4 := m_kd_pre hp hk_b10 (by decide)
  have hk_b11 : m_kd S17 b11 = 7 := m_kd_pre hp hk_b11 (by decide)
  have hk_b12 : m_kd S17 b12 = 7 := m_kd_pre hp hk_b12 (by decide)
  have hk_b15 : m_kd S17 b15 = 3 := m_kd_pre hp hk_b15 (by decide)
  have hk_b16 : m_kd S17 b16 = 5 := m_kd_pre hp hk_b16 (by decide)
  refine mj_iload_n dX10_liveYear_64 rfl rfl ?_
  refine mj_callVv (as := [.int (m_gi S9 b11 4), .int r14, .int r18, .int r7]) (st := []) dX10_liveYear_65 cal_X4_note lk_X10_300 im_X4_note se_X4_note (ci := 4) rfl (by decide) hk_b10 h rfl (Nat.le_of_ble_eq_true rfl) (by decide) ⟨Nat.le_of_ble_eq_true rfl, Nat.le_of_ble_eq_true rfl⟩ (fun S19 h hp => ?_)
  have hk_a0 : m_kd S19 a0 = 9 := m_kd_pre hp hk_a0 (by decide)
  have hk_b1 : m_kd S19 b1 = 7 := m_kd_pre hp hk_b1 (by decide)
  have hk_b3 : m_kd S19 b3 = 7 := m_kd_pre hp hk_b3 (by decide)
  have hk_b4 : m_kd S19 b4 = 3 := m_kd_pre hp hk_b4 (by decide)
  have hk_b5 : m_kd S19 b5 = 100 := m_kd_pre hp hk_b5 (by decide)
  have hk_b8 : m_kd S19 b8 = 7 := m_kd_pre hp hk_b8 (by decide)
  have hk_b10 : m_kd S19 b10 = 4 := m_kd_pre hp hk_b10 (by decide)
  have hk_b11 : m_kd S19 b11 = 7 := m_kd_pre hp hk_b11 (by decide)
  have hk_b12 : m_kd S19 b12 = 7 := m_kd_pre hp hk_b12 (by decide)
  have hk_b15 : m_kd S19 b15 = 3 := m_kd_pre hp hk_b15 (by decide)
  have hk_b16 : m_kd S19 b16 = 5 := m_kd_pre hp hk_b16 (by decide)
  exact mj_retv dX10_liveYear_68 rfl ⟨Nat.le_of_ble_eq_true rfl, Nat.le_of_ble_eq_true rfl⟩ h
abbrev V_X10_heat_0 (l : Launch) (G : mj_G) (a0 : Nat) (x1 : Int32) (S : mj_S) (Q : mj_S → Int32 → Prop) : Prop := mj_V l G (mj_room 2 0 0) RX10 cX10_heat 2 (some .boolean) false 0 [some (.ref a0), some (.int x1)] [] S 0 0 (mj_std G (some .boolean) (mj_room 2 0 0) (mj_qi Q))
theorem e_X10_heat {l : Launch} {G : mj_G} {a0 : Nat} {x1 : Int32} {S : mj_S} {Q : mj_S → Int32 → Prop} (h : V_X10_heat_0 l G a0 x1 S Q) : M_X10_heat l G a0 x1 S Q := mj_enter (r := 0) (ini := false) (by decide +kernel) (fun h => by cases h) (fun _ => Nat.le_of_ble_eq_true rfl) rfl h
set_option maxRecDepth 20000 in
set_option maxHeartbeats 1000000 in
theorem b_X10_heat_0 {l : Launch} {G : mj_G} {a0 : Nat} {x1 : Int32} {S : mj_S} {Q : mj_S → Int32 → Prop} (hk_a0 : m_kd S a0 = 9) (h : M_X10_within l G x1 (0 : Int32) (99 : Int32) S (fun S1 r2 => ((r2 = 0) → Q S1 (0 : Int32)) ∧ ((¬ (r2 = 0)) → ((¬ x1 = (m_gi S1 a0 14)) → ∀ S3 : mj_S, S3 = m_si S1 a0 14 x1 → Q S3 (1 : Int32)) ∧ ((x1 = (m_gi S1 a0 14)) → Q S1 (0 : Int32))))) : V_X10_heat_0 l G a0 x1 S Q := by
  refine mj_iload_n dX10_heat_0 rfl rfl ?_
  refine mj_iconst (v := 0) dX10_heat_1 (by decide) ?_
  refine mj_bipush (v := 99) dX10_heat_2 (by decide) ?_
  refine mj_callSi (as := [.int x1, .int (0 : Int32), .int (99 : Int32)]) (st := []) dX10_heat_4 cal_X10_within lk_X10_204 sm_X10_within h rfl (Nat.le_of_ble_eq_true rfl) (by decide) ⟨Nat.le_of_ble_eq_true rfl, Nat.le_of_ble_eq_true rfl⟩ (fun S1 r2 h hn_r2 hp => ?_)
  have hk_a0 : m_kd S1 a0 = 9 := m_kd_pre hp hk_a0 (by decide)
  refine mj_if_eq (tgt := 18) dX10_heat_7 (by decide) ⟨fun hc => ?_, fun hc => ?_⟩
  · replace h := h.1 hc
    refine mj_iconst (v := 0) dX10_heat_18 (by decide) ?_
    exact mj_retz dX10_heat_19 rfl (rfl) ⟨Nat.le_of_ble_eq_true rfl, Nat.le_of_ble_eq_true rfl⟩ h
  · replace h := h.2 hc
    refine mj_iload_n dX10_heat_10 rfl rfl ?_
    refine mj_aload_n dX10_heat_11 rfl rfl ?_
    refine mj_getI dX10_heat_12 fl_X10_89_9 hk_a0 rfl ?_
    refine mj_icmp_ne (tgt := 20) dX10_heat_15 (by decide) ⟨fun hc => ?_, fun hc => ?_⟩
    · replace h := h.1 hc
      refine mj_aload_n dX10_heat_20 rfl rfl ?_
      refine mj_iload_n dX10_heat_21 rfl rfl ?_
      refine mj_putI dX10_heat_22 fl_X10_89_9 hk_a0 (Or.inl rfl) rfl rfl rfl ?_
      obtain ⟨S3, eS3⟩ : ∃ z, z = m_si S1 a0 14 x1 := ⟨_, rfl⟩
      rw [← eS3]
      replace h := h S3 eS3
      have hk_a0 : m_kd S3 a0 = 9 := by rw [eS3]; exact hk_a0
      refine mj_iconst (v := 1) dX10_heat_25 (by decide) ?_
      exact mj_retz dX10_heat_26 rfl (rfl) ⟨Nat.le_of_ble_eq_true rfl, Nat.le_of_ble_eq_true rfl⟩ h
    · replace h := h.2 hc
      refine mj_iconst (v := 0) dX10_heat_18 (by decide) ?_
      exact mj_retz dX10_heat_19 rfl (rfl) ⟨Nat.le_of_ble_eq_true rfl, Nat.le_of_ble_eq_true rfl⟩ h
abbrev V_X10_centuries_0 (l : Launch) (G : mj_G) (a0 : Nat) (x1 : Int32) (y2 : Int64) (S : mj_S) (Q : mj_S → Int32 → Prop) : Prop := mj_V l G (mj_room 8 0 0) RX10 cX10_centuries 5 (some .int) false 0 [some (.ref a0), some (.int x1), some (.long y2), none, none] [] S 0 0 (mj_std G (some .int) (mj_room 8 0 0) (mj_qi Q))
abbrev V_X10_centuries_42 (l : Launch) (G : mj_G) (a0 : Nat) (x1 : Int32) (x4 : Int32) (S : mj_S) (Q : mj_S → Int32 → Prop) : Prop := mj_V l G (mj_room 8 0 0) RX10 cX10_centuries 5 (some .int) false 42 [some (.ref a0), some (.int x1), none, none, some (.int x4)] [] S 0 0 (mj_std G (some .int) (mj_room 8 0 0) (mj_qi Q))
theorem e_X10_centuries {l : Launch} {G : mj_G} {a0 : Nat} {x1 : Int32} {y2 : Int64} {S : mj_S} {Q : mj_S → Int32 → Prop} (h : V_X10_centuries_0 l G a0 x1 y2 S Q) : M_X10_centuries l G a0 x1 y2 S Q := mj_enter (r := 1) (ini := false) (by decide +kernel) (fun h => by cases h) (fun _ => Nat.le_of_ble_eq_true rfl) rfl h
set_option maxRecDepth 20000 in
set_option maxHeartbeats 1000000 in
theorem b_X10_centuries_0 {l : Launch} {G : mj_G} {a0 : Nat} {x1 : Int32} {y2 : Int64} {S : mj_S} {Q : mj_S → Int32 → Prop} (hk_a0 : m_kd S a0 = 9) (h : M_X10_hasRoom l G a0 S (fun S1 r2 => ((r2 = 0) → Q S1 (-1 : Int32)) ∧ ((¬ (r2 = 0)) → M_X10_within l G x1 (1 : Int32) (60 : Int32) S1 (fun S3 r4 => ((r4 = 0) → Q S3 (-1 : Int32)) ∧ ((¬ (r4 = 0)) → ∃ b5, m_gp S3 a0 7 = some b5 ∧ (((((m_gi S3 b5 4) + x1) ≤ (999 : Int32)) → ∀ S6 : mj_S, S6 = m_sl S3 a0 15 y2 → V_X10_centuries_42 l G a0 x1 (0 : Int32) S6 Q) ∧ ((¬ (((m_gi S3 b5 4) + x1) ≤ (999 : Int32))) → Q S3 (-1 : Int32)))))))) : V_X10_centuries_0 l G a0 x1 y2 S Q := by
  refine mj_aload_n dX10_centuries_0 rfl rfl ?_
  refine mj_callVi (as := []) (st := []) dX10_centuries_1 cal_X10_hasRoom lk_X10_152 im_X10_hasRoom se_X10_hasRoom (ci := 9) rfl (by decide) hk_a0 h rfl (Nat.le_of_ble_eq_true rfl) (by decide) ⟨Nat.le_of_ble_eq_true rfl, Nat.le_of_ble_eq_true rfl⟩ (fun S1 r2 h hn_r2 hp => ?_)
  have hk_a0 : m_kd S1 a0 = 9 := m_kd_pre hp hk_a0 (by decide)
  refine mj_if_eq (tgt := 32) dX10_centuries_4 (by decide) ⟨fun hc => ?_, fun hc => ?_⟩
  · replace h := h.1 hc
    refine mj_iconst (v := (-1)) dX10_centuries_32 (by decide) ?_
    exact mj_reti dX10_centuries_33 rfl ⟨Nat.le_of_ble_eq_true rfl, Nat.le_of_ble_eq_true rfl⟩ h
  · replace h := h.2 hc
    refine mj_iload_n dX10_centuries_7 rfl rfl ?_
    refine mj_iconst (v := 1) dX10_centuries_8 (by decide) ?_
    refine mj_bipush (v := 60) dX10_centuries_9 (by decide) ?_
    refine mj_callSi (as := [.int x1, .int (1 : Int32), .int (60 : Int32)]) (st := []) dX10_centuries_11 cal_X10_within lk_X10_204 sm_X10_within h rfl (Nat.le_of_ble_eq_true rfl) (by decide) ⟨Nat.le_of_ble_eq_true rfl, Nat.le_of_ble_eq_true rfl⟩ (fun S3 r4 h hn_r4 hp => ?_)
    have hk_a0 : m_kd S3 a0 = 9 := m_kd_pre hp hk_a0 (by decide)
    refine mj_if_eq (tgt := 32) dX10_centuries_14 (by decide) ⟨fun hc => ?_, fun hc => ?_⟩
    · replace h := h.1 hc
      refine mj_iconst (v := (-1)) dX10_centuries_32 (by decide) ?_
      exact mj_reti dX10_centuries_33 rfl ⟨Nat.le_of_ble_eq_true rfl, Nat.le_of_ble_eq_true rfl⟩ h
    · replace h := h.2 hc
      refine mj_aload_n dX10_centuries_17 rfl rfl ?_
      obtain ⟨b5, eb5, h⟩ := h
      refine mj_getP dX10_centuries_18 fl_X10_51_9 hk_a0 rfl ⟨b5, eb5, fun hk_b5 => ?_⟩
      refine mj_getI dX10_centuries_21 fl_X10_287_7 hk_b5 rfl ?_
      refine mj_iload_n dX10_centuries_24 rfl rfl ?_
      refine mj_iadd dX10_centuries_25 ?_
      refine mj_sipush (v := 999) dX10_centuries_26 (by decide) ?_
      refine mj_icmp_le (tgt := 34) dX10_centuries_29 (by decide) ⟨fun hc => ?_, fun hc => ?_⟩
      · replace h := h.1 hc
        refine mj_aload_n dX10_centuries_34 rfl rfl ?_
        refine mj_lload_n dX10_centuries_35 rfl rfl ?_
        refine mj_putL dX10_centuries_36 fl_X10_92_9 hk_a0 (Or.inl rfl) rfl ?_
        obtain ⟨S6, eS6⟩ : ∃ z, z = m_sl S3 a0 15 y2 := ⟨_, rfl⟩
        rw [← eS6]
        replace h := h S6 eS6
        have hk_a0 : m_kd S6 a0 = 9 := by rw [eS6]; exact hk_a0
        have hk_b5 : m_kd S6 b5 = 7 := by rw [eS6]; exact hk_b5
        refine mj_iconst (v := 0) dX10_centuries_39 (by decide) ?_
        refine mj_istore dX10_centuries_40 (by decide) rfl rfl ?_
        exact mj_lessm [true, true, false, false, true] rfl h
      · replace h := h.2 hc
        refine mj_iconst (v := (-1)) dX10_centuries_32 (by decide) ?_
        exact mj_reti dX10_centuries_33 rfl ⟨Nat.le_of_ble_eq_true rfl, Nat.le_of_ble_eq_true rfl⟩ h
set_option maxRecDepth 20000 in
set_option maxHeartbeats 1000000 in
theorem b_X10_centuries_42 {l : Launch} {G : mj_G} {a0 : Nat} {x1 : Int32} {x4 : Int32} {S : mj_S} {Q : mj_S → Int32 → Prop} (hk_a0 : m_kd S a0 = 9) (h : ((x1 ≤ x4) → ∃ b1, m_gp S a0 7 = some b1 ∧ (Q S (m_gi S b1 4))) ∧ ((¬ (x1 ≤ x4)) → ∃ b2, m_gp S a0 9 = some b2 ∧ (∃ b3, m_gp S a0 7 = some b3 ∧ (M_X4_remember l G b2 b3 S (fun S4 => M_X10_drawCurtains l G a0 S4 (fun S5 => M_X10_drawPerson l G a0 S5 (fun S6 => M_X10_liveYear l G a0 S6 (fun S7 => ∀ v8 : Int32, v8 = x4 + (1 : Int32) → V_X10_centuries_42 l G a0 x1 v8 S7 Q)))))))) : V_X10_centuries_42 l G a0 x1 x4 S Q := by
  refine mj_iload dX10_centuries_42 rfl ?_
  refine mj_iload_n dX10_centuries_44 rfl rfl ?_
  refine mj_icmp_ge (tgt := 77) dX10_centuries_45 (by decide) ⟨fun hc => ?_, fun hc => ?_⟩
  · replace h := h.1 hc
    refine mj_aload_n dX10_centuries_77 rfl rfl ?_
    obtain ⟨b1, eb1, h⟩ := h
    refine mj_getP dX10_centuries_78 fl_X10_51_9 hk_a0 rfl ⟨b1, eb1, fun hk_b1 => ?_⟩
    refine mj_getI dX10_centuries_81 fl_X10_287_7 hk_b1 rfl ?_
    exact mj_reti dX10_centuries_84 rfl ⟨Nat.le_of_ble_eq_true rfl, Nat.le_of_ble_eq_true rfl⟩ h
  · replace h := h.2 hc
    refine mj_aload_n dX10_centuries_48 rfl rfl ?_
    obtain ⟨b2, eb2, h⟩ := h
    refine mj_getP dX10_centuries_49 fl_X10_61_9 hk_a0 rfl ⟨b2, eb2, fun hk_b2 => ?_⟩
    refine mj_aload_n dX10_centuries_52 rfl rfl ?_
    obtain ⟨b3, eb3, h⟩ := h
    refine mj_getP dX10_centuries_53 fl_X10_51_9 hk_a0 rfl ⟨b3, eb3, fun hk_b3 => ?_⟩
    refine mj_callVv (as := [.ref b3]) (st := []) dX10_centuries_56 cal_X4_remember lk_X10_277 im_X4_remember se_X4_remember (ci := 4) rfl (by decide) hk_b2 h rfl (Nat.le_of_ble_eq_true rfl) (by decide) ⟨Nat.le_of_ble_eq_true rfl, Nat.le_of_ble_eq_true rfl⟩ (fun S4 h hp => ?_)
    have hk_a0 : m_kd S4 a0 = 9 := m_kd_pre hp hk_a0 (by decide)
    have hk_b2 : m_kd S4 b2 = 4 := m_kd_pre hp hk_b2 (by decide)
    have hk_b3 : m_kd S4 b3 = 7 := m_kd_pre hp hk_b3 (by decide)
    refine mj_aload_n dX10_centuries_59 rfl rfl ?_
    refine mj_callVv (as := []) (st := []) dX10_centuries_60 cal_X10_drawCurtains lk_X10_304 im_X10_drawCurtains se_X10_drawCurtains (ci := 9) rfl (by decide) hk_a0 h rfl (Nat.le_of_ble_eq_true rfl) (by decide) ⟨Nat.le_of_ble_eq_true rfl, Nat.le_of_ble_eq_true rfl⟩ (fun S5 h hp => ?_)
    have hk_a0 : m_kd S5 a0 = 9 := m_kd_pre hp hk_a0 (by decide)
    have hk_b2 : m_kd S5 b2 = 4 := m_kd_pre hp hk_b2 (by decide)
    have hk_b3 : m_kd S5 b3 = 7 := m_kd_pre hp hk_b3 (by decide)
    refine mj_aload_n dX10_centuries_63 rfl rfl ?_
    refine mj_callVv (as := []) (st := []) dX10_centuries_64 cal_X10_drawPerson lk_X10_307 im_X10_drawPerson se_X10_drawPerson (ci := 9) rfl (by decide) hk_a0 h rfl (Nat.le_of_ble_eq_true rfl) (by decide) ⟨Nat.le_of_ble_eq_true rfl, Nat.le_of_ble_eq_true rfl⟩ (fun S6 h hp => ?_)
    have hk_a0 : m_kd S6 a0 = 9 := m_kd_pre hp hk_a0 (by decide)
    have hk_b2 : m_kd S6 b2 = 4 := m_kd_pre hp hk_b2 (by decide)
    have hk_b3 : m_kd S6 b3 = 7 := m_kd_pre hp hk_b3 (by decide)
    refine mj_aload_n dX10_centuries_67 rfl rfl ?_
    refine mj_callVv (as := []) (st := []) dX10_centuries_68 cal_X10_liveYear lk_X10_290 im_X10_liveYear se_X10_liveYear (ci := 9) rfl (by decide) hk_a0 h rfl (Nat.le_of_ble_eq_true rfl) (by decide) ⟨Nat.le_of_ble_eq_true rfl, Nat.le_of_ble_eq_true rfl⟩ (fun S7 h hp => ?_)
    have hk_a0 : m_kd S7 a0 = 9 := m_kd_pre hp hk_a0 (by decide)
    have hk_b2 : m_kd S7 b2 = 4 := m_kd_pre hp hk_b2 (by decide)
    have hk_b3 : m_kd S7 b3 = 7 := m_kd_pre hp hk_b3 (by decide)
    obtain ⟨v8, ev8⟩ : ∃ z : Int32, z = x4 + (1 : Int32) := ⟨_, rfl⟩
    refine mj_iinc (v := v8) dX10_centuries_71 rfl (by rw [ev8]; rfl) (by decide) rfl rfl ?_
    replace h := h v8 ev8
    refine mj_goto (tgt := 42) dX10_centuries_74 (by decide) ?_
    exact h
