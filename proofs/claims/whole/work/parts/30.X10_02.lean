abbrev V_X10_draw_0 (l : Launch) (G : mj_G) (a0 : Nat) (x1 : Int32) (S : mj_S) (Q : mj_S → Int32 → Prop) : Prop := mj_V l G (mj_room 1 0 0) RX10 cX10_draw 2 (some .int) false 0 [some (.ref a0), some (.int x1)] [] S 0 0 (mj_std G (some .int) (mj_room 1 0 0) (mj_qi Q))
theorem e_X10_draw {l : Launch} {G : mj_G} {a0 : Nat} {x1 : Int32} {S : mj_S} {Q : mj_S → Int32 → Prop} (h : V_X10_draw_0 l G a0 x1 S Q) : M_X10_draw l G a0 x1 S Q := mj_enter (r := 0) (ini := false) (by decide +kernel) (fun h => by cases h) (fun _ => Nat.le_of_ble_eq_true rfl) rfl h
set_option maxRecDepth 20000 in
set_option maxHeartbeats 1000000 in
theorem b_X10_draw_0 {l : Launch} {G : mj_G} {a0 : Nat} {x1 : Int32} {S : mj_S} {Q : mj_S → Int32 → Prop} (hk_a0 : m_kd S a0 = 9) (h : ∀ S1 : mj_S, S1 = m_sl S a0 15 (((m_gl S a0 15) * (6364136223846793005 : Int64)) + (1442695040888963407 : Int64)) → ((x1 ≤ 0) → Q S1 (0 : Int32)) ∧ ((¬ (x1 ≤ 0)) → ¬ ((x1).toInt64) = 0 ∧ (Q S1 (((((((m_gl S1 a0 15)).toUInt64 >>> (((33 : Int32)).toInt64.toUInt64 &&& Int64.toUInt64 63)).toInt64) - ((((m_gl S1 a0 15)).toUInt64 >>> (((33 : Int32)).toInt64.toUInt64 &&& Int64.toUInt64 63)).toInt64) / (x1).toInt64 * (x1).toInt64)).toInt32)))) : V_X10_draw_0 l G a0 x1 S Q := by
  refine mj_aload_n dX10_draw_0 rfl rfl ?_
  refine mj_aload_n dX10_draw_1 rfl rfl ?_
  refine mj_getL dX10_draw_2 fl_X10_92_9 hk_a0 rfl ?_
  refine mj_ldc2 dX10_draw_5 cl_X10_310 ?_
  refine mj_lmul dX10_draw_8 ?_
  refine mj_ldc2 dX10_draw_9 cl_X10_312 ?_
  refine mj_ladd dX10_draw_12 ?_
  refine mj_putL dX10_draw_13 fl_X10_92_9 hk_a0 (Or.inl rfl) rfl ?_
  obtain ⟨S1, eS1⟩ : ∃ z, z = m_sl S a0 15 (((m_gl S a0 15) * (6364136223846793005 : Int64)) + (1442695040888963407 : Int64)) := ⟨_, rfl⟩
  rw [← eS1]
  replace h := h S1 eS1
  have hk_a0 : m_kd S1 a0 = 9 := by rw [eS1]; exact hk_a0
  refine mj_iload_n dX10_draw_16 rfl rfl ?_
  refine mj_if_le (tgt := 34) dX10_draw_17 (by decide) ⟨fun hc => ?_, fun hc => ?_⟩
  · replace h := h.1 hc
    refine mj_iconst (v := 0) dX10_draw_34 (by decide) ?_
    exact mj_reti dX10_draw_35 rfl ⟨Nat.le_of_ble_eq_true rfl, Nat.le_of_ble_eq_true rfl⟩ h
  · replace h := h.2 hc
    refine mj_aload_n dX10_draw_20 rfl rfl ?_
    refine mj_getL dX10_draw_21 fl_X10_92_9 hk_a0 rfl ?_
    refine mj_bipush (v := 33) dX10_draw_24 (by decide) ?_
    refine mj_lushr dX10_draw_26 ?_
    refine mj_iload_n dX10_draw_27 rfl rfl ?_
    refine mj_i2l dX10_draw_28 ?_
    refine mj_lrem dX10_draw_29 h.1 ?_
    replace h := h.2
    refine mj_l2i dX10_draw_30 ?_
    refine mj_goto (tgt := 35) dX10_draw_31 (by decide) ?_
    exact mj_reti dX10_draw_35 rfl ⟨Nat.le_of_ble_eq_true rfl, Nat.le_of_ble_eq_true rfl⟩ h
abbrev V_X10_drawCurtains_0 (l : Launch) (G : mj_G) (a0 : Nat) (S : mj_S) (Q : mj_S → Prop) : Prop := mj_V l G (mj_room 2 0 0) RX10 cX10_drawCurtains 1 none false 0 [some (.ref a0)] [] S 0 0 (mj_std G none (mj_room 2 0 0) (mj_qv Q))
theorem e_X10_drawCurtains {l : Launch} {G : mj_G} {a0 : Nat} {S : mj_S} {Q : mj_S → Prop} (h : V_X10_drawCurtains_0 l G a0 S Q) : M_X10_drawCurtains l G a0 S Q := mj_enter (r := 0) (ini := false) (by decide +kernel) (fun h => by cases h) (fun _ => Nat.le_of_ble_eq_true rfl) rfl h
set_option maxRecDepth 20000 in
set_option maxHeartbeats 1000000 in
theorem b_X10_drawCurtains_0 {l : Launch} {G : mj_G} {a0 : Nat} {S : mj_S} {Q : mj_S → Prop} (hk_a0 : m_kd S a0 = 9) (h : M_X10_draw l G a0 (100 : Int32) S (fun S1 r2 => (((m_gi S1 a0 14) ≤ r2) → ∃ b3, m_gp S1 a0 5 = some b3 ∧ ((((m_gi S1 b3 7) ≤ 0) → Q S1) ∧ ((¬ ((m_gi S1 b3 7) ≤ 0)) → ∃ b4, m_gp S1 a0 7 = some b4 ∧ (∃ b5, m_gp S1 a0 5 = some b5 ∧ (M_X10_draw l G a0 (m_gi S1 b5 7) S1 (fun S6 r7 => ∃ b8, m_gp S6 a0 7 = some b8 ∧ (M_X8_fallen l G b8 S6 (fun S9 r10 => ∀ S11 : mj_S, S11 = m_si S9 b4 3 ((m_gi S1 b4 3) ^^^ (((1 : Int32) <<< (r7 &&& 31)) &&& (r10 ^^^ (-1 : Int32)))) → Q S11)))))))) ∧ ((¬ ((m_gi S1 a0 14) ≤ r2)) → ∃ b12, m_gp S1 a0 7 = some b12 ∧ (∃ b13, m_gp S1 a0 5 = some b13 ∧ (M_X6_allCurtains l G b13 S1 (fun S14 r15 => ∀ S16 : mj_S, S16 = m_si S14 b12 3 r15 → Q S16)))))) : V_X10_drawCurtains_0 l G a0 S Q := by
  refine mj_aload_n dX10_drawCurtains_0 rfl rfl ?_
  refine mj_bipush (v := 100) dX10_drawCurtains_1 (by decide) ?_
  refine mj_callVi (as := [.int (100 : Int32)]) (st := []) dX10_drawCurtains_3 cal_X10_draw lk_X10_314 im_X10_draw se_X10_draw (ci := 9) rfl (by decide) hk_a0 h rfl (Nat.le_of_ble_eq_true rfl) (by decide) ⟨Nat.le_of_ble_eq_true rfl, Nat.le_of_ble_eq_true rfl⟩ (fun S1 r2 h hn_r2 hp => ?_)
  have hk_a0 : m_kd S1 a0 = 9 := m_kd_pre hp hk_a0 (by decide)
  refine mj_aload_n dX10_drawCurtains_6 rfl rfl ?_
  refine mj_getI dX10_drawCurtains_7 fl_X10_89_9 hk_a0 rfl ?_
  refine mj_icmp_ge (tgt := 30) dX10_drawCurtains_10 (by decide) ⟨fun hc => ?_, fun hc => ?_⟩
  · replace h := h.1 hc
    refine mj_aload_n dX10_drawCurtains_30 rfl rfl ?_
    obtain ⟨b3, eb3, h⟩ := h
    refine mj_getP dX10_drawCurtains_31 fl_X10_41_9 hk_a0 rfl ⟨b3, eb3, fun hk_b3 => ?_⟩
    refine mj_getI dX10_drawCurtains_34 fl_X10_146_5 hk_b3 rfl ?_
    refine mj_if_le (tgt := 75) dX10_drawCurtains_37 (by decide) ⟨fun hc => ?_, fun hc => ?_⟩
    · replace h := h.1 hc
      exact mj_retv dX10_drawCurtains_75 rfl ⟨Nat.le_of_ble_eq_true rfl, Nat.le_of_ble_eq_true rfl⟩ h
    · replace h := h.2 hc
      refine mj_aload_n dX10_drawCurtains_40 rfl rfl ?_
      obtain ⟨b4, eb4, h⟩ := h
      refine mj_getP dX10_drawCurtains_41 fl_X10_51_9 hk_a0 rfl ⟨b4, eb4, fun hk_b4 => ?_⟩
      refine mj_dup dX10_drawCurtains_44 rfl ?_
      refine mj_getI dX10_drawCurtains_45 fl_X10_187_7 hk_b4 rfl ?_
      refine mj_iconst (v := 1) dX10_drawCurtains_48 (by decide) ?_
      refine mj_aload_n dX10_drawCurtains_49 rfl rfl ?_
      refine mj_aload_n dX10_drawCurtains_50 rfl rfl ?_
      obtain ⟨b5, eb5, h⟩ := h
      refine mj_getP dX10_drawCurtains_51 fl_X10_41_9 hk_a0 rfl ⟨b5, eb5, fun hk_b5 => ?_⟩
      refine mj_getI dX10_drawCurtains_54 fl_X10_146_5 hk_b5 rfl ?_
      refine mj_callVi (as := [.int (m_gi S1 b5 7)]) (st := [.int (1 : Int32), .int (m_gi S1 b4 3), .ref b4]) dX10_drawCurtains_57 cal_X10_draw lk_X10_314 im_X10_draw se_X10_draw (ci := 9) rfl (by decide) hk_a0 h rfl (Nat.le_of_ble_eq_true rfl) (by decide) ⟨Nat.le_of_ble_eq_true rfl, Nat.le_of_ble_eq_true rfl⟩ (fun S6 r7 h hn_r7 hp => ?_)
      have hk_a0 : m_kd S6 a0 = 9 := m_kd_pre hp hk_a0 (by decide)
      have hk_b3 : m_kd S6 b3 = 5 := m_kd_pre hp hk_b3 (by decide)
      have hk_b4 : m_kd S6 b4 = 7 := m_kd_pre hp hk_b4 (by decide)
      have hk_b5 : m_kd S6 b5 = 5 := m_kd_pre hp hk_b5 (by decide)
      refine mj_ishl dX10_drawCurtains_60 ?_
      refine mj_aload_n dX10_drawCurtains_61 rfl rfl ?_
      obtain ⟨b8, eb8, h⟩ := h
      refine mj_getP dX10_drawCurtains_62 fl_X10_51_9 hk_a0 rfl ⟨b8, eb8, fun hk_b8 => ?_⟩
      refine mj_callVi (as := []) (st := [.int ((1 : Int32) <<< (r7 &&& 31)), .int (m_gi S1 b4 3), .ref b4]) dX10_drawCurtains_65 cal_X8_fallen lk_X10_320 im_X8_fallen se_X8_fallen (ci := 7) rfl (by decide) hk_b8 h rfl (Nat.le_of_ble_eq_true rfl) (by decide) ⟨Nat.le_of_ble_eq_true rfl, Nat.le_of_ble_eq_true rfl⟩ (fun S9 r10 h hn_r10 hp => ?_)
      have hk_a0 : m_kd S9 a0 = 9 := m_kd_pre hp hk_a0 (by decide)
      have hk_b3 : m_kd S9 b3 = 5 := m_kd_pre hp hk_b3 (by decide)
      have hk_b4 : m_kd S9 b4 = 7 := m_kd_pre hp hk_b4 (by decide)
      have hk_b5 : m_kd S9 b5 = 5 := m_kd_pre hp hk_b5 (by decide)
      have hk_b8 : m_kd S9 b8 = 7 := m_kd_pre hp hk_b8 (by decide)
      refine mj_iconst (v := (-1)) dX10_drawCurtains_68 (by decide) ?_
      refine mj_ixor dX10_drawCurtains_69 ?_
      refine mj_iand dX10_drawCurtains_70 ?_
      refine mj_ixor dX10_drawCurtains_71 ?_
      refine mj_putI dX10_drawCurtains_72 fl_X10_187_7 hk_b4 (Or.inl rfl) rfl rfl rfl ?_
      obtain ⟨S11, eS11⟩ : ∃ z, z = m_si S9 b4 3 ((m_gi S1 b4 3) ^^^ (((1 : Int32) <<< (r7 &&& 31)) &&& (r10 ^^^ (-1 : Int32)))) := ⟨_, rfl⟩
      rw [← eS11]
      replace h := h S11 eS11
      have hk_a0 : m_kd S11 a0 = 9 := by rw [eS11]; exact hk_a0
      have hk_b3 : m_kd S11 b3 = 5 := by rw [eS11]; exact hk_b3
      have hk_b4 : m_kd S11 b4 = 7 := by rw [eS11]; exact hk_b4
      have hk_b5 : m_kd S11 b5 = 5 := by rw [eS11]; exact hk_b5
      have hk_b8 : m_kd S11 b8 = 7 := by rw [eS11]; exact hk_b8
      exact mj_retv dX10_drawCurtains_75 rfl ⟨Nat.le_of_ble_eq_true rfl, Nat.le_of_ble_eq_true rfl⟩ h
  · replace h := h.2 hc
    refine mj_aload_n dX10_drawCurtains_13 rfl rfl ?_
    obtain ⟨b12, eb12, h⟩ := h
    refine mj_getP dX10_drawCurtains_14 fl_X10_51_9 hk_a0 rfl ⟨b12, eb12, fun hk_b12 => ?_⟩
    refine mj_aload_n dX10_drawCurtains_17 rfl rfl ?_
    obtain ⟨b13, eb13, h⟩ := h
    refine mj_getP dX10_drawCurtains_18 fl_X10_41_9 hk_a0 rfl ⟨b13, eb13, fun hk_b13 => ?_⟩
    refine mj_callVi (as := []) (st := [.ref b12]) dX10_drawCurtains_21 cal_X6_allCurtains lk_X10_317 im_X6_allCurtains se_X6_allCurtains (ci := 5) rfl (by decide) hk_b13 h rfl (Nat.le_of_ble_eq_true rfl) (by decide) ⟨Nat.le_of_ble_eq_true rfl, Nat.le_of_ble_eq_true rfl⟩ (fun S14 r15 h hn_r15 hp => ?_)
    have hk_a0 : m_kd S14 a0 = 9 := m_kd_pre hp hk_a0 (by decide)
    have hk_b12 : m_kd S14 b12 = 7 := m_kd_pre hp hk_b12 (by decide)
    have hk_b13 : m_kd S14 b13 = 5 := m_kd_pre hp hk_b13 (by decide)
    refine mj_putI dX10_drawCurtains_24 fl_X10_187_7 hk_b12 (Or.inl rfl) rfl rfl rfl ?_
    obtain ⟨S16, eS16⟩ : ∃ z, z = m_si S14 b12 3 r15 := ⟨_, rfl⟩
    rw [← eS16]
    replace h := h S16 eS16
    have hk_a0 : m_kd S16 a0 = 9 := by rw [eS16]; exact hk_a0
    have hk_b12 : m_kd S16 b12 = 7 := by rw [eS16]; exact hk_b12
    have hk_b13 : m_kd S16 b13 = 5 := by rw [eS16]; exact hk_b13
    refine mj_goto (tgt := 75) dX10_drawCurtains_27 (by decide) ?_
    exact mj_retv dX10_drawCurtains_75 rfl ⟨Nat.le_of_ble_eq_true rfl, Nat.le_of_ble_eq_true rfl⟩ h
abbrev V_X10_drawPerson_0 (l : Launch) (G : mj_G) (a0 : Nat) (S : mj_S) (Q : mj_S → Prop) : Prop := mj_V l G (mj_room 4 0 0) RX10 cX10_drawPerson 3 none false 0 [some (.ref a0), none, none] [] S 0 0 (mj_std G none (mj_room 4 0 0) (mj_qv Q))
theorem e_X10_drawPerson {l : Launch} {G : mj_G} {a0 : Nat} {S : mj_S} {Q : mj_S → Prop} (h : V_X10_drawPerson_0 l G a0 S Q) : M_X10_drawPerson l G a0 S Q := mj_enter (r := 2) (ini := false) (by decide +kernel) (fun h => by cases h) (fun _ => Nat.le_of_ble_eq_true rfl) rfl h
set_option maxRecDepth 20000 in
set_option maxHeartbeats 1000000 in
theorem b_X10_drawPerson_0 {l : Launch} {G : mj_G} {a0 : Nat} {S : mj_S} {Q : mj_S → Prop} (hk_a0 : m_kd S a0 = 9) (h : ∃ b1, m_gp S a0 5 = some b1 ∧ (M_X10_draw l G a0 (m_gi S b1 15) S (fun S2 r3 => ∃ b4, m_gp S2 a0 5 = some b4 ∧ (M_X10_draw l G a0 (m_gi S2 b4 4) S2 (fun S5 r6 => M_X10_isPerson l G a0 r3 S5 (fun S7 r8 => ((r8 = 0) → Q S7) ∧ ((¬ (r8 = 0)) → ∃ b9, m_gp S7 a0 7 = some b9 ∧ (∃ b10, m_gp S7 b9 2 = some b10 ∧ (vp_in r3 (m_ln S7 b10) ∧ (M_X10_stateAround l G a0 (m_gi S7 b10 (r3).toNatClampNeg) S7 (fun S11 r12 => M_X10_has l G r12 r6 S11 (fun S13 r14 => ((r14 = 0) → Q S13) ∧ ((¬ (r14 = 0)) → ∃ b15, m_gp S13 a0 7 = some b15 ∧ (∃ b16, m_gp S13 b15 2 = some b16 ∧ (vp_in r3 (m_ln S13 b16) ∧ (∀ S17 : mj_S, S17 = m_si S13 b16 (r3).toNatClampNeg r6 → Q S17)))))))))))))))) : V_X10_drawPerson_0 l G a0 S Q := by
  refine mj_aload_n dX10_drawPerson_0 rfl rfl ?_
  refine mj_aload_n dX10_drawPerson_1 rfl rfl ?_
  obtain ⟨b1, eb1, h⟩ := h
  refine mj_getP dX10_drawPerson_2 fl_X10_41_9 hk_a0 rfl ⟨b1, eb1, fun hk_b1 => ?_⟩
  refine mj_getI dX10_drawPerson_5 fl_X10_149_5 hk_b1 rfl ?_
  refine mj_callVi (as := [.int (m_gi S b1 15)]) (st := []) dX10_drawPerson_8 cal_X10_draw lk_X10_314 im_X10_draw se_X10_draw (ci := 9) rfl (by decide) hk_a0 h rfl (Nat.le_of_ble_eq_true rfl) (by decide) ⟨Nat.le_of_ble_eq_true rfl, Nat.le_of_ble_eq_true rfl⟩ (fun S2 r3 h hn_r3 hp => ?_)
  have hk_a0 : m_kd S2 a0 = 9 := m_kd_pre hp hk_a0 (by decide)
  have hk_b1 : m_kd S2 b1 = 5 := m_kd_pre hp hk_b1 (by decide)
  refine mj_istore_n dX10_drawPerson_11 rfl (by decide) rfl rfl ?_
  refine mj_aload_n dX10_drawPerson_12 rfl rfl ?_
  refine mj_aload_n dX10_drawPerson_13 rfl rfl ?_
  obtain ⟨b4, eb4, h⟩ := h
  refine mj_getP dX10_drawPerson_14 fl_X10_41_9 hk_a0 rfl ⟨b4, eb4, fun hk_b4 => ?_⟩
  refine mj_getI dX10_drawPerson_17 fl_X10_143_5 hk_b4 rfl ?_
  refine mj_callVi (as := [.int (m_gi S2 b4 4)]) (st := []) dX10_drawPerson_20 cal_X10_draw lk_X10_314 im_X10_draw se_X10_draw (ci := 9) rfl (by decide) hk_a0 h rfl (Nat.le_of_ble_eq_true rfl) (by decide) ⟨Nat.le_of_ble_eq_true rfl, Nat.le_of_ble_eq_true rfl⟩ (fun S5 r6 h hn_r6 hp => ?_)
  have hk_a0 : m_kd S5 a0 = 9 := m_kd_pre hp hk_a0 (by decide)
  have hk_b1 : m_kd S5 b1 = 5 := m_kd_pre hp hk_b1 (by decide)
  have hk_b4 : m_kd S5 b4 = 5 := m_kd_pre hp hk_b4 (by decide)
  refine mj_istore_n dX10_drawPerson_23 rfl (by decide) rfl rfl ?_
  refine mj_aload_n dX10_drawPerson_24 rfl rfl ?_
  refine mj_iload_n dX10_drawPerson_25 rfl rfl ?_
  refine mj_callVi (as := [.int r3]) (st := []) dX10_drawPerson_26 cal_X10_isPerson lk_X10_201 im_X10_isPerson se_X10_isPerson (ci := 9) rfl (by decide) hk_a0 h rfl (Nat.le_of_ble_eq_true rfl) (by decide) ⟨Nat.le_of_ble_eq_true rfl, Nat.le_of_ble_eq_true rfl⟩ (fun S7 r8 h hn_r8 hp => ?_)
  have hk_a0 : m_kd S7 a0 = 9 := m_kd_pre hp hk_a0 (by decide)
  have hk_b1 : m_kd S7 b1 = 5 := m_kd_pre hp hk_b1 (by decide)
  have hk_b4 : m_kd S7 b4 = 5 := m_kd_pre hp hk_b4 (by decide)
  refine mj_if_eq (tgt := 62) dX10_drawPerson_29 (by decide) ⟨fun hc => ?_, fun hc => ?_⟩
  · replace h := h.1 hc
    exact mj_retv dX10_drawPerson_62 rfl ⟨Nat.le_of_ble_eq_true rfl, Nat.le_of_ble_eq_true rfl⟩ h
  · replace h := h.2 hc
    refine mj_aload_n dX10_drawPerson_32 rfl rfl ?_
    refine mj_aload_n dX10_drawPerson_33 rfl rfl ?_
    obtain ⟨b9, eb9, h⟩ := h
    refine mj_getP dX10_drawPerson_34 fl_X10_51_9 hk_a0 rfl ⟨b9, eb9, fun hk_b9 => ?_⟩
    obtain ⟨b10, eb10, h⟩ := h
    refine mj_getP dX10_drawPerson_37 fl_X10_211_7 hk_b9 rfl ⟨b10, eb10, fun hk_b10 => ?_⟩
    refine mj_iload_n dX10_drawPerson_40 rfl rfl ?_
    refine mj_iald dX10_drawPerson_41 (Or.inl hk_b10) ⟨h.1, ?_⟩
    replace h := h.2
    refine mj_callVi (as := [.int (m_gi S7 b10 (r3).toNatClampNeg)]) (st := []) dX10_drawPerson_42 cal_X10_stateAround lk_X10_217 im_X10_stateAround se_X10_stateAround (ci := 9) rfl (by decide) hk_a0 h rfl (Nat.le_of_ble_eq_true rfl) (by decide) ⟨Nat.le_of_ble_eq_true rfl, Nat.le_of_ble_eq_true rfl⟩ (fun S11 r12 h hn_r12 hp => ?_)
    have hk_a0 : m_kd S11 a0 = 9 := m_kd_pre hp hk_a0 (by decide)
    have hk_b1 : m_kd S11 b1 = 5 := m_kd_pre hp hk_b1 (by decide)
    have hk_b4 : m_kd S11 b4 = 5 := m_kd_pre hp hk_b4 (by decide)
    have hk_b9 : m_kd S11 b9 = 7 := m_kd_pre hp hk_b9 (by decide)
    have hk_b10 : m_kd S11 b10 = 100 := m_kd_pre hp hk_b10 (by decide)
    refine mj_iload_n dX10_drawPerson_45 rfl rfl ?_
    refine mj_callSi (as := [.int r12, .int r6]) (st := []) dX10_drawPerson_46 cal_X10_has lk_X10_190 sm_X10_has h rfl (Nat.le_of_ble_eq_true rfl) (by decide) ⟨Nat.le_of_ble_eq_true rfl, Nat.le_of_ble_eq_true rfl⟩ (fun S13 r14 h hn_r14 hp => ?_)
    have hk_a0 : m_kd S13 a0 = 9 := m_kd_pre hp hk_a0 (by decide)
    have hk_b1 : m_kd S13 b1 = 5 := m_kd_pre hp hk_b1 (by decide)
    have hk_b4 : m_kd S13 b4 = 5 := m_kd_pre hp hk_b4 (by decide)
    have hk_b9 : m_kd S13 b9 = 7 := m_kd_pre hp hk_b9 (by decide)
    have hk_b10 : m_kd S13 b10 = 100 := m_kd_pre hp hk_b10 (by decide)
    refine mj_if_eq (tgt := 62) dX10_drawPerson_49 (by decide) ⟨fun hc => ?_, fun hc => ?_⟩
    · replace h := h.1 hc
      exact mj_retv dX10_drawPerson_62 rfl ⟨Nat.le_of_ble_eq_true rfl, Nat.le_of_ble_eq_true rfl⟩ h
    · replace h := h.2 hc
      refine mj_aload_n dX10_drawPerson_52 rfl rfl ?_
      obtain ⟨b15, eb15, h⟩ := h
      refine mj_getP dX10_drawPerson_53 fl_X10_51_9 hk_a0 rfl ⟨b15, eb15, fun hk_b15 => ?_⟩
      obtain ⟨b16, eb16, h⟩ := h
      refine mj_getP dX10_drawPerson_56 fl_X10_211_7 hk_b15 rfl ⟨b16, eb16, fun hk_b16 => ?_⟩
      refine mj_iload_n dX10_drawPerson_59 rfl rfl ?_
      refine mj_iload_n dX10_drawPerson_60 rfl rfl ?_
      refine mj_iast dX10_drawPerson_61 hk_b16 ⟨h.1, ?_⟩
      replace h := h.2
      obtain ⟨S17, eS17⟩ : ∃ z, z = m_si S13 b16 (r3).toNatClampNeg r6 := ⟨_, rfl⟩
      rw [← eS17]
      replace h := h S17 eS17
      have hk_a0 : m_kd S17 a0 = 9 := by rw [eS17]; exact hk_a0
      have hk_b1 : m_kd S17 b1 = 5 := by rw [eS17]; exact hk_b1
      have hk_b4 : m_kd S17 b4 = 5 := by rw [eS17]; exact hk_b4
      have hk_b9 : m_kd S17 b9 = 7 := by rw [eS17]; exact hk_b9
      have hk_b10 : m_kd S17 b10 = 100 := by rw [eS17]; exact hk_b10
      have hk_b15 : m_kd S17 b15 = 7 := by rw [eS17]; exact hk_b15
      have hk_b16 : m_kd S17 b16 = 100 := by rw [eS17]; exact hk_b16
      exact mj_retv dX10_drawPerson_62 rfl ⟨Nat.le_of_ble_eq_true rfl, Nat.le_of_ble_eq_true rfl⟩ h
abbrev V_X10_status_0 (l : Launch) (G : mj_G) (a0 : Nat) (x1 : Int32) (S : mj_S) (Q : mj_S → Int32 → Prop) : Prop := mj_V l G (mj_room 2 0 0) RX10 cX10_status 2 (some .int) false 0 [some (.ref a0), some (.int x1)] [] S 0 0 (mj_std G (some .int) (mj_room 2 0 0) (mj_qi Q))
theorem e_X10_status {l : Launch} {G : mj_G} {a0 : Nat} {x1 : Int32} {S : mj_S} {Q : mj_S → Int32 → Prop} (h : V_X10_status_0 l G a0 x1 S Q) : M_X10_status l G a0 x1 S Q := mj_enter (r := 0) (ini := false) (by decide +kernel) (fun h => by cases h) (fun _ => Nat.le_of_ble_eq_true rfl) rfl h
set_option maxRecDepth 20000 in
set_option maxHeartbeats 1000000 in
theorem b_X10_status_0 {l : Launch} {G : mj_G} {a0 : Nat} {x1 : Int32} {S : mj_S} {Q : mj_S → Int32 → Prop} (hk_a0 : m_kd S a0 = 9) (h : M_X10_within l G x1 (0 : Int32) (4 : Int32) S (fun S1 r2 => ((r2 = 0) → Q S1 (-1 : Int32)) ∧ ((¬ (r2 = 0)) → ∃ b3, m_gp S1 a0 13 = some b3 ∧ (vp_in x1 (m_ln S1 b3) ∧ (Q S1 (m_gi S1 b3 (x1).toNatClampNeg)))))) : V_X10_status_0 l G a0 x1 S Q := by
  refine mj_iload_n dX10_status_0 rfl rfl ?_
  refine mj_iconst (v := 0) dX10_status_1 (by decide) ?_
  refine mj_iconst (v := 4) dX10_status_2 (by decide) ?_
  refine mj_callSi (as := [.int x1, .int (0 : Int32), .int (4 : Int32)]) (st := []) dX10_status_3 cal_X10_within lk_X10_204 sm_X10_within h rfl (Nat.le_of_ble_eq_true rfl) (by decide) ⟨Nat.le_of_ble_eq_true rfl, Nat.le_of_ble_eq_true rfl⟩ (fun S1 r2 h hn_r2 hp => ?_)
  have hk_a0 : m_kd S1 a0 = 9 := m_kd_pre hp hk_a0 (by decide)
  refine mj_if_eq (tgt := 18) dX10_status_6 (by decide) ⟨fun hc => ?_, fun hc => ?_⟩
  · replace h := h.1 hc
    refine mj_iconst (v := (-1)) dX10_status_18 (by decide) ?_
    exact mj_reti dX10_status_19 rfl ⟨Nat.le_of_ble_eq_true rfl, Nat.le_of_ble_eq_true rfl⟩ h
  · replace h := h.2 hc
    refine mj_aload_n dX10_status_9 rfl rfl ?_
    obtain ⟨b3, eb3, h⟩ := h
    refine mj_getP dX10_status_10 fl_X10_86_9 hk_a0 rfl ⟨b3, eb3, fun hk_b3 => ?_⟩
    refine mj_iload_n dX10_status_13 rfl rfl ?_
    refine mj_iald dX10_status_14 (Or.inl hk_b3) ⟨h.1, ?_⟩
    replace h := h.2
    refine mj_goto (tgt := 19) dX10_status_15 (by decide) ?_
    exact mj_reti dX10_status_19 rfl ⟨Nat.le_of_ble_eq_true rfl, Nat.le_of_ble_eq_true rfl⟩ h
abbrev V_X10_undo_0 (l : Launch) (G : mj_G) (a0 : Nat) (S : mj_S) (Q : mj_S → Int32 → Prop) : Prop := mj_V l G (mj_room 4 0 0) RX10 cX10_undo 1 (some .int) false 0 [some (.ref a0)] [] S 0 0 (mj_std G (some .int) (mj_room 4 0 0) (mj_qi Q))
theorem e_X10_undo {l : Launch} {G : mj_G} {a0 : Nat} {S : mj_S} {Q : mj_S → Int32 → Prop} (h : V_X10_undo_0 l G a0 S Q) : M_X10_undo l G a0 S Q := mj_enter (r := 0) (ini := false) (by decide +kernel) (fun h => by cases h) (fun _ => Nat.le_of_ble_eq_true rfl) rfl h
set_option maxRecDepth 20000 in
set_option maxHeartbeats 1000000 in
theorem b_X10_undo_0 {l : Launch} {G : mj_G} {a0 : Nat} {S : mj_S} {Q : mj_S → Int32 → Prop} (hk_a0 : m_kd S a0 = 9) (h : ∃ b1, m_gp S a0 9 = some b1 ∧ (((¬ (m_gi S b1 0) = 0) → ∃ b2, m_gp S a0 9 = some b2 ∧ (∃ b3, m_gp S a0 7 = some b3 ∧ (M_X4_recall l G b2 b3 S (fun S4 => ∃ b5, m_gp S4 a0 9 = some b5 ∧ (Q S4 (m_gi S4 b5 0)))))) ∧ (((m_gi S b1 0) = 0) → Q S (-1 : Int32)))) : V_X10_undo_0 l G a0 S Q := by
  refine mj_aload_n dX10_undo_0 rfl rfl ?_
  obtain ⟨b1, eb1, h⟩ := h
  refine mj_getP dX10_undo_1 fl_X10_61_9 hk_a0 rfl ⟨b1, eb1, fun hk_b1 => ?_⟩
  refine mj_getI dX10_undo_4 fl_X10_323_4 hk_b1 rfl ?_
  refine mj_if_ne (tgt := 12) dX10_undo_7 (by decide) ⟨fun hc => ?_, fun hc => ?_⟩
  · replace h := h.1 hc
    refine mj_aload_n dX10_undo_12 rfl rfl ?_
    obtain ⟨b2, eb2, h⟩ := h
    refine mj_getP dX10_undo_13 fl_X10_61_9 hk_a0 rfl ⟨b2, eb2, fun hk_b2 => ?_⟩
    refine mj_aload_n dX10_undo_16 rfl rfl ?_
    obtain ⟨b3, eb3, h⟩ := h
    refine mj_getP dX10_undo_17 fl_X10_51_9 hk_a0 rfl ⟨b3, eb3, fun hk_b3 => ?_⟩
    refine mj_callVv (as := [.ref b3]) (st := []) dX10_undo_20 cal_X4_recall lk_X10_326 im_X4_recall se_X4_recall (ci := 4) rfl (by decide) hk_b2 h rfl (Nat.le_of_ble_eq_true rfl) (by decide) ⟨Nat.le_of_ble_eq_true rfl, Nat.le_of_ble_eq_true rfl⟩ (fun S4 h hp => ?_)
    have hk_a0 : m_kd S4 a0 = 9 := m_kd_pre hp hk_a0 (by decide)
    have hk_b1 : m_kd S4 b1 = 4 := m_kd_pre hp hk_b1 (by decide)
    have hk_b2 : m_kd S4 b2 = 4 := m_kd_pre hp hk_b2 (by decide)
    have hk_b3 : m_kd S4 b3 = 7 := m_kd_pre hp hk_b3 (by decide)
    refine mj_aload_n dX10_undo_23 rfl rfl ?_
    obtain ⟨b5, eb5, h⟩ := h
    refine mj_getP dX10_undo_24 fl_X10_61_9 hk_a0 rfl ⟨b5, eb5, fun hk_b5 => ?_⟩
    refine mj_getI dX10_undo_27 fl_X10_323_4 hk_b5 rfl ?_
    exact mj_reti dX10_undo_30 rfl ⟨Nat.le_of_ble_eq_true rfl, Nat.le_of_ble_eq_true rfl⟩ h
  · replace h := h.2 hc
    refine mj_iconst (v := (-1)) dX10_undo_10 (by decide) ?_
    exact mj_reti dX10_undo_11 rfl ⟨Nat.le_of_ble_eq_true rfl, Nat.le_of_ble_eq_true rfl⟩ h
abbrev V_X10_logged_0 (l : Launch) (G : mj_G) (a0 : Nat) (S : mj_S) (Q : mj_S → Int32 → Prop) : Prop := mj_V l G (mj_room 2 0 0) RX10 cX10_logged 1 (some .int) false 0 [some (.ref a0)] [] S 0 0 (mj_std G (some .int) (mj_room 2 0 0) (mj_qi Q))
theorem e_X10_logged {l : Launch} {G : mj_G} {a0 : Nat} {S : mj_S} {Q : mj_S → Int32 → Prop} (h : V_X10_logged_0 l G a0 S Q) : M_X10_logged l G a0 S Q := mj_enter (r := 0) (ini := false) (by decide +kernel) (fun h => by cases h) (fun _ => Nat.le_of_ble_eq_true rfl) rfl h
set_option maxRecDepth 20000 in
set_option maxHeartbeats 1000000 in
theorem b_X10_logged_0 {l : Launch} {G : mj_G} {a0 : Nat} {S : mj_S} {Q : mj_S → Int32 → Prop} (hk_a0 : m_kd S a0 = 9) (h : ∃ b1, m_gp S a0 7 = some b1 ∧ (M_J9_min_7cf53 l G (m_gi S b1 4) (60 : Int32) S (fun S2 r3 => Q S2 r3))) : V_X10_logged_0 l G a0 S Q := by
  refine mj_aload_n dX10_logged_0 rfl rfl ?_
  obtain ⟨b1, eb1, h⟩ := h
  refine mj_getP dX10_logged_1 fl_X10_51_9 hk_a0 rfl ⟨b1, eb1, fun hk_b1 => ?_⟩
  refine mj_getI dX10_logged_4 fl_X10_287_7 hk_b1 rfl ?_
  refine mj_bipush (v := 60) dX10_logged_7 (by decide) ?_
  refine mj_callSi (as := [.int (m_gi S b1 4), .int (60 : Int32)]) (st := []) dX10_logged_9 cal_J9_min_7cf53 lk_X10_329 sm_J9_min_7cf53 h rfl (Nat.le_of_ble_eq_true rfl) (by decide) ⟨Nat.le_of_ble_eq_true rfl, Nat.le_of_ble_eq_true rfl⟩ (fun S2 r3 h hn_r3 hp => ?_)
  have hk_a0 : m_kd S2 a0 = 9 := m_kd_pre hp hk_a0 (by decide)
  have hk_b1 : m_kd S2 b1 = 7 := m_kd_pre hp hk_b1 (by decide)
  exact mj_reti dX10_logged_12 rfl ⟨Nat.le_of_ble_eq_true rfl, Nat.le_of_ble_eq_true rfl⟩ h
abbrev V_X10_log_0 (l : Launch) (G : mj_G) (a0 : Nat) (x1 : Int32) (x2 : Int32) (S : mj_S) (Q : mj_S → Int32 → Prop) : Prop := mj_V l G (mj_room 4 0 0) RX10 cX10_log 3 (some .int) false 0 [some (.ref a0), some (.int x1), some (.int x2)] [] S 0 0 (mj_std G (some .int) (mj_room 4 0 0) (mj_qi Q))
theorem e_X10_log {l : Launch} {G : mj_G} {a0 : Nat} {x1 : Int32} {x2 : Int32} {S : mj_S} {Q : mj_S → Int32 → Prop} (h : V_X10_log_0 l G a0 x1 x2 S Q) : M_X10_log l G a0 x1 x2 S Q := mj_enter (r := 0) (ini := false) (by decide +kernel) (fun h => by cases h) (fun _ => Nat.le_of_ble_eq_true rfl) rfl h
set_option maxRecDepth 20000 in
set_option maxHeartbeats 1000000 in
theorem b_X10_log_0 {l : Launch} {G : mj_G} {a0 : Nat} {x1 : Int32} {x2 : Int32} {S : mj_S} {Q : mj_S → Int32 → Prop} (hk_a0 : m_kd S a0 = 9) (h : M_X10_logged l G a0 S (fun S1 r2 => M_X10_within l G x1 (0 : Int32) (r2 - (1 : Int32)) S1 (fun S3 r4 => ((r4 = 0) → Q S3 (-1 : Int32)) ∧ ((¬ (r4 = 0)) → M_X10_within l G x2 (0 : Int32) (2 : Int32) S3 (fun S5 r6 => ((¬ r6 = 0) → ∃ b7, m_gp S5 a0 9 = some b7 ∧ (∃ b8, m_gp S5 a0 7 = some b8 ∧ (M_X4_noted l G b7 ((m_gi S5 b8 4) - x1) x2 S5 (fun S9 r10 => Q S9 r10)))) ∧ ((r6 = 0) → Q S5 (-1 : Int32))))))) : V_X10_log_0 l G a0 x1 x2 S Q := by
  refine mj_iload_n dX10_log_0 rfl rfl ?_
  refine mj_iconst (v := 0) dX10_log_1 (by decide) ?_
  refine mj_aload_n dX10_log_2 rfl rfl ?_
  refine mj_callVi (as := []) (st := [.int (0 : Int32), .int x1]) dX10_log_3 cal_X10_logged lk_X10_335 im_X10_logged se_X10_logged (ci := 9) rfl (by decide) hk_a0 h rfl (Nat.le_of_ble_eq_true rfl) (by decide) ⟨Nat.le_of_ble_eq_true rfl, Nat.le_of_ble_eq_true rfl⟩ (fun S1 r2 h hn_r2 hp => ?_)
  have hk_a0 : m_kd S1 a0 = 9 := m_kd_pre hp hk_a0 (by decide)
  refine mj_iconst (v := 1) dX10_log_6 (by decide) ?_
  refine mj_isub dX10_log_7 ?_
  refine mj_callSi (as := [.int x1, .int (0 : Int32), .int (r2 - (1 : Int32))]) (st := []) dX10_log_8 cal_X10_within lk_X10_204 sm_X10_within h rfl (Nat.le_of_ble_eq_true rfl) (by decide) ⟨Nat.le_of_ble_eq_true rfl, Nat.le_of_ble_eq_true rfl⟩ (fun S3 r4 h hn_r4 hp => ?_)
  have hk_a0 : m_kd S3 a0 = 9 := m_kd_pre hp hk_a0 (by decide)
  refine mj_if_eq (tgt := 23) dX10_log_11 (by decide) ⟨fun hc => ?_, fun hc => ?_⟩
  · replace h := h.1 hc
    refine mj_iconst (v := (-1)) dX10_log_23 (by decide) ?_
    exact mj_reti dX10_log_24 rfl ⟨Nat.le_of_ble_eq_true rfl, Nat.le_of_ble_eq_true rfl⟩ h
  · replace h := h.2 hc
    refine mj_iload_n dX10_log_14 rfl rfl ?_
    refine mj_iconst (v := 0) dX10_log_15 (by decide) ?_
    refine mj_iconst (v := 2) dX10_log_16 (by decide) ?_
    refine mj_callSi (as := [.int x2, .int (0 : Int32), .int (2 : Int32)]) (st := []) dX10_log_17 cal_X10_within lk_X10_204 sm_X10_within h rfl (Nat.le_of_ble_eq_true rfl) (by decide) ⟨Nat.le_of_ble_eq_true rfl, Nat.le_of_ble_eq_true rfl⟩ (fun S5 r6 h hn_r6 hp => ?_)
    have hk_a0 : m_kd S5 a0 = 9 := m_kd_pre hp hk_a0 (by decide)
    refine mj_if_ne (tgt := 25) dX10_log_20 (by decide) ⟨fun hc => ?_, fun hc => ?_⟩
    · replace h := h.1 hc
      refine mj_aload_n dX10_log_25 rfl rfl ?_
      obtain ⟨b7, eb7, h⟩ := h
      refine mj_getP dX10_log_26 fl_X10_61_9 hk_a0 rfl ⟨b7, eb7, fun hk_b7 => ?_⟩
      refine mj_aload_n dX10_log_29 rfl rfl ?_
      obtain ⟨b8, eb8, h⟩ := h
      refine mj_getP dX10_log_30 fl_X10_51_9 hk_a0 rfl ⟨b8, eb8, fun hk_b8 => ?_⟩
      refine mj_getI dX10_log_33 fl_X10_287_7 hk_b8 rfl ?_
      refine mj_iload_n dX10_log_36 rfl rfl ?_
      refine mj_isub dX10_log_37 ?_
      refine mj_iload_n dX10_log_38 rfl rfl ?_
      refine mj_callVi (as := [.int ((m_gi S5 b8 4) - x1), .int x2]) (st := []) dX10_log_39 cal_X4_noted lk_X10_338 im_X4_noted se_X4_noted (ci := 4) rfl (by decide) hk_b7 h rfl (Nat.le_of_ble_eq_true rfl) (by decide) ⟨Nat.le_of_ble_eq_true rfl, Nat.le_of_ble_eq_true rfl⟩ (fun S9 r10 h hn_r10 hp => ?_)
      have hk_a0 : m_kd S9 a0 = 9 := m_kd_pre hp hk_a0 (by decide)
      have hk_b7 : m_kd S9 b7 = 4 := m_kd_pre hp hk_b7 (by decide)
      have hk_b8 : m_kd S9 b8 = 7 := m_kd_pre hp hk_b8 (by decide)
      exact mj_reti dX10_log_42 rfl ⟨Nat.le_of_ble_eq_true rfl, Nat.le_of_ble_eq_true rfl⟩ h
    · replace h := h.2 hc
      refine mj_iconst (v := (-1)) dX10_log_23 (by decide) ?_
      exact mj_reti dX10_log_24 rfl ⟨Nat.le_of_ble_eq_true rfl, Nat.le_of_ble_eq_true rfl⟩ h
abbrev V_X10_areSquares_0 (l : Launch) (G : mj_G) (a0 : Nat) (x1 : Int32) (S : mj_S) (Q : mj_S → Int32 → Prop) : Prop := mj_V l G (mj_room 2 0 0) RX10 cX10_areSquares 2 (some .boolean) false 0 [some (.ref a0), some (.int x1)] [] S 0 0 (mj_std G (some .boolean) (mj_room 2 0 0) (mj_qi Q))
theorem e_X10_areSquares {l : Launch} {G : mj_G} {a0 : Nat} {x1 : Int32} {S : mj_S} {Q : mj_S → Int32 → Prop} (h : V_X10_areSquares_0 l G a0 x1 S Q) : M_X10_areSquares l G a0 x1 S Q := mj_enter (r := 0) (ini := false) (by decide +kernel) (fun h => by cases h) (fun _ => Nat.le_of_ble_eq_true rfl) rfl h
set_option maxRecDepth 20000 in
set_option maxHeartbeats 1000000 in
theorem b_X10_areSquares_0 {l : Launch} {G : mj_G} {a0 : Nat} {x1 : Int32} {S : mj_S} {Q : mj_S → Int32 → Prop} (hk_a0 : m_kd S a0 = 9) (h : ∃ b1, m_gp S a0 5 = some b1 ∧ (M_X6_allSquares l G b1 S (fun S2 r3 => ((¬ (x1 &&& (r3 ^^^ (-1 : Int32))) = 0) → Q S2 (0 : Int32)) ∧ (((x1 &&& (r3 ^^^ (-1 : Int32))) = 0) → Q S2 (1 : Int32))))) : V_X10_areSquares_0 l G a0 x1 S Q := by
  refine mj_iload_n dX10_areSquares_0 rfl rfl ?_
  refine mj_aload_n dX10_areSquares_1 rfl rfl ?_
  obtain ⟨b1, eb1, h⟩ := h
  refine mj_getP dX10_areSquares_2 fl_X10_41_9 hk_a0 rfl ⟨b1, eb1, fun hk_b1 => ?_⟩
  refine mj_callVi (as := []) (st := [.int x1]) dX10_areSquares_5 cal_X6_allSquares lk_X10_241 im_X6_allSquares se_X6_allSquares (ci := 5) rfl (by decide) hk_b1 h rfl (Nat.le_of_ble_eq_true rfl) (by decide) ⟨Nat.le_of_ble_eq_true rfl, Nat.le_of_ble_eq_true rfl⟩ (fun S2 r3 h hn_r3 hp => ?_)
  have hk_a0 : m_kd S2 a0 = 9 := m_kd_pre hp hk_a0 (by decide)
  have hk_b1 : m_kd S2 b1 = 5 := m_kd_pre hp hk_b1 (by decide)
  refine mj_iconst (v := (-1)) dX10_areSquares_8 (by decide) ?_
  refine mj_ixor dX10_areSquares_9 ?_
  refine mj_iand dX10_areSquares_10 ?_
  refine mj_if_ne (tgt := 18) dX10_areSquares_11 (by decide) ⟨fun hc => ?_, fun hc => ?_⟩
  · replace h := h.1 hc
    refine mj_iconst (v := 0) dX10_areSquares_18 (by decide) ?_
    exact mj_retz dX10_areSquares_19 rfl (rfl) ⟨Nat.le_of_ble_eq_true rfl, Nat.le_of_ble_eq_true rfl⟩ h
  · replace h := h.2 hc
    refine mj_iconst (v := 1) dX10_areSquares_14 (by decide) ?_
    refine mj_goto (tgt := 19) dX10_areSquares_15 (by decide) ?_
    exact mj_retz dX10_areSquares_19 rfl (rfl) ⟨Nat.le_of_ble_eq_true rfl, Nat.le_of_ble_eq_true rfl⟩ h
abbrev V_X10_join_0 (l : Launch) (G : mj_G) (a0 : Nat) (x1 : Int32) (x2 : Int32) (S : mj_S) (Q : mj_S → Int32 → Prop) : Prop := mj_V l G (mj_room 3 0 0) RX10 cX10_join 8 (some .int) false 0 [some (.ref a0), some (.int x1), some (.int x2), none, none, none, none, none] [] S 0 0 (mj_std G (some .int) (mj_room 3 0 0) (mj_qi Q))
abbrev V_X10_join_52 (l : Launch) (G : mj_G) (a0 : Nat) (x1 : Int32) (x2 : Int32) (x3 : Int32) (x4 : Int32) (x5 : Int32) (x6 : Int32) (S : mj_S) (Q : mj_S → Int32 → Prop) : Prop := mj_V l G (mj_room 3 0 0) RX10 cX10_join 8 (some .int) false 52 [some (.ref a0), some (.int x1), some (.int x2), some (.int x3), some (.int x4), some (.int x5), some (.int x6), none] [] S 0 0 (mj_std G (some .int) (mj_room 3 0 0) (mj_qi Q))
abbrev V_X10_join_94 (l : Launch) (G : mj_G) (a0 : Nat) (x1 : Int32) (x2 : Int32) (x3 : Int32) (x4 : Int32) (x5 : Int32) (x6 : Int32) (S : mj_S) (Q : mj_S → Int32 → Prop) : Prop := mj_V l G (mj_room 3 0 0) RX10 cX10_join 8 (some .int) false 94 [some (.ref a0), some (.int x1), some (.int x2), some (.int x3), some (.int x4), some (.int x5), some (.int x6), none] [] S 0 0 (mj_std G (some .int) (mj_room 3 0 0) (mj_qi Q))
theorem e_X10_join {l : Launch} {G : mj_G} {a0 : Nat} {x1 : Int32} {x2 : Int32} {S : mj_S} {Q : mj_S → Int32 → Prop} (h : V_X10_join_0 l G a0 x1 x2 S Q) : M_X10_join l G a0 x1 x2 S Q := mj_enter (r := 5) (ini := false) (by decide +kernel) (fun h => by cases h) (fun _ => Nat.le_of_ble_eq_true rfl) rfl h
set_option maxRecDepth 20000 in
set_option maxHeartbeats 1000000 in
theorem b_X10_join_0 {l : Launch} {G : mj_G} {a0 : Nat} {x1 : Int32} {x2 : Int32} {S : mj_S} {Q : mj_S → Int32 → Prop} (hk_a0 : m_kd S a0 = 9) (h : M_X10_hasRoom l G a0 S (fun S1 r2 => ((r2 = 0) → Q S1 (-1 : Int32)) ∧ ((¬ (r2 = 0)) → M_X10_areSquares l G a0 x1 S1 (fun S3 r4 => ((r4 = 0) → Q S3 (-1 : Int32)) ∧ ((¬ (r4 = 0)) → M_X10_areSquares l G a0 x2 S3 (fun S5 r6 => ((r6 = 0) → Q S5 (-1 : Int32)) ∧ ((¬ (r6 = 0)) → ((¬ x1 = 0) → ∃ b7, m_gp S5 a0 7 = some b7 ∧ (M_X8_hung l G b7 S5 (fun S8 r9 => ∃ b10, m_gp S8 a0 7 = some b10 ∧ (M_X8_fallen l G b10 S8 (fun S11 r12 => V_X10_join_52 l G a0 x1 x2 r9 r12 (-1 : Int32) (0 : Int32) S11 Q))))) ∧ ((x1 = 0) → Q S5 (-1 : Int32))))))))) : V_X10_join_0 l G a0 x1 x2 S Q := by
  refine mj_aload_n dX10_join_0 rfl rfl ?_
  refine mj_callVi (as := []) (st := []) dX10_join_1 cal_X10_hasRoom lk_X10_152 im_X10_hasRoom se_X10_hasRoom (ci := 9) rfl (by decide) hk_a0 h rfl (Nat.le_of_ble_eq_true rfl) (by decide) ⟨Nat.le_of_ble_eq_true rfl, Nat.le_of_ble_eq_true rfl⟩ (fun S1 r2 h hn_r2 hp => ?_)
  have hk_a0 : m_kd S1 a0 = 9 := m_kd_pre hp hk_a0 (by decide)
  refine mj_if_eq (tgt := 27) dX10_join_4 (by decide) ⟨fun hc => ?_, fun hc => ?_⟩
  · replace h := h.1 hc
    refine mj_iconst (v := (-1)) dX10_join_27 (by decide) ?_
    exact mj_reti dX10_join_28 rfl ⟨Nat.le_of_ble_eq_true rfl, Nat.le_of_ble_eq_true rfl⟩ h
  · replace h := h.2 hc
    refine mj_aload_n dX10_join_7 rfl rfl ?_
    refine mj_iload_n dX10_join_8 rfl rfl ?_
    refine mj_callVi (as := [.int x1]) (st := []) dX10_join_9 cal_X10_areSquares lk_X10_341 im_X10_areSquares se_X10_areSquares (ci := 9) rfl (by decide) hk_a0 h rfl (Nat.le_of_ble_eq_true rfl) (by decide) ⟨Nat.le_of_ble_eq_true rfl, Nat.le_of_ble_eq_true rfl⟩ (fun S3 r4 h hn_r4 hp => ?_)
    have hk_a0 : m_kd S3 a0 = 9 := m_kd_pre hp hk_a0 (by decide)
    refine mj_if_eq (tgt := 27) dX10_join_12 (by decide) ⟨fun hc => ?_, fun hc => ?_⟩
    · replace h := h.1 hc
      refine mj_iconst (v := (-1)) dX10_join_27 (by decide) ?_
      exact mj_reti dX10_join_28 rfl ⟨Nat.le_of_ble_eq_true rfl, Nat.le_of_ble_eq_true rfl⟩ h
    · replace h := h.2 hc
      refine mj_aload_n dX10_join_15 rfl rfl ?_
      refine mj_iload_n dX10_join_16 rfl rfl ?_
      refine mj_callVi (as := [.int x2]) (st := []) dX10_join_17 cal_X10_areSquares lk_X10_341 im_X10_areSquares se_X10_areSquares (ci := 9) rfl (by decide) hk_a0 h rfl (Nat.le_of_ble_eq_true rfl) (by decide) ⟨Nat.le_of_ble_eq_true rfl, Nat.le_of_ble_eq_true rfl⟩ (fun S5 r6 h hn_r6 hp => ?_)
      have hk_a0 : m_kd S5 a0 = 9 := m_kd_pre hp hk_a0 (by decide)
      refine mj_if_eq (tgt := 27) dX10_join_20 (by decide) ⟨fun hc => ?_, fun hc => ?_⟩
      · replace h := h.1 hc
        refine mj_iconst (v := (-1)) dX10_join_27 (by decide) ?_
        exact mj_reti dX10_join_28 rfl ⟨Nat.le_of_ble_eq_true rfl, Nat.le_of_ble_eq_true rfl⟩ h
      · replace h := h.2 hc
        refine mj_iload_n dX10_join_23 rfl rfl ?_
        refine mj_if_ne (tgt := 29) dX10_join_24 (by decide) ⟨fun hc => ?_, fun hc => ?_⟩
        · replace h := h.1 hc
          refine mj_aload_n dX10_join_29 rfl rfl ?_
          obtain ⟨b7, eb7, h⟩ := h
          refine mj_getP dX10_join_30 fl_X10_51_9 hk_a0 rfl ⟨b7, eb7, fun hk_b7 => ?_⟩
          refine mj_callVi (as := []) (st := []) dX10_join_33 cal_X8_hung lk_X10_194 im_X8_hung se_X8_hung (ci := 7) rfl (by decide) hk_b7 h rfl (Nat.le_of_ble_eq_true rfl) (by decide) ⟨Nat.le_of_ble_eq_true rfl, Nat.le_of_ble_eq_true rfl⟩ (fun S8 r9 h hn_r9 hp => ?_)
          have hk_a0 : m_kd S8 a0 = 9 := m_kd_pre hp hk_a0 (by decide)
          have hk_b7 : m_kd S8 b7 = 7 := m_kd_pre hp hk_b7 (by decide)
          refine mj_istore_n dX10_join_36 rfl (by decide) rfl rfl ?_
          refine mj_aload_n dX10_join_37 rfl rfl ?_
          obtain ⟨b10, eb10, h⟩ := h
          refine mj_getP dX10_join_38 fl_X10_51_9 hk_a0 rfl ⟨b10, eb10, fun hk_b10 => ?_⟩
          refine mj_callVi (as := []) (st := []) dX10_join_41 cal_X8_fallen lk_X10_320 im_X8_fallen se_X8_fallen (ci := 7) rfl (by decide) hk_b10 h rfl (Nat.le_of_ble_eq_true rfl) (by decide) ⟨Nat.le_of_ble_eq_true rfl, Nat.le_of_ble_eq_true rfl⟩ (fun S11 r12 h hn_r12 hp => ?_)
          have hk_a0 : m_kd S11 a0 = 9 := m_kd_pre hp hk_a0 (by decide)
          have hk_b7 : m_kd S11 b7 = 7 := m_kd_pre hp hk_b7 (by decide)
          have hk_b10 : m_kd S11 b10 = 7 := m_kd_pre hp hk_b10 (by decide)
          refine mj_istore dX10_join_44 (by decide) rfl rfl ?_
          refine mj_iconst (v := (-1)) dX10_join_46 (by decide) ?_
          refine mj_istore dX10_join_47 (by decide) rfl rfl ?_
          refine mj_iconst (v := 0) dX10_join_49 (by decide) ?_
          refine mj_istore dX10_join_50 (by decide) rfl rfl ?_
          exact h
        · replace h := h.2 hc
          refine mj_iconst (v := (-1)) dX10_join_27 (by decide) ?_
          exact mj_reti dX10_join_28 rfl ⟨Nat.le_of_ble_eq_true rfl, Nat.le_of_ble_eq_true rfl⟩ h
set_option maxRecDepth 20000 in
set_option maxHeartbeats 1000000 in
theorem b_X10_join_52 {l : Launch} {G : mj_G} {a0 : Nat} {x1 : Int32} {x2 : Int32} {x3 : Int32} {x4 : Int32} {x5 : Int32} {x6 : Int32} {S : mj_S} {Q : mj_S → Int32 → Prop} (hk_a0 : m_kd S a0 = 9) (h : ∃ b1, m_gp S a0 5 = some b1 ∧ (M_X6_allCurtains l G b1 S (fun S2 r3 => ((r3 < x6) → Q S2 x5) ∧ ((¬ (r3 < x6)) → ((¬ (x6 &&& x4) = 0) → ∀ v4 : Int32, v4 = x6 + (1 : Int32) → V_X10_join_52 l G a0 x1 x2 x3 x4 x5 v4 S2 Q) ∧ (((x6 &&& x4) = 0) → ((x5 = (-1 : Int32)) → V_X10_join_94 l G a0 x1 x2 x3 x4 x5 x6 S2 Q) ∧ ((¬ (x5 = (-1 : Int32))) → M_J6_bitCount_0f7a4 l G x6 S2 (fun S5 r6 => M_J6_bitCount_0f7a4 l G x5 S5 (fun S7 r8 => ((r6 < r8) → V_X10_join_94 l G a0 x1 x2 x3 x4 x5 x6 S7 Q) ∧ ((¬ (r6 < r8)) → ∀ v9 : Int32, v9 = x6 + (1 : Int32) → V_X10_join_52 l G a0 x1 x2 x3 x4 x5 v9 S7 Q))))))))) : V_X10_join_52 l G a0 x1 x2 x3 x4 x5 x6 S Q := by
  refine mj_iload dX10_join_52 rfl ?_
  refine mj_aload_n dX10_join_54 rfl rfl ?_
  obtain ⟨b1, eb1, h⟩ := h
  refine mj_getP dX10_join_55 fl_X10_41_9 hk_a0 rfl ⟨b1, eb1, fun hk_b1 => ?_⟩
  refine mj_callVi (as := []) (st := [.int x6]) dX10_join_58 cal_X6_allCurtains lk_X10_317 im_X6_allCurtains se_X6_allCurtains (ci := 5) rfl (by decide) hk_b1 h rfl (Nat.le_of_ble_eq_true rfl) (by decide) ⟨Nat.le_of_ble_eq_true rfl, Nat.le_of_ble_eq_true rfl⟩ (fun S2 r3 h hn_r3 hp => ?_)
  have hk_a0 : m_kd S2 a0 = 9 := m_kd_pre hp hk_a0 (by decide)
  have hk_b1 : m_kd S2 b1 = 5 := m_kd_pre hp hk_b1 (by decide)
  refine mj_icmp_gt (tgt := 148) dX10_join_61 (by decide) ⟨fun hc => ?_, fun hc => ?_⟩
  · replace h := h.1 hc
    refine mj_iload dX10_join_148 rfl ?_
    exact mj_reti dX10_join_150 rfl ⟨Nat.le_of_ble_eq_true rfl, Nat.le_of_ble_eq_true rfl⟩ h
  · replace h := h.2 hc
    refine mj_iload dX10_join_64 rfl ?_
    refine mj_iload dX10_join_66 rfl ?_
    refine mj_iand dX10_join_68 ?_
    refine mj_if_ne (tgt := 142) dX10_join_69 (by decide) ⟨fun hc => ?_, fun hc => ?_⟩
    · replace h := h.1 hc
      obtain ⟨v4, ev4⟩ : ∃ z : Int32, z = x6 + (1 : Int32) := ⟨_, rfl⟩
      refine mj_iinc (v := v4) dX10_join_142 rfl (by rw [ev4]; rfl) (by decide) rfl rfl ?_
      replace h := h v4 ev4
      refine mj_goto (tgt := 52) dX10_join_145 (by decide) ?_
      exact h
    · replace h := h.2 hc
      refine mj_iload dX10_join_72 rfl ?_
      refine mj_iconst (v := (-1)) dX10_join_74 (by decide) ?_
      refine mj_icmp_eq (tgt := 94) dX10_join_75 (by decide) ⟨fun hc => ?_, fun hc => ?_⟩
      · replace h := h.1 hc
        exact h
      · replace h := h.2 hc
        refine mj_iload dX10_join_78 rfl ?_
        refine mj_callSi (as := [.int x6]) (st := []) dX10_join_80 cal_J6_bitCount_0f7a4 lk_X10_344 sm_J6_bitCount_0f7a4 h rfl (Nat.le_of_ble_eq_true rfl) (by decide) ⟨Nat.le_of_ble_eq_true rfl, Nat.le_of_ble_eq_true rfl⟩ (fun S5 r6 h hn_r6 hp => ?_)
        have hk_a0 : m_kd S5 a0 = 9 := m_kd_pre hp hk_a0 (by decide)
        have hk_b1 : m_kd S5 b1 = 5 := m_kd_pre hp hk_b1 (by decide)
        refine mj_iload dX10_join_83 rfl ?_
        refine mj_callSi (as := [.int x5]) (st := [.int r6]) dX10_join_85 cal_J6_bitCount_0f7a4 lk_X10_344 sm_J6_bitCount_0f7a4 h rfl (Nat.le_of_ble_eq_true rfl) (by decide) ⟨Nat.le_of_ble_eq_true rfl, Nat.le_of_ble_eq_true rfl⟩ (fun S7 r8 h hn_r8 hp => ?_)
        have hk_a0 : m_kd S7 a0 = 9 := m_kd_pre hp hk_a0 (by decide)
        have hk_b1 : m_kd S7 b1 = 5 := m_kd_pre hp hk_b1 (by decide)
        refine mj_icmp_lt (tgt := 94) dX10_join_88 (by decide) ⟨fun hc => ?_, fun hc => ?_⟩
        · replace h := h.1 hc
          exact h
        · replace h := h.2 hc
          refine mj_goto (tgt := 142) dX10_join_91 (by decide) ?_
          obtain ⟨v9, ev9⟩ : ∃ z : Int32, z = x6 + (1 : Int32) := ⟨_, rfl⟩
          refine mj_iinc (v := v9) dX10_join_142 rfl (by rw [ev9]; rfl) (by decide) rfl rfl ?_
          replace h := h v9 ev9
          refine mj_goto (tgt := 52) dX10_join_145 (by decide) ?_
          exact h
set_option maxRecDepth 20000 in
set_option maxHeartbeats 1000000 in
theorem b_X10_join_94 {l : Launch} {G : mj_G} {a0 : Nat} {x1 : Int32} {x2 : Int32} {x3 : Int32} {x4 : Int32} {x5 : Int32} {x6 : Int32} {S : mj_S} {Q : mj_S → Int32 → Prop} (hk_a0 : m_kd S a0 = 9) (h : ∃ b1, m_gp S a0 10 = some b1 ∧ (∃ b2, m_gp S a0 5 = some b2 ∧ (M_X0_part l G b1 b2 (x3 ^^^ x6) S (fun S3 => ∃ b4, m_gp S3 a0 10 = some b4 ∧ (M_X0_reach l G b4 (x1 &&& (-x1)) S3 (fun S5 r6 => ((¬ (x1 &&& (r6 ^^^ (-1 : Int32))) = 0) → ∀ v7 : Int32, v7 = x6 + (1 : Int32) → V_X10_join_52 l G a0 x1 x2 x3 x4 x5 v7 S5 Q) ∧ (((x1 &&& (r6 ^^^ (-1 : Int32))) = 0) → ((¬ (x2 &&& r6) = 0) → ∀ v8 : Int32, v8 = x6 + (1 : Int32) → V_X10_join_52 l G a0 x1 x2 x3 x4 x5 v8 S5 Q) ∧ (((x2 &&& r6) = 0) → ∀ v9 : Int32, v9 = x6 + (1 : Int32) → V_X10_join_52 l G a0 x1 x2 x3 x4 x6 v9 S5 Q)))))))) : V_X10_join_94 l G a0 x1 x2 x3 x4 x5 x6 S Q := by
  refine mj_aload_n dX10_join_94 rfl rfl ?_
  obtain ⟨b1, eb1, h⟩ := h
  refine mj_getP dX10_join_95 fl_X10_68_9 hk_a0 rfl ⟨b1, eb1, fun hk_b1 => ?_⟩
  refine mj_aload_n dX10_join_98 rfl rfl ?_
  obtain ⟨b2, eb2, h⟩ := h
  refine mj_getP dX10_join_99 fl_X10_41_9 hk_a0 rfl ⟨b2, eb2, fun hk_b2 => ?_⟩
  refine mj_iload_n dX10_join_102 rfl rfl ?_
  refine mj_iload dX10_join_103 rfl ?_
  refine mj_ixor dX10_join_105 ?_
  refine mj_callVv (as := [.ref b2, .int (x3 ^^^ x6)]) (st := []) dX10_join_106 cal_X0_part lk_X10_234 im_X0_part se_X0_part (ci := 0) rfl (by decide) hk_b1 h rfl (Nat.le_of_ble_eq_true rfl) (by decide) ⟨Nat.le_of_ble_eq_true rfl, Nat.le_of_ble_eq_true rfl⟩ (fun S3 h hp => ?_)
  have hk_a0 : m_kd S3 a0 = 9 := m_kd_pre hp hk_a0 (by decide)
  have hk_b1 : m_kd S3 b1 = 0 := m_kd_pre hp hk_b1 (by decide)
  have hk_b2 : m_kd S3 b2 = 5 := m_kd_pre hp hk_b2 (by decide)
  refine mj_aload_n dX10_join_109 rfl rfl ?_
  obtain ⟨b4, eb4, h⟩ := h
  refine mj_getP dX10_join_110 fl_X10_68_9 hk_a0 rfl ⟨b4, eb4, fun hk_b4 => ?_⟩
  refine mj_iload_n dX10_join_113 rfl rfl ?_
  refine mj_iload_n dX10_join_114 rfl rfl ?_
  refine mj_ineg dX10_join_115 ?_
  refine mj_iand dX10_join_116 ?_
  refine mj_callVi (as := [.int (x1 &&& (-x1))]) (st := []) dX10_join_117 cal_X0_reach lk_X10_238 im_X0_reach se_X0_reach (ci := 0) rfl (by decide) hk_b4 h rfl (Nat.le_of_ble_eq_true rfl) (by decide) ⟨Nat.le_of_ble_eq_true rfl, Nat.le_of_ble_eq_true rfl⟩ (fun S5 r6 h hn_r6 hp => ?_)
  have hk_a0 : m_kd S5 a0 = 9 := m_kd_pre hp hk_a0 (by decide)
  have hk_b1 : m_kd S5 b1 = 0 := m_kd_pre hp hk_b1 (by decide)
  have hk_b2 : m_kd S5 b2 = 5 := m_kd_pre hp hk_b2 (by decide)
  have hk_b4 : m_kd S5 b4 = 0 := m_kd_pre hp hk_b4 (by decide)
  refine mj_istore dX10_join_120 (by decide) rfl rfl ?_
  refine mj_iload_n dX10_join_122 rfl rfl ?_
  refine mj_iload dX10_join_123 rfl ?_
  refine mj_iconst (v := (-1)) dX10_join_125 (by decide) ?_
  refine mj_ixor dX10_join_126 ?_
  refine mj_iand dX10_join_127 ?_
  refine mj_if_ne (tgt := 142) dX10_join_128 (by decide) ⟨fun hc => ?_, fun hc => ?_⟩
  · replace h := h.1 hc
    obtain ⟨v7, ev7⟩ : ∃ z : Int32, z = x6 + (1 : Int32) := ⟨_, rfl⟩
    refine mj_iinc (v := v7) dX10_join_142 rfl (by rw [ev7]; rfl) (by decide) rfl rfl ?_
    replace h := h v7 ev7
    refine mj_goto (tgt := 52) dX10_join_145 (by decide) ?_
    exact mj_lessm [true, true, true, true, true, true, true, false] rfl h
  · replace h := h.2 hc
    refine mj_iload_n dX10_join_131 rfl rfl ?_
    refine mj_iload dX10_join_132 rfl ?_
    refine mj_iand dX10_join_134 ?_
    refine mj_if_ne (tgt := 142) dX10_join_135 (by decide) ⟨fun hc => ?_, fun hc => ?_⟩
    · replace h := h.1 hc
      obtain ⟨v8, ev8⟩ : ∃ z : Int32, z = x6 + (1 : Int32) := ⟨_, rfl⟩
      refine mj_iinc (v := v8) dX10_join_142 rfl (by rw [ev8]; rfl) (by decide) rfl rfl ?_
      replace h := h v8 ev8
      refine mj_goto (tgt := 52) dX10_join_145 (by decide) ?_
      exact mj_lessm [true, true, true, true, true, true, true, false] rfl h
    · replace h := h.2 hc
      refine mj_iload dX10_join_138 rfl ?_
      refine mj_istore dX10_join_140 (by decide) rfl rfl ?_
      obtain ⟨v9, ev9⟩ : ∃ z : Int32, z = x6 + (1 : Int32) := ⟨_, rfl⟩
      refine mj_iinc (v := v9) dX10_join_142 rfl (by rw [ev9]; rfl) (by decide) rfl rfl ?_
      replace h := h v9 ev9
      refine mj_goto (tgt := 52) dX10_join_145 (by decide) ?_
      exact mj_lessm [true, true, true, true, true, true, true, false] rfl h
abbrev V_X10_hide_0 (l : Launch) (G : mj_G) (a0 : Nat) (x1 : Int32) (x2 : Int32) (x3 : Int32) (S : mj_S) (Q : mj_S → Int32 → Prop) : Prop := mj_V l G (mj_room 6 0 0) RX10 cX10_hide 8 (some .int) false 0 [some (.ref a0), some (.int x1), some (.int x2), some (.int x3), none, none, none, none] [] S 0 0 (mj_std G (some .int) (mj_room 6 0 0) (mj_qi Q))
abbrev V_X10_hide_90 (l : Launch) (G : mj_G) (a0 : Nat) (x1 : Int32) (x2 : Int32) (x3 : Int32) (x4 : Int32) (x5 : Int32) (x6 : Int32) (x7 : Int32) (S : mj_S) (Q : mj_S → Int32 → Prop) : Prop := mj_V l G (mj_room 6 0 0) RX10 cX10_hide 8 (some .int) false 90 [some (.ref a0), some (.int x1), some (.int x2), some (.int x3), some (.int x4), some (.int x5), some (.int x6), some (.int x7)] [] S 0 0 (mj_std G (some .int) (mj_room 6 0 0) (mj_qi Q))
theorem e_X10_hide {l : Launch} {G : mj_G} {a0 : Nat} {x1 : Int32} {x2 : Int32} {x3 : Int32} {S : mj_S} {Q : mj_S → Int32 → Prop} (h : V_X10_hide_0 l G a0 x1 x2 x3 S Q) : M_X10_hide l G a0 x1 x2 x3 S Q := mj_enter (r := 4) (ini := false) (by decide +kernel) (fun h => by cases h) (fun _ => Nat.le_of_ble_eq_true rfl) rfl h
set_option maxRecDepth 20000 in
set_option maxHeartbeats 1000000 in
theorem b_X10_hide_0 {l : Launch} {G : mj_G} {a0 : Nat} {x1 : Int32} {x2 : Int32} {x3 : Int32} {S : mj_S} {Q : mj_S → Int32 → Prop} (hk_a0 : m_kd S a0 = 9) (h : M_X10_isSquare l G a0 x1 S (fun S1 r2 => ((r2 = 0) → Q S1 (-1 : Int32)) ∧ ((¬ (r2 = 0)) → M_X10_isSquare l G a0 x2 S1 (fun S3 r4 => ((r4 = 0) → Q S3 (-1 : Int32)) ∧ ((¬ (r4 = 0)) → M_X10_within l G x3 (1 : Int32) (99 : Int32) S3 (fun S5 r6 => ((¬ r6 = 0) → ∃ b7, m_gp S5 a0 7 = some b7 ∧ (M_X8_hung l G b7 S5 (fun S8 r9 => ∃ b10, m_gp S8 a0 7 = some b10 ∧ (M_X8_drawnBack l G b10 S8 (fun S11 r12 => ∃ b13, m_gp S11 a0 11 = some b13 ∧ (∃ b14, m_gp S11 a0 7 = some b14 ∧ (∃ b15, m_gp S11 a0 4 = some b15 ∧ (M_X3_weigh l G b13 b14 b15 (r9 ||| r12) S11 (fun S16 => M_X10_brightWith l G a0 (r9 ||| r12) x1 x2 x3 S16 (fun S17 r18 => ((r18 ≤ 0) → V_X10_hide_90 l G a0 x1 x2 x3 r9 r12 r12 (0 : Int32) S17 Q) ∧ ((¬ (r18 ≤ 0)) → Q S17 (-1 : Int32)))))))))))) ∧ ((r6 = 0) → Q S5 (-1 : Int32)))))))) : V_X10_hide_0 l G a0 x1 x2 x3 S Q := by
  refine mj_aload_n dX10_hide_0 rfl rfl ?_
  refine mj_iload_n dX10_hide_1 rfl rfl ?_
  refine mj_callVi (as := [.int x1]) (st := []) dX10_hide_2 cal_X10_isSquare lk_X10_258 im_X10_isSquare se_X10_isSquare (ci := 9) rfl (by decide) hk_a0 h rfl (Nat.le_of_ble_eq_true rfl) (by decide) ⟨Nat.le_of_ble_eq_true rfl, Nat.le_of_ble_eq_true rfl⟩ (fun S1 r2 h hn_r2 hp => ?_)
  have hk_a0 : m_kd S1 a0 = 9 := m_kd_pre hp hk_a0 (by decide)
  refine mj_if_eq (tgt := 26) dX10_hide_5 (by decide) ⟨fun hc => ?_, fun hc => ?_⟩
  · replace h := h.1 hc
    refine mj_iconst (v := (-1)) dX10_hide_26 (by decide) ?_
    exact mj_reti dX10_hide_27 rfl ⟨Nat.le_of_ble_eq_true rfl, Nat.le_of_ble_eq_true rfl⟩ h
  · replace h := h.2 hc
    refine mj_aload_n dX10_hide_8 rfl rfl ?_
    refine mj_iload_n dX10_hide_9 rfl rfl ?_
    refine mj_callVi (as := [.int x2]) (st := []) dX10_hide_10 cal_X10_isSquare lk_X10_258 im_X10_isSquare se_X10_isSquare (ci := 9) rfl (by decide) hk_a0 h rfl (Nat.le_of_ble_eq_true rfl) (by decide) ⟨Nat.le_of_ble_eq_true rfl, Nat.le_of_ble_eq_true rfl⟩ (fun S3 r4 h hn_r4 hp => ?_)
    have hk_a0 : m_kd S3 a0 = 9 := m_kd_pre hp hk_a0 (by decide)
    refine mj_if_eq (tgt := 26) dX10_hide_13 (by decide) ⟨fun hc => ?_, fun hc => ?_⟩
    · replace h := h.1 hc
      refine mj_iconst (v := (-1)) dX10_hide_26 (by decide) ?_
      exact mj_reti dX10_hide_27 rfl ⟨Nat.le_of_ble_eq_true rfl, Nat.le_of_ble_eq_true rfl⟩ h
    · replace h := h.2 hc
      refine mj_iload_n dX10_hide_16 rfl rfl ?_
      refine mj_iconst (v := 1) dX10_hide_17 (by decide) ?_
      refine mj_bipush (v := 99) dX10_hide_18 (by decide) ?_
      refine mj_callSi (as := [.int x3, .int (1 : Int32), .int (99 : Int32)]) (st := []) dX10_hide_20 cal_X10_within lk_X10_204 sm_X10_within h rfl (Nat.le_of_ble_eq_true rfl) (by decide) ⟨Nat.le_of_ble_eq_true rfl, Nat.le_of_ble_eq_true rfl⟩ (fun S5 r6 h hn_r6 hp => ?_)
      have hk_a0 : m_kd S5 a0 = 9 := m_kd_pre hp hk_a0 (by decide)
      refine mj_if_ne (tgt := 28) dX10_hide_23 (by decide) ⟨fun hc => ?_, fun hc => ?_⟩
      · replace h := h.1 hc
        refine mj_aload_n dX10_hide_28 rfl rfl ?_
        obtain ⟨b7, eb7, h⟩ := h
        refine mj_getP dX10_hide_29 fl_X10_51_9 hk_a0 rfl ⟨b7, eb7, fun hk_b7 => ?_⟩
        refine mj_callVi (as := []) (st := []) dX10_hide_32 cal_X8_hung lk_X10_194 im_X8_hung se_X8_hung (ci := 7) rfl (by decide) hk_b7 h rfl (Nat.le_of_ble_eq_true rfl) (by decide) ⟨Nat.le_of_ble_eq_true rfl, Nat.le_of_ble_eq_true rfl⟩ (fun S8 r9 h hn_r9 hp => ?_)
        have hk_a0 : m_kd S8 a0 = 9 := m_kd_pre hp hk_a0 (by decide)
        have hk_b7 : m_kd S8 b7 = 7 := m_kd_pre hp hk_b7 (by decide)
        refine mj_istore dX10_hide_35 (by decide) rfl rfl ?_
        refine mj_aload_n dX10_hide_37 rfl rfl ?_
        obtain ⟨b10, eb10, h⟩ := h
        refine mj_getP dX10_hide_38 fl_X10_51_9 hk_a0 rfl ⟨b10, eb10, fun hk_b10 => ?_⟩
        refine mj_callVi (as := []) (st := []) dX10_hide_41 cal_X8_drawnBack lk_X10_347 im_X8_drawnBack se_X8_drawnBack (ci := 7) rfl (by decide) hk_b10 h rfl (Nat.le_of_ble_eq_true rfl) (by decide) ⟨Nat.le_of_ble_eq_true rfl, Nat.le_of_ble_eq_true rfl⟩ (fun S11 r12 h hn_r12 hp => ?_)
        have hk_a0 : m_kd S11 a0 = 9 := m_kd_pre hp hk_a0 (by decide)
        have hk_b7 : m_kd S11 b7 = 7 := m_kd_pre hp hk_b7 (by decide)
        have hk_b10 : m_kd S11 b10 = 7 := m_kd_pre hp hk_b10 (by decide)
        refine mj_istore dX10_hide_44 (by decide) rfl rfl ?_
        refine mj_aload_n dX10_hide_46 rfl rfl ?_
        obtain ⟨b13, eb13, h⟩ := h
        refine mj_getP dX10_hide_47 fl_X10_75_9 hk_a0 rfl ⟨b13, eb13, fun hk_b13 => ?_⟩
        refine mj_aload_n dX10_hide_50 rfl rfl ?_
        obtain ⟨b14, eb14, h⟩ := h
        refine mj_getP dX10_hide_51 fl_X10_51_9 hk_a0 rfl ⟨b14, eb14, fun hk_b14 => ?_⟩
        refine mj_aload_n dX10_hide_54 rfl rfl ?_
        obtain ⟨b15, eb15, h⟩ := h
        refine mj_getP dX10_hide_55 fl_X10_34_9 hk_a0 rfl ⟨b15, eb15, fun hk_b15 => ?_⟩
        refine mj_iload dX10_hide_58 rfl ?_
        refine mj_iload dX10_hide_60 rfl ?_
        refine mj_ior dX10_hide_62 ?_
        refine mj_callVv (as := [.ref b14, .ref b15, .int (r9 ||| r12)]) (st := []) dX10_hide_63 cal_X3_weigh lk_X10_247 im_X3_weigh se_X3_weigh (ci := 3) rfl (by decide) hk_b13 h rfl (Nat.le_of_ble_eq_true rfl) (by decide) ⟨Nat.le_of_ble_eq_true rfl, Nat.le_of_ble_eq_true rfl⟩ (fun S16 h hp => ?_)
        have hk_a0 : m_kd S16 a0 = 9 := m_kd_pre hp hk_a0 (by decide)
        have hk_b7 : m_kd S16 b7 = 7 := m_kd_pre hp hk_b7 (by decide)
        have hk_b10 : m_kd S16 b10 = 7 := m_kd_pre hp hk_b10 (by decide)
        have hk_b13 : m_kd S16 b13 = 3 := m_kd_pre hp hk_b13 (by decide)
        have hk_b14 : m_kd S16 b14 = 7 := m_kd_pre hp hk_b14 (by decide)
        have hk_b15 : m_kd S16 b15 = 2 := m_kd_pre hp hk_b15 (by decide)
        refine mj_aload_n dX10_hide_66 rfl rfl ?_
        refine mj_iload dX10_hide_67 rfl ?_
        refine mj_iload dX10_hide_69 rfl ?_
        refine mj_ior dX10_hide_71 ?_
        refine mj_iload_n dX10_hide_72 rfl rfl ?_
        refine mj_iload_n dX10_hide_73 rfl rfl ?_
        refine mj_iload_n dX10_hide_74 rfl rfl ?_
        refine mj_callVi (as := [.int (r9 ||| r12), .int x1, .int x2, .int x3]) (st := []) dX10_hide_75 cal_X10_brightWith lk_X10_350 im_X10_brightWith se_X10_brightWith (ci := 9) rfl (by decide) hk_a0 h rfl (Nat.le_of_ble_eq_true rfl) (by decide) ⟨Nat.le_of_ble_eq_true rfl, Nat.le_of_ble_eq_true rfl⟩ (fun S17 r18 h hn_r18 hp => ?_)
        have hk_a0 : m_kd S17 a0 = 9 := m_kd_pre hp hk_a0 (by decide)
        have hk_b7 : m_kd S17 b7 = 7 := m_kd_pre hp hk_b7 (by decide)
        have hk_b10 : m_kd S17 b10 = 7 := m_kd_pre hp hk_b10 (by decide)
        have hk_b13 : m_kd S17 b13 = 3 := m_kd_pre hp hk_b13 (by decide)
        have hk_b14 : m_kd S17 b14 = 7 := m_kd_pre hp hk_b14 (by decide)
        have hk_b15 : m_kd S17 b15 = 2 := m_kd_pre hp hk_b15 (by decide)
        refine mj_if_le (tgt := 83) dX10_hide_78 (by decide) ⟨fun hc => ?_, fun hc => ?_⟩
        · replace h := h.1 hc
          refine mj_iload dX10_hide_83 rfl ?_
          refine mj_istore dX10_hide_85 (by decide) rfl rfl ?_
          refine mj_iconst (v := 0) dX10_hide_87 (by decide) ?_
          refine mj_istore dX10_hide_88 (by decide) rfl rfl ?_
          exact h
        · replace h := h.2 hc
          refine mj_iconst (v := (-1)) dX10_hide_81 (by decide) ?_
          exact mj_reti dX10_hide_82 rfl ⟨Nat.le_of_ble_eq_true rfl, Nat.le_of_ble_eq_true rfl⟩ h
      · replace h := h.2 hc
        refine mj_iconst (v := (-1)) dX10_hide_26 (by decide) ?_
        exact mj_reti dX10_hide_27 rfl ⟨Nat.le_of_ble_eq_true rfl, Nat.le_of_ble_eq_true rfl⟩ h
set_option maxRecDepth 20000 in
set_option maxHeartbeats 1000000 in
theorem b_X10_hide_90 {l : Launch} {G : mj_G} {a0 : Nat} {x1 : Int32} {x2 : Int32} {x3 : Int32} {x4 : Int32} {x5 : Int32} {x6 : Int32} {x7 : Int32} {S : mj_S} {Q : mj_S → Int32 → Prop} (hk_a0 : m_kd S a0 = 9) (h : ((x5 ≤ x7) → Q S x6) ∧ ((¬ (x5 ≤ x7)) → ((¬ (x7 &&& (x5 ^^^ (-1 : Int32))) = 0) → ∀ v1 : Int32, v1 = x7 + (1 : Int32) → V_X10_hide_90 l G a0 x1 x2 x3 x4 x5 x6 v1 S Q) ∧ (((x7 &&& (x5 ^^^ (-1 : Int32))) = 0) → M_J6_bitCount_0f7a4 l G x7 S (fun S2 r3 => M_J6_bitCount_0f7a4 l G x6 S2 (fun S4 r5 => ((r3 < r5) → M_X10_brightWith l G a0 (x4 ||| x7) x1 x2 x3 S4 (fun S6 r7 => ((¬ r7 = 0) → ∀ v8 : Int32, v8 = x7 + (1 : Int32) → V_X10_hide_90 l G a0 x1 x2 x3 x4 x5 x6 v8 S6 Q) ∧ ((r7 = 0) → ∀ v9 : Int32, v9 = x7 + (1 : Int32) → V_X10_hide_90 l G a0 x1 x2 x3 x4 x5 x7 v9 S6 Q))) ∧ ((¬ (r3 < r5)) → ∀ v10 : Int32, v10 = x7 + (1 : Int32) → V_X10_hide_90 l G a0 x1 x2 x3 x4 x5 x6 v10 S4 Q)))))) : V_X10_hide_90 l G a0 x1 x2 x3 x4 x5 x6 x7 S Q := by
  refine mj_iload dX10_hide_90 rfl ?_
  refine mj_iload dX10_hide_92 rfl ?_
  refine mj_icmp_ge (tgt := 148) dX10_hide_94 (by decide) ⟨fun hc => ?_, fun hc => ?_⟩
  · replace h := h.1 hc
    refine mj_iload dX10_hide_148 rfl ?_
    exact mj_reti dX10_hide_150 rfl ⟨Nat.le_of_ble_eq_true rfl, Nat.le_of_ble_eq_true rfl⟩ h
  · replace h := h.2 hc
    refine mj_iload dX10_hide_97 rfl ?_
    refine mj_iload dX10_hide_99 rfl ?_
    refine mj_iconst (v := (-1)) dX10_hide_101 (by decide) ?_
    refine mj_ixor dX10_hide_102 ?_
    refine mj_iand dX10_hide_103 ?_
    refine mj_if_ne (tgt := 142) dX10_hide_104 (by decide) ⟨fun hc => ?_, fun hc => ?_⟩
    · replace h := h.1 hc
      obtain ⟨v1, ev1⟩ : ∃ z : Int32, z = x7 + (1 : Int32) := ⟨_, rfl⟩
      refine mj_iinc (v := v1) dX10_hide_142 rfl (by rw [ev1]; rfl) (by decide) rfl rfl ?_
      replace h := h v1 ev1
      refine mj_goto (tgt := 90) dX10_hide_145 (by decide) ?_
      exact h
    · replace h := h.2 hc
      refine mj_iload dX10_hide_107 rfl ?_
      refine mj_callSi (as := [.int x7]) (st := []) dX10_hide_109 cal_J6_bitCount_0f7a4 lk_X10_344 sm_J6_bitCount_0f7a4 h rfl (Nat.le_of_ble_eq_true rfl) (by decide) ⟨Nat.le_of_ble_eq_true rfl, Nat.le_of_ble_eq_true rfl⟩ (fun S2 r3 h hn_r3 hp => ?_)
      have hk_a0 : m_kd S2 a0 = 9 := m_kd_pre hp hk_a0 (by decide)
      refine mj_iload dX10_hide_112 rfl ?_
      refine mj_callSi (as := [.int x6]) (st := [.int r3]) dX10_hide_114 cal_J6_bitCount_0f7a4 lk_X10_344 sm_J6_bitCount_0f7a4 h rfl (Nat.le_of_ble_eq_true rfl) (by decide) ⟨Nat.le_of_ble_eq_true rfl, Nat.le_of_ble_eq_true rfl⟩ (fun S4 r5 h hn_r5 hp => ?_)
      have hk_a0 : m_kd S4 a0 = 9 := m_kd_pre hp hk_a0 (by decide)
      refine mj_icmp_lt (tgt := 123) dX10_hide_117 (by decide) ⟨fun hc => ?_, fun hc => ?_⟩
      · replace h := h.1 hc
        refine mj_aload_n dX10_hide_123 rfl rfl ?_
        refine mj_iload dX10_hide_124 rfl ?_
        refine mj_iload dX10_hide_126 rfl ?_
        refine mj_ior dX10_hide_128 ?_
        refine mj_iload_n dX10_hide_129 rfl rfl ?_
        refine mj_iload_n dX10_hide_130 rfl rfl ?_
        refine mj_iload_n dX10_hide_131 rfl rfl ?_
        refine mj_callVi (as := [.int (x4 ||| x7), .int x1, .int x2, .int x3]) (st := []) dX10_hide_132 cal_X10_brightWith lk_X10_350 im_X10_brightWith se_X10_brightWith (ci := 9) rfl (by decide) hk_a0 h rfl (Nat.le_of_ble_eq_true rfl) (by decide) ⟨Nat.le_of_ble_eq_true rfl, Nat.le_of_ble_eq_true rfl⟩ (fun S6 r7 h hn_r7 hp => ?_)
        have hk_a0 : m_kd S6 a0 = 9 := m_kd_pre hp hk_a0 (by decide)
        refine mj_if_ne (tgt := 142) dX10_hide_135 (by decide) ⟨fun hc => ?_, fun hc => ?_⟩
        · replace h := h.1 hc
          obtain ⟨v8, ev8⟩ : ∃ z : Int32, z = x7 + (1 : Int32) := ⟨_, rfl⟩
          refine mj_iinc (v := v8) dX10_hide_142 rfl (by rw [ev8]; rfl) (by decide) rfl rfl ?_
          replace h := h v8 ev8
          refine mj_goto (tgt := 90) dX10_hide_145 (by decide) ?_
          exact h
        · replace h := h.2 hc
          refine mj_iload dX10_hide_138 rfl ?_
          refine mj_istore dX10_hide_140 (by decide) rfl rfl ?_
          obtain ⟨v9, ev9⟩ : ∃ z : Int32, z = x7 + (1 : Int32) := ⟨_, rfl⟩
          refine mj_iinc (v := v9) dX10_hide_142 rfl (by rw [ev9]; rfl) (by decide) rfl rfl ?_
          replace h := h v9 ev9
          refine mj_goto (tgt := 90) dX10_hide_145 (by decide) ?_
          exact h
      · replace h := h.2 hc
        refine mj_goto (tgt := 142) dX10_hide_120 (by decide) ?_
        obtain ⟨v10, ev10⟩ : ∃ z : Int32, z = x7 + (1 : Int32) := ⟨_, rfl⟩
        refine mj_iinc (v := v10) dX10_hide_142 rfl (by rw [ev10]; rfl) (by decide) rfl rfl ?_
        replace h := h v10 ev10
        refine mj_goto (tgt := 90) dX10_hide_145 (by decide) ?_
        exact h
abbrev V_X10_brightWith_0 (l : Launch) (G : mj_G) (a0 : Nat) (x1 : Int32) (x2 : Int32) (x3 : Int32) (x4 : Int32) (S : mj_S) (Q : mj_S → Int32 → Prop) : Prop := mj_V l G (mj_room 4 0 0) RX10 cX10_brightWith 5 (some .int) false 0 [some (.ref a0), some (.int x1), some (.int x2), some (.int x3), some (.int x4)] [] S 0 0 (mj_std G (some .int) (mj_room 4 0 0) (mj_qi Q))
theorem e_X10_brightWith {l : Launch} {G : mj_G} {a0 : Nat} {x1 : Int32} {x2 : Int32} {x3 : Int32} {x4 : Int32} {S : mj_S} {Q : mj_S → Int32 → Prop} (h : V_X10_brightWith_0 l G a0 x1 x2 x3 x4 S Q) : M_X10_brightWith l G a0 x1 x2 x3 x4 S Q := mj_enter (r := 0) (ini := false) (by decide +kernel) (fun h => by cases h) (fun _ => Nat.le_of_ble_eq_true rfl) rfl h
set_option maxRecDepth 20000 in
set_option maxHeartbeats 1000000 in
theorem b_X10_brightWith_0 {l : Launch} {G : mj_G} {a0 : Nat} {x1 : Int32} {x2 : Int32} {x3 : Int32} {x4 : Int32} {S : mj_S} {Q : mj_S → Int32 → Prop} (hk_a0 : m_kd S a0 = 9) (h : ∃ b1, m_gp S a0 11 = some b1 ∧ (∃ b2, m_gp S a0 5 = some b2 ∧ (M_X3_hang l G b1 b2 x1 S (fun S3 => ∃ b4, m_gp S3 a0 11 = some b4 ∧ (∃ b5, m_gp S3 a0 5 = some b5 ∧ (M_X3_spread l G b4 b5 x2 x4 S3 (fun S6 => ∃ b7, m_gp S6 a0 11 = some b7 ∧ (∃ b8, m_gp S6 b7 0 = some b8 ∧ (vp_in x3 (m_ln S6 b8) ∧ (Q S6 (m_gi S6 b8 (x3).toNatClampNeg))))))))))) : V_X10_brightWith_0 l G a0 x1 x2 x3 x4 S Q := by
  refine mj_aload_n dX10_brightWith_0 rfl rfl ?_
  obtain ⟨b1, eb1, h⟩ := h
  refine mj_getP dX10_brightWith_1 fl_X10_75_9 hk_a0 rfl ⟨b1, eb1, fun hk_b1 => ?_⟩
  refine mj_aload_n dX10_brightWith_4 rfl rfl ?_
  obtain ⟨b2, eb2, h⟩ := h
  refine mj_getP dX10_brightWith_5 fl_X10_41_9 hk_a0 rfl ⟨b2, eb2, fun hk_b2 => ?_⟩
  refine mj_iload_n dX10_brightWith_8 rfl rfl ?_
  refine mj_callVv (as := [.ref b2, .int x1]) (st := []) dX10_brightWith_9 cal_X3_hang lk_X10_251 im_X3_hang se_X3_hang (ci := 3) rfl (by decide) hk_b1 h rfl (Nat.le_of_ble_eq_true rfl) (by decide) ⟨Nat.le_of_ble_eq_true rfl, Nat.le_of_ble_eq_true rfl⟩ (fun S3 h hp => ?_)
  have hk_a0 : m_kd S3 a0 = 9 := m_kd_pre hp hk_a0 (by decide)
  have hk_b1 : m_kd S3 b1 = 3 := m_kd_pre hp hk_b1 (by decide)
  have hk_b2 : m_kd S3 b2 = 5 := m_kd_pre hp hk_b2 (by decide)
  refine mj_aload_n dX10_brightWith_12 rfl rfl ?_
  obtain ⟨b4, eb4, h⟩ := h
  refine mj_getP dX10_brightWith_13 fl_X10_75_9 hk_a0 rfl ⟨b4, eb4, fun hk_b4 => ?_⟩
  refine mj_aload_n dX10_brightWith_16 rfl rfl ?_
  obtain ⟨b5, eb5, h⟩ := h
  refine mj_getP dX10_brightWith_17 fl_X10_41_9 hk_a0 rfl ⟨b5, eb5, fun hk_b5 => ?_⟩
  refine mj_iload_n dX10_brightWith_20 rfl rfl ?_
  refine mj_iload dX10_brightWith_21 rfl ?_
  refine mj_callVv (as := [.ref b5, .int x2, .int x4]) (st := []) dX10_brightWith_23 cal_X3_spread lk_X10_254 im_X3_spread se_X3_spread (ci := 3) rfl (by decide) hk_b4 h rfl (Nat.le_of_ble_eq_true rfl) (by decide) ⟨Nat.le_of_ble_eq_true rfl, Nat.le_of_ble_eq_true rfl⟩ (fun S6 h hp => ?_)
  have hk_a0 : m_kd S6 a0 = 9 := m_kd_pre hp hk_a0 (by decide)
  have hk_b1 : m_kd S6 b1 = 3 := m_kd_pre hp hk_b1 (by decide)
  have hk_b2 : m_kd S6 b2 = 5 := m_kd_pre hp hk_b2 (by decide)
  have hk_b4 : m_kd S6 b4 = 3 := m_kd_pre hp hk_b4 (by decide)
  have hk_b5 : m_kd S6 b5 = 5 := m_kd_pre hp hk_b5 (by decide)
  refine mj_aload_n dX10_brightWith_26 rfl rfl ?_
  obtain ⟨b7, eb7, h⟩ := h
  refine mj_getP dX10_brightWith_27 fl_X10_75_9 hk_a0 rfl ⟨b7, eb7, fun hk_b7 => ?_⟩
  obtain ⟨b8, eb8, h⟩ := h
  refine mj_getP dX10_brightWith_30 fl_X10_265_3 hk_b7 rfl ⟨b8, eb8, fun hk_b8 => ?_⟩
  refine mj_iload_n dX10_brightWith_33 rfl rfl ?_
  refine mj_iald dX10_brightWith_34 (Or.inl hk_b8) ⟨h.1, ?_⟩
  replace h := h.2
  exact mj_reti dX10_brightWith_35 rfl ⟨Nat.le_of_ble_eq_true rfl, Nat.le_of_ble_eq_true rfl⟩ h
abbrev V_X10_seen_0 (l : Launch) (G : mj_G) (a0 : Nat) (x1 : Int32) (x2 : Int32) (S : mj_S) (Q : mj_S → Int32 → Prop) : Prop := mj_V l G (mj_room 6 0 0) RX10 cX10_seen 4 (some .int) false 0 [some (.ref a0), some (.int x1), some (.int x2), none] [] S 0 0 (mj_std G (some .int) (mj_room 6 0 0) (mj_qi Q))
theorem e_X10_seen {l : Launch} {G : mj_G} {a0 : Nat} {x1 : Int32} {x2 : Int32} {S : mj_S} {Q : mj_S → Int32 → Prop} (h : V_X10_seen_0 l G a0 x1 x2 S Q) : M_X10_seen l G a0 x1 x2 S Q := mj_enter (r := 1) (ini := false) (by decide +kernel) (fun h => by cases h) (fun _ => Nat.le_of_ble_eq_true rfl) rfl h
set_option maxRecDepth 20000 in
set_option maxHeartbeats 1000000 in
theorem b_X10_seen_0 {l : Launch} {G : mj_G} {a0 : Nat} {x1 : Int32} {x2 : Int32} {S : mj_S} {Q : mj_S → Int32 → Prop} (hk_a0 : m_kd S a0 = 9) (h : M_X10_isSquare l G a0 x1 S (fun S1 r2 => ((r2 = 0) → Q S1 (-1 : Int32)) ∧ ((¬ (r2 = 0)) → M_X10_within l G x2 (1 : Int32) (99 : Int32) S1 (fun S3 r4 => ((¬ r4 = 0) → ∃ b5, m_gp S3 a0 7 = some b5 ∧ (M_X8_hung l G b5 S3 (fun S6 r7 => ∃ b8, m_gp S6 a0 11 = some b8 ∧ (∃ b9, m_gp S6 a0 7 = some b9 ∧ (∃ b10, m_gp S6 a0 4 = some b10 ∧ (M_X3_weigh l G b8 b9 b10 r7 S6 (fun S11 => ∃ b12, m_gp S11 a0 11 = some b12 ∧ (∃ b13, m_gp S11 a0 5 = some b13 ∧ (M_X3_hang l G b12 b13 r7 S11 (fun S14 => ∃ b15, m_gp S14 a0 11 = some b15 ∧ (∃ b16, m_gp S14 a0 5 = some b16 ∧ (M_X3_spread l G b15 b16 x1 x2 S14 (fun S17 => ∃ b18, m_gp S17 a0 5 = some b18 ∧ (M_X6_allSquares l G b18 S17 (fun S19 r20 => ∃ b21, m_gp S19 a0 11 = some b21 ∧ (∃ b22, m_gp S19 a0 5 = some b22 ∧ (M_X3_darkness l G b21 (m_gi S19 b22 4) S19 (fun S23 r24 => Q S23 (r20 &&& (r24 ^^^ (-1 : Int32))))))))))))))))))))) ∧ ((r4 = 0) → Q S3 (-1 : Int32)))))) : V_X10_seen_0 l G a0 x1 x2 S Q := by
  refine mj_aload_n dX10_seen_0 rfl rfl ?_
  refine mj_iload_n dX10_seen_1 rfl rfl ?_
  refine mj_callVi (as := [.int x1]) (st := []) dX10_seen_2 cal_X10_isSquare lk_X10_258 im_X10_isSquare se_X10_isSquare (ci := 9) rfl (by decide) hk_a0 h rfl (Nat.le_of_ble_eq_true rfl) (by decide) ⟨Nat.le_of_ble_eq_true rfl, Nat.le_of_ble_eq_true rfl⟩ (fun S1 r2 h hn_r2 hp => ?_)
  have hk_a0 : m_kd S1 a0 = 9 := m_kd_pre hp hk_a0 (by decide)
  refine mj_if_eq (tgt := 18) dX10_seen_5 (by decide) ⟨fun hc => ?_, fun hc => ?_⟩
  · replace h := h.1 hc
    refine mj_iconst (v := (-1)) dX10_seen_18 (by decide) ?_
    exact mj_reti dX10_seen_19 rfl ⟨Nat.le_of_ble_eq_true rfl, Nat.le_of_ble_eq_true rfl⟩ h
  · replace h := h.2 hc
    refine mj_iload_n dX10_seen_8 rfl rfl ?_
    refine mj_iconst (v := 1) dX10_seen_9 (by decide) ?_
    refine mj_bipush (v := 99) dX10_seen_10 (by decide) ?_
    refine mj_callSi (as := [.int x2, .int (1 : Int32), .int (99 : Int32)]) (st := []) dX10_seen_12 cal_X10_within lk_X10_204 sm_X10_within h rfl (Nat.le_of_ble_eq_true rfl) (by decide) ⟨Nat.le_of_ble_eq_true rfl, Nat.le_of_ble_eq_true rfl⟩ (fun S3 r4 h hn_r4 hp => ?_)
    have hk_a0 : m_kd S3 a0 = 9 := m_kd_pre hp hk_a0 (by decide)
    refine mj_if_ne (tgt := 20) dX10_seen_15 (by decide) ⟨fun hc => ?_, fun hc => ?_⟩
    · replace h := h.1 hc
      refine mj_aload_n dX10_seen_20 rfl rfl ?_
      obtain ⟨b5, eb5, h⟩ := h
      refine mj_getP dX10_seen_21 fl_X10_51_9 hk_a0 rfl ⟨b5, eb5, fun hk_b5 => ?_⟩
      refine mj_callVi (as := []) (st := []) dX10_seen_24 cal_X8_hung lk_X10_194 im_X8_hung se_X8_hung (ci := 7) rfl (by decide) hk_b5 h rfl (Nat.le_of_ble_eq_true rfl) (by decide) ⟨Nat.le_of_ble_eq_true rfl, Nat.le_of_ble_eq_true rfl⟩ (fun S6 r7 h hn_r7 hp => ?_)
      have hk_a0 : m_kd S6 a0 = 9 := m_kd_pre hp hk_a0 (by decide)
      have hk_b5 : m_kd S6 b5 = 7 := m_kd_pre hp hk_b5 (by decide)
      refine mj_istore_n dX10_seen_27 rfl (by decide) rfl rfl ?_
      refine mj_aload_n dX10_seen_28 rfl rfl ?_
      obtain ⟨b8, eb8, h⟩ := h
      refine mj_getP dX10_seen_29 fl_X10_75_9 hk_a0 rfl ⟨b8, eb8, fun hk_b8 => ?_⟩
      refine mj_aload_n dX10_seen_32 rfl rfl ?_
      obtain ⟨b9, eb9, h⟩ := h
      refine mj_getP dX10_seen_33 fl_X10_51_9 hk_a0 rfl ⟨b9, eb9, fun hk_b9 => ?_⟩
      refine mj_aload_n dX10_seen_36 rfl rfl ?_
      obtain ⟨b10, eb10, h⟩ := h
      refine mj_getP dX10_seen_37 fl_X10_34_9 hk_a0 rfl ⟨b10, eb10, fun hk_b10 => ?_⟩
      refine mj_iload_n dX10_seen_40 rfl rfl ?_
      refine mj_callVv (as := [.ref b9, .ref b10, .int r7]) (st := []) dX10_seen_41 cal_X3_weigh lk_X10_247 im_X3_weigh se_X3_weigh (ci := 3) rfl (by decide) hk_b8 h rfl (Nat.le_of_ble_eq_true rfl) (by decide) ⟨Nat.le_of_ble_eq_true rfl, Nat.le_of_ble_eq_true rfl⟩ (fun S11 h hp => ?_)
      have hk_a0 : m_kd S11 a0 = 9 := m_kd_pre hp hk_a0 (by decide)
      have hk_b5 : m_kd S11 b5 = 7 := m_kd_pre hp hk_b5 (by decide)
      have hk_b8 : m_kd S11 b8 = 3 := m_kd_pre hp hk_b8 (by decide)
      have hk_b9 : m_kd S11 b9 = 7 := m_kd_pre hp hk_b9 (by decide)
      have hk_b10 : m_kd S11 b10 = 2 := m_kd_pre hp hk_b10 (by decide)
      refine mj_aload_n dX10_seen_44 rfl rfl ?_
      obtain ⟨b12, eb12, h⟩ := h
      refine mj_getP dX10_seen_45 fl_X10_75_9 hk_a0 rfl ⟨b12, eb12, fun hk_b12 => ?_⟩
      refine mj_aload_n dX10_seen_48 rfl rfl ?_
      obtain ⟨b13, eb13, h⟩ := h
      refine mj_getP dX10_seen_49 fl_X10_41_9 hk_a0 rfl ⟨b13, eb13, fun hk_b13 => ?_⟩
      refine mj_iload_n dX10_seen_52 rfl rfl ?_
      refine mj_callVv (as := [.ref b13, .int r7]) (st := []) dX10_seen_53 cal_X3_hang lk_X10_251 im_X3_hang se_X3_hang (ci := 3) rfl (by decide) hk_b12 h rfl (Nat.le_of_ble_eq_true rfl) (by decide) ⟨Nat.le_of_ble_eq_true rfl, Nat.le_of_ble_eq_true rfl⟩ (fun S14 h hp => ?_)
      have hk_a0 : m_kd S14 a0 = 9 := m_kd_pre hp hk_a0 (by decide)
      have hk_b5 : m_kd S14 b5 = 7 := m_kd_pre hp hk_b5 (by decide)
      have hk_b8 : m_kd S14 b8 = 3 := m_kd_pre hp hk_b8 (by decide)
      have hk_b9 : m_kd S14 b9 = 7 := m_kd_pre hp hk_b9 (by decide)
      have hk_b10 : m_kd S14 b10 = 2 := m_kd_pre hp hk_b10 (by decide)
      have hk_b12 : m_kd S14 b12 = 3 := m_kd_pre hp hk_b12 (by decide)
      have hk_b13 : m_kd S14 b13 = 5 := m_kd_pre hp hk_b13 (by decide)
      refine mj_aload_n dX10_seen_56 rfl rfl ?_
      obtain ⟨b15, eb15, h⟩ := h
      refine mj_getP dX10_seen_57 fl_X10_75_9 hk_a0 rfl ⟨b15, eb15, fun hk_b15 => ?_⟩
      refine mj_aload_n dX10_seen_60 rfl rfl ?_
      obtain ⟨b16, eb16, h⟩ := h
      refine mj_getP dX10_seen_61 fl_X10_41_9 hk_a0 rfl ⟨b16, eb16, fun hk_b16 => ?_⟩
      refine mj_iload_n dX10_seen_64 rfl rfl ?_
      refine mj_iload_n dX10_seen_65 rfl rfl ?_
      refine mj_callVv (as := [.ref b16, .int x1, .int x2]) (st := []) dX10_seen_66 cal_X3_spread lk_X10_254 im_X3_spread se_X3_spread (ci := 3) rfl (by decide) hk_b15 h rfl (Nat.le_of_ble_eq_true rfl) (by decide) ⟨Nat.le_of_ble_eq_true rfl, Nat.le_of_ble_eq_true rfl⟩ (fun S17 h hp => ?_)
      have hk_a0 : m_kd S17 a0 = 9 := m_kd_pre hp hk_a0 (by decide)
      have hk_b5 : m_kd S17 b5 = 7 := m_kd_pre hp hk_b5 (by decide)
      have hk_b8 : m_kd S17 b8 = 3 := m_kd_pre hp hk_b8 (by decide)
      have hk_b9 : m_kd S17 b9 = 7 := m_kd_pre hp hk_b9 (by decide)
      have hk_b10 : m_kd S17 b10 = 2 := m_kd_pre hp hk_b10 (by decide)
      have hk_b12 : m_kd S17 b12 = 3 := m_kd_pre hp hk_b12 (by decide)
      have hk_b13 : m_kd S17 b13 = 5 := m_kd_pre hp hk_b13 (by decide)
      have hk_b15 : m_kd S17 b15 = 3 := m_kd_pre hp hk_b15 (by decide)
      have hk_b16 : m_kd S17 b16 = 5 := m_kd_pre hp hk_b16 (by decide)
      refine mj_aload_n dX10_seen_69 rfl rfl ?_
      obtain ⟨b18, eb18, h⟩ := h
      refine mj_getP dX10_seen_70 fl_X10_41_9 hk_a0 rfl ⟨b18, eb18, fun hk_b18 => ?_⟩
      refine mj_callVi (as := []) (st := []) dX10_seen_73 cal_X6_allSquares lk_X10_241 im_X6_allSquares se_X6_allSquares (ci := 5) rfl (by decide) hk_b18 h rfl (Nat.le_of_ble_eq_true rfl) (by decide) ⟨Nat.le_of_ble_eq_true rfl, Nat.le_of_ble_eq_true rfl⟩ (fun S19 r20 h hn_r20 hp => ?_)
      have hk_a0 : m_kd S19 a0 = 9 := m_kd_pre hp hk_a0 (by decide)
      have hk_b5 : m_kd S19 b5 = 7 := m_kd_pre hp hk_b5 (by decide)
      have hk_b8 : m_kd S19 b8 = 3 := m_kd_pre hp hk_b8 (by decide)
      have hk_b9 : m_kd S19 b9 = 7 := m_kd_pre hp hk_b9 (by decide)
      have hk_b10 : m_kd S19 b10 = 2 := m_kd_pre hp hk_b10 (by decide)
      have hk_b12 : m_kd S19 b12 = 3 := m_kd_pre hp hk_b12 (by decide)
      have hk_b13 : m_kd S19 b13 = 5 := m_kd_pre hp hk_b13 (by decide)
      have hk_b15 : m_kd S19 b15 = 3 := m_kd_pre hp hk_b15 (by decide)
      have hk_b16 : m_kd S19 b16 = 5 := m_kd_pre hp hk_b16 (by decide)
      have hk_b18 : m_kd S19 b18 = 5 := m_kd_pre hp hk_b18 (by decide)
      refine mj_aload_n dX10_seen_76 rfl rfl ?_
      obtain ⟨b21, eb21, h⟩ := h
      refine mj_getP dX10_seen_77 fl_X10_75_9 hk_a0 rfl ⟨b21, eb21, fun hk_b21 => ?_⟩
      refine mj_aload_n dX10_seen_80 rfl rfl ?_
      obtain ⟨b22, eb22, h⟩ := h
      refine mj_getP dX10_seen_81 fl_X10_41_9 hk_a0 rfl ⟨b22, eb22, fun hk_b22 => ?_⟩
      refine mj_getI dX10_seen_84 fl_X10_143_5 hk_b22 rfl ?_
      refine mj_callVi (as := [.int (m_gi S19 b22 4)]) (st := [.int r20]) dX10_seen_87 cal_X3_darkness lk_X10_354 im_X3_darkness se_X3_darkness (ci := 3) rfl (by decide) hk_b21 h rfl (Nat.le_of_ble_eq_true rfl) (by decide) ⟨Nat.le_of_ble_eq_true rfl, Nat.le_of_ble_eq_true rfl⟩ (fun S23 r24 h hn_r24 hp => ?_)
      have hk_a0 : m_kd S23 a0 = 9 := m_kd_pre hp hk_a0 (by decide)
      have hk_b5 : m_kd S23 b5 = 7 := m_kd_pre hp hk_b5 (by decide)
      have hk_b8 : m_kd S23 b8 = 3 := m_kd_pre hp hk_b8 (by decide)
      have hk_b9 : m_kd S23 b9 = 7 := m_kd_pre hp hk_b9 (by decide)
      have hk_b10 : m_kd S23 b10 = 2 := m_kd_pre hp hk_b10 (by decide)
      have hk_b12 : m_kd S23 b12 = 3 := m_kd_pre hp hk_b12 (by decide)
      have hk_b13 : m_kd S23 b13 = 5 := m_kd_pre hp hk_b13 (by decide)
      have hk_b15 : m_kd S23 b15 = 3 := m_kd_pre hp hk_b15 (by decide)
      have hk_b16 : m_kd S23 b16 = 5 := m_kd_pre hp hk_b16 (by decide)
      have hk_b18 : m_kd S23 b18 = 5 := m_kd_pre hp hk_b18 (by decide)
      have hk_b21 : m_kd S23 b21 = 3 := m_kd_pre hp hk_b21 (by decide)
      have hk_b22 : m_kd S23 b22 = 5 := m_kd_pre hp hk_b22 (by decide)
      refine mj_iconst (v := (-1)) dX10_seen_90 (by decide) ?_
      refine mj_ixor dX10_seen_91 ?_
      refine mj_iand dX10_seen_92 ?_
      exact mj_reti dX10_seen_93 rfl ⟨Nat.le_of_ble_eq_true rfl, Nat.le_of_ble_eq_true rfl⟩ h
    · replace h := h.2 hc
      refine mj_iconst (v := (-1)) dX10_seen_18 (by decide) ?_
      exact mj_reti dX10_seen_19 rfl ⟨Nat.le_of_ble_eq_true rfl, Nat.le_of_ble_eq_true rfl⟩ h
abbrev V_X10_under_0 (l : Launch) (G : mj_G) (a0 : Nat) (x1 : Int32) (x2 : Int32) (x3 : Int32) (S : mj_S) (Q : mj_S → Int32 → Prop) : Prop := mj_V l G (mj_room 4 0 0) RX10 cX10_under 7 (some .int) false 0 [some (.ref a0), some (.int x1), some (.int x2), some (.int x3), none, none, none] [] S 0 0 (mj_std G (some .int) (mj_room 4 0 0) (mj_qi Q))
abbrev V_X10_under_45 (l : Launch) (G : mj_G) (a0 : Nat) (x2 : Int32) (x4 : Int32) (x5 : Int32) (x6 : Int32) (S : mj_S) (Q : mj_S → Int32 → Prop) : Prop := mj_V l G (mj_room 4 0 0) RX10 cX10_under 7 (some .int) false 45 [some (.ref a0), none, some (.int x2), none, some (.int x4), some (.int x5), some (.int x6)] [] S 0 0 (mj_std G (some .int) (mj_room 4 0 0) (mj_qi Q))
theorem e_X10_under {l : Launch} {G : mj_G} {a0 : Nat} {x1 : Int32} {x2 : Int32} {x3 : Int32} {S : mj_S} {Q : mj_S → Int32 → Prop} (h : V_X10_under_0 l G a0 x1 x2 x3 S Q) : M_X10_under l G a0 x1 x2 x3 S Q := mj_enter (r := 3) (ini := false) (by decide +kernel) (fun h => by cases h) (fun _ => Nat.le_of_ble_eq_true rfl) rfl h
set_option maxRecDepth 20000 in
set_option maxHeartbeats 1000000 in
theorem b_X10_under_0 {l : Launch} {G : mj_G} {a0 : Nat} {x1 : Int32} {x2 : Int32} {x3 : Int32} {S : mj_S} {Q : mj_S → Int32 → Prop} (hk_a0 : m_kd S a0 = 9) (h : M_X10_isSquare l G a0 x1 S (fun S1 r2 => ((r2 = 0) → Q S1 (-1 : Int32)) ∧ ((¬ (r2 = 0)) → M_X10_isSquare l G a0 x2 S1 (fun S3 r4 => ((r4 = 0) → Q S3 (-1 : Int32)) ∧ ((¬ (r4 = 0)) → M_X10_within l G x3 (0 : Int32) (9 : Int32) S3 (fun S5 r6 => ((¬ r6 = 0) → M_X10_wideEnough l G a0 x3 S5 (fun S7 r8 => M_X10_stateAround l G a0 x1 S7 (fun S9 r10 => V_X10_under_45 l G a0 x2 r8 r10 (0 : Int32) S9 Q))) ∧ ((r6 = 0) → Q S5 (-1 : Int32)))))))) : V_X10_under_0 l G a0 x1 x2 x3 S Q := by
  refine mj_aload_n dX10_under_0 rfl rfl ?_
  refine mj_iload_n dX10_under_1 rfl rfl ?_
  refine mj_callVi (as := [.int x1]) (st := []) dX10_under_2 cal_X10_isSquare lk_X10_258 im_X10_isSquare se_X10_isSquare (ci := 9) rfl (by decide) hk_a0 h rfl (Nat.le_of_ble_eq_true rfl) (by decide) ⟨Nat.le_of_ble_eq_true rfl, Nat.le_of_ble_eq_true rfl⟩ (fun S1 r2 h hn_r2 hp => ?_)
  have hk_a0 : m_kd S1 a0 = 9 := m_kd_pre hp hk_a0 (by decide)
  refine mj_if_eq (tgt := 26) dX10_under_5 (by decide) ⟨fun hc => ?_, fun hc => ?_⟩
  · replace h := h.1 hc
    refine mj_iconst (v := (-1)) dX10_under_26 (by decide) ?_
    exact mj_reti dX10_under_27 rfl ⟨Nat.le_of_ble_eq_true rfl, Nat.le_of_ble_eq_true rfl⟩ h
  · replace h := h.2 hc
    refine mj_aload_n dX10_under_8 rfl rfl ?_
    refine mj_iload_n dX10_under_9 rfl rfl ?_
    refine mj_callVi (as := [.int x2]) (st := []) dX10_under_10 cal_X10_isSquare lk_X10_258 im_X10_isSquare se_X10_isSquare (ci := 9) rfl (by decide) hk_a0 h rfl (Nat.le_of_ble_eq_true rfl) (by decide) ⟨Nat.le_of_ble_eq_true rfl, Nat.le_of_ble_eq_true rfl⟩ (fun S3 r4 h hn_r4 hp => ?_)
    have hk_a0 : m_kd S3 a0 = 9 := m_kd_pre hp hk_a0 (by decide)
    refine mj_if_eq (tgt := 26) dX10_under_13 (by decide) ⟨fun hc => ?_, fun hc => ?_⟩
    · replace h := h.1 hc
      refine mj_iconst (v := (-1)) dX10_under_26 (by decide) ?_
      exact mj_reti dX10_under_27 rfl ⟨Nat.le_of_ble_eq_true rfl, Nat.le_of_ble_eq_true rfl⟩ h
    · replace h := h.2 hc
      refine mj_iload_n dX10_under_16 rfl rfl ?_
      refine mj_iconst (v := 0) dX10_under_17 (by decide) ?_
      refine mj_bipush (v := 9) dX10_under_18 (by decide) ?_
      refine mj_callSi (as := [.int x3, .int (0 : Int32), .int (9 : Int32)]) (st := []) dX10_under_20 cal_X10_within lk_X10_204 sm_X10_within h rfl (Nat.le_of_ble_eq_true rfl) (by decide) ⟨Nat.le_of_ble_eq_true rfl, Nat.le_of_ble_eq_true rfl⟩ (fun S5 r6 h hn_r6 hp => ?_)
      have hk_a0 : m_kd S5 a0 = 9 := m_kd_pre hp hk_a0 (by decide)
      refine mj_if_ne (tgt := 28) dX10_under_23 (by decide) ⟨fun hc => ?_, fun hc => ?_⟩
      · replace h := h.1 hc
        refine mj_aload_n dX10_under_28 rfl rfl ?_
        refine mj_iload_n dX10_under_29 rfl rfl ?_
        refine mj_callVi (as := [.int x3]) (st := []) dX10_under_30 cal_X10_wideEnough lk_X10_357 im_X10_wideEnough se_X10_wideEnough (ci := 9) rfl (by decide) hk_a0 h rfl (Nat.le_of_ble_eq_true rfl) (by decide) ⟨Nat.le_of_ble_eq_true rfl, Nat.le_of_ble_eq_true rfl⟩ (fun S7 r8 h hn_r8 hp => ?_)
        have hk_a0 : m_kd S7 a0 = 9 := m_kd_pre hp hk_a0 (by decide)
        refine mj_istore dX10_under_33 (by decide) rfl rfl ?_
        refine mj_aload_n dX10_under_35 rfl rfl ?_
        refine mj_iload_n dX10_under_36 rfl rfl ?_
        refine mj_callVi (as := [.int x1]) (st := []) dX10_under_37 cal_X10_stateAround lk_X10_217 im_X10_stateAround se_X10_stateAround (ci := 9) rfl (by decide) hk_a0 h rfl (Nat.le_of_ble_eq_true rfl) (by decide) ⟨Nat.le_of_ble_eq_true rfl, Nat.le_of_ble_eq_true rfl⟩ (fun S9 r10 h hn_r10 hp => ?_)
        have hk_a0 : m_kd S9 a0 = 9 := m_kd_pre hp hk_a0 (by decide)
        refine mj_istore dX10_under_40 (by decide) rfl rfl ?_
        refine mj_iconst (v := 0) dX10_under_42 (by decide) ?_
        refine mj_istore dX10_under_43 (by decide) rfl rfl ?_
        exact mj_lessm [true, false, true, false, true, true, true] rfl h
      · replace h := h.2 hc
        refine mj_iconst (v := (-1)) dX10_under_26 (by decide) ?_
        exact mj_reti dX10_under_27 rfl ⟨Nat.le_of_ble_eq_true rfl, Nat.le_of_ble_eq_true rfl⟩ h
set_option maxRecDepth 20000 in
set_option maxHeartbeats 1000000 in
theorem b_X10_under_45 {l : Launch} {G : mj_G} {a0 : Nat} {x2 : Int32} {x4 : Int32} {x5 : Int32} {x6 : Int32} {S : mj_S} {Q : mj_S → Int32 → Prop} (hk_a0 : m_kd S a0 = 9) (h : ∃ b1, m_gp S a0 5 = some b1 ∧ ((((m_gi S b1 7) < x6) → Q S (-1 : Int32)) ∧ ((¬ ((m_gi S b1 7) < x6)) → M_X10_has l G x5 x2 S (fun S2 r3 => ((r3 = 0) → ∃ b4, m_gp S2 a0 10 = some b4 ∧ (M_X10_beyond l G a0 x5 x4 S2 (fun S5 r6 => M_X0_reach l G b4 (x5 ||| r6) S5 (fun S7 r8 => ∀ v9 : Int32, v9 = x6 + (1 : Int32) → V_X10_under_45 l G a0 x2 x4 r8 v9 S7 Q)))) ∧ ((¬ (r3 = 0)) → Q S2 x6))))) : V_X10_under_45 l G a0 x2 x4 x5 x6 S Q := by
  refine mj_iload dX10_under_45 rfl ?_
  refine mj_aload_n dX10_under_47 rfl rfl ?_
  obtain ⟨b1, eb1, h⟩ := h
  refine mj_getP dX10_under_48 fl_X10_41_9 hk_a0 rfl ⟨b1, eb1, fun hk_b1 => ?_⟩
  refine mj_getI dX10_under_51 fl_X10_146_5 hk_b1 rfl ?_
  refine mj_icmp_gt (tgt := 95) dX10_under_54 (by decide) ⟨fun hc => ?_, fun hc => ?_⟩
  · replace h := h.1 hc
    refine mj_iconst (v := (-1)) dX10_under_95 (by decide) ?_
    exact mj_reti dX10_under_96 rfl ⟨Nat.le_of_ble_eq_true rfl, Nat.le_of_ble_eq_true rfl⟩ h
  · replace h := h.2 hc
    refine mj_iload dX10_under_57 rfl ?_
    refine mj_iload_n dX10_under_59 rfl rfl ?_
    refine mj_callSi (as := [.int x5, .int x2]) (st := []) dX10_under_60 cal_X10_has lk_X10_190 sm_X10_has h rfl (Nat.le_of_ble_eq_true rfl) (by decide) ⟨Nat.le_of_ble_eq_true rfl, Nat.le_of_ble_eq_true rfl⟩ (fun S2 r3 h hn_r3 hp => ?_)
    have hk_a0 : m_kd S2 a0 = 9 := m_kd_pre hp hk_a0 (by decide)
    have hk_b1 : m_kd S2 b1 = 5 := m_kd_pre hp hk_b1 (by decide)
    refine mj_if_eq (tgt := 69) dX10_under_63 (by decide) ⟨fun hc => ?_, fun hc => ?_⟩
    · replace h := h.1 hc
      refine mj_aload_n dX10_under_69 rfl rfl ?_
      obtain ⟨b4, eb4, h⟩ := h
      refine mj_getP dX10_under_70 fl_X10_68_9 hk_a0 rfl ⟨b4, eb4, fun hk_b4 => ?_⟩
      refine mj_iload dX10_under_73 rfl ?_
      refine mj_aload_n dX10_under_75 rfl rfl ?_
      refine mj_iload dX10_under_76 rfl ?_
      refine mj_iload dX10_under_78 rfl ?_
      refine mj_callVi (as := [.int x5, .int x4]) (st := [.int x5, .ref b4]) dX10_under_80 cal_X10_beyond lk_X10_360 im_X10_beyond se_X10_beyond (ci := 9) rfl (by decide) hk_a0 h rfl (Nat.le_of_ble_eq_true rfl) (by decide) ⟨Nat.le_of_ble_eq_true rfl, Nat.le_of_ble_eq_true rfl⟩ (fun S5 r6 h hn_r6 hp => ?_)
      have hk_a0 : m_kd S5 a0 = 9 := m_kd_pre hp hk_a0 (by decide)
      have hk_b1 : m_kd S5 b1 = 5 := m_kd_pre hp hk_b1 (by decide)
      have hk_b4 : m_kd S5 b4 = 0 := m_kd_pre hp hk_b4 (by decide)
      refine mj_ior dX10_under_83 ?_
      refine mj_callVi (as := [.int (x5 ||| r6)]) (st := []) dX10_under_84 cal_X0_reach lk_X10_238 im_X0_reach se_X0_reach (ci := 0) rfl (by decide) hk_b4 h rfl (Nat.le_of_ble_eq_true rfl) (by decide) ⟨Nat.le_of_ble_eq_true rfl, Nat.le_of_ble_eq_true rfl⟩ (fun S7 r8 h hn_r8 hp => ?_)
      have hk_a0 : m_kd S7 a0 = 9 := m_kd_pre hp hk_a0 (by decide)
      have hk_b1 : m_kd S7 b1 = 5 := m_kd_pre hp hk_b1 (by decide)
      have hk_b4 : m_kd S7 b4 = 0 := m_kd_pre hp hk_b4 (by decide)
      refine mj_istore dX10_under_87 (by decide) rfl rfl ?_
      obtain ⟨v9, ev9⟩ : ∃ z : Int32, z = x6 + (1 : Int32) := ⟨_, rfl⟩
      refine mj_iinc (v := v9) dX10_under_89 rfl (by rw [ev9]; rfl) (by decide) rfl rfl ?_
      replace h := h v9 ev9
      refine mj_goto (tgt := 45) dX10_under_92 (by decide) ?_
      exact h
    · replace h := h.2 hc
      refine mj_iload dX10_under_66 rfl ?_
      exact mj_reti dX10_under_68 rfl ⟨Nat.le_of_ble_eq_true rfl, Nat.le_of_ble_eq_true rfl⟩ h
abbrev V_X10_beyond_0 (l : Launch) (G : mj_G) (a0 : Nat) (x1 : Int32) (x2 : Int32) (S : mj_S) (Q : mj_S → Int32 → Prop) : Prop := mj_V l G (mj_room 2 0 0) RX10 cX10_beyond 5 (some .int) false 0 [some (.ref a0), some (.int x1), some (.int x2), none, none] [] S 0 0 (mj_std G (some .int) (mj_room 2 0 0) (mj_qi Q))
abbrev V_X10_beyond_5 (l : Launch) (G : mj_G) (a0 : Nat) (x1 : Int32) (x2 : Int32) (x3 : Int32) (x4 : Int32) (S : mj_S) (Q : mj_S → Int32 → Prop) : Prop := mj_V l G (mj_room 2 0 0) RX10 cX10_beyond 5 (some .int) false 5 [some (.ref a0), some (.int x1), some (.int x2), some (.int x3), some (.int x4)] [] S 0 0 (mj_std G (some .int) (mj_room 2 0 0) (mj_qi Q))
abbrev V_X10_beyond_58 (l : Launch) (G : mj_G) (a0 : Nat) (x1 : Int32) (x2 : Int32) (x3 : Int32) (x4 : Int32) (S : mj_S) (Q : mj_S → Int32 → Prop) : Prop := mj_V l G (mj_room 2 0 0) RX10 cX10_beyond 5 (some .int) false 58 [some (.ref a0), some (.int x1), some (.int x2), some (.int x3), some (.int x4)] [] S 0 0 (mj_std G (some .int) (mj_room 2 0 0) (mj_qi Q))
theorem e_X10_beyond {l : Launch} {G : mj_G} {a0 : Nat} {x1 : Int32} {x2 : Int32} {S : mj_S} {Q : mj_S → Int32 → Prop} (h : V_X10_beyond_0 l G a0 x1 x2 S Q) : M_X10_beyond l G a0 x1 x2 S Q := mj_enter (r := 2) (ini := false) (by decide +kernel) (fun h => by cases h) (fun _ => Nat.le_of_ble_eq_true rfl) rfl h
set_option maxRecDepth 20000 in
set_option maxHeartbeats 1000000 in
theorem b_X10_beyond_0 {l : Launch} {G : mj_G} {a0 : Nat} {x1 : Int32} {x2 : Int32} {S : mj_S} {Q : mj_S → Int32 → Prop} (hk_a0 : m_kd S a0 = 9) (h : V_X10_beyond_5 l G a0 x1 x2 (0 : Int32) (0 : Int32) S Q) : V_X10_beyond_0 l G a0 x1 x2 S Q := by
  refine mj_iconst (v := 0) dX10_beyond_0 (by decide) ?_
  refine mj_istore_n dX10_beyond_1 rfl (by decide) rfl rfl ?_
  refine mj_iconst (v := 0) dX10_beyond_2 (by decide) ?_
  refine mj_istore dX10_beyond_3 (by decide) rfl rfl ?_
  exact h
set_option maxRecDepth 20000 in
set_option maxHeartbeats 1000000 in
theorem b_X10_beyond_5 {l : Launch} {G : mj_G} {a0 : Nat} {x1 : Int32} {x2 : Int32} {x3 : Int32} {x4 : Int32} {S : mj_S} {Q : mj_S → Int32 → Prop} (hk_a0 : m_kd S a0 = 9) (h : ∃ b1, m_gp S a0 5 = some b1 ∧ ((((m_gi S b1 7) ≤ x4) → Q S x3) ∧ ((¬ ((m_gi S b1 7) ≤ x4)) → M_X10_has l G x2 x4 S (fun S2 r3 => ((r3 = 0) → V_X10_beyond_58 l G a0 x1 x2 x3 x4 S2 Q) ∧ ((¬ (r3 = 0)) → ∃ b4, m_gp S2 a0 5 = some b4 ∧ (∃ b5, m_gp S2 b4 8 = some b5 ∧ (vp_in x4 (m_ln S2 b5) ∧ (M_X10_has l G x1 (m_gi S2 b5 (x4).toNatClampNeg) S2 (fun S6 r7 => ((r7 = 0) → V_X10_beyond_58 l G a0 x1 x2 x3 x4 S6 Q) ∧ ((¬ (r7 = 0)) → ∃ b8, m_gp S6 a0 5 = some b8 ∧ (∃ b9, m_gp S6 b8 9 = some b9 ∧ (vp_in x4 (m_ln S6 b9) ∧ (∀ v10 : Int32, v10 = (x3 ||| ((1 : Int32) <<< ((m_gi S6 b9 (x4).toNatClampNeg) &&& 31))) → V_X10_beyond_58 l G a0 x1 x2 v10 x4 S6 Q))))))))))))) : V_X10_beyond_5 l G a0 x1 x2 x3 x4 S Q := by
  refine mj_iload dX10_beyond_5 rfl ?_
  refine mj_aload_n dX10_beyond_7 rfl rfl ?_
  obtain ⟨b1, eb1, h⟩ := h
  refine mj_getP dX10_beyond_8 fl_X10_41_9 hk_a0 rfl ⟨b1, eb1, fun hk_b1 => ?_⟩
  refine mj_getI dX10_beyond_11 fl_X10_146_5 hk_b1 rfl ?_
  refine mj_icmp_ge (tgt := 105) dX10_beyond_14 (by decide) ⟨fun hc => ?_, fun hc => ?_⟩
  · replace h := h.1 hc
    refine mj_iload_n dX10_beyond_105 rfl rfl ?_
    exact mj_reti dX10_beyond_106 rfl ⟨Nat.le_of_ble_eq_true rfl, Nat.le_of_ble_eq_true rfl⟩ h
  · replace h := h.2 hc
    refine mj_iload_n dX10_beyond_17 rfl rfl ?_
    refine mj_iload dX10_beyond_18 rfl ?_
    refine mj_callSi (as := [.int x2, .int x4]) (st := []) dX10_beyond_20 cal_X10_has lk_X10_190 sm_X10_has h rfl (Nat.le_of_ble_eq_true rfl) (by decide) ⟨Nat.le_of_ble_eq_true rfl, Nat.le_of_ble_eq_true rfl⟩ (fun S2 r3 h hn_r3 hp => ?_)
    have hk_a0 : m_kd S2 a0 = 9 := m_kd_pre hp hk_a0 (by decide)
    have hk_b1 : m_kd S2 b1 = 5 := m_kd_pre hp hk_b1 (by decide)
    refine mj_if_eq (tgt := 58) dX10_beyond_23 (by decide) ⟨fun hc => ?_, fun hc => ?_⟩
    · replace h := h.1 hc
      exact h
    · replace h := h.2 hc
      refine mj_iload_n dX10_beyond_26 rfl rfl ?_
      refine mj_aload_n dX10_beyond_27 rfl rfl ?_
      obtain ⟨b4, eb4, h⟩ := h
      refine mj_getP dX10_beyond_28 fl_X10_41_9 hk_a0 rfl ⟨b4, eb4, fun hk_b4 => ?_⟩
      obtain ⟨b5, eb5, h⟩ := h
      refine mj_getP dX10_beyond_31 fl_X10_172_5 hk_b4 rfl ⟨b5, eb5, fun hk_b5 => ?_⟩
      refine mj_iload dX10_beyond_34 rfl ?_
      refine mj_iald dX10_beyond_36 (Or.inl hk_b5) ⟨h.1, ?_⟩
      replace h := h.2
      refine mj_callSi (as := [.int x1, .int (m_gi S2 b5 (x4).toNatClampNeg)]) (st := []) dX10_beyond_37 cal_X10_has lk_X10_190 sm_X10_has h rfl (Nat.le_of_ble_eq_true rfl) (by decide) ⟨Nat.le_of_ble_eq_true rfl, Nat.le_of_ble_eq_true rfl⟩ (fun S6 r7 h hn_r7 hp => ?_)
      have hk_a0 : m_kd S6 a0 = 9 := m_kd_pre hp hk_a0 (by decide)
      have hk_b1 : m_kd S6 b1 = 5 := m_kd_pre hp hk_b1 (by decide)
      have hk_b4 : m_kd S6 b4 = 5 := m_kd_pre hp hk_b4 (by decide)
      have hk_b5 : m_kd S6 b5 = 100 := m_kd_pre hp hk_b5 (by decide)
      refine mj_if_eq (tgt := 58) dX10_beyond_40 (by decide) ⟨fun hc => ?_, fun hc => ?_⟩
      · replace h := h.1 hc
        exact h
      · replace h := h.2 hc
        refine mj_iload_n dX10_beyond_43 rfl rfl ?_
        refine mj_iconst (v := 1) dX10_beyond_44 (by decide) ?_
        refine mj_aload_n dX10_beyond_45 rfl rfl ?_
        obtain ⟨b8, eb8, h⟩ := h
        refine mj_getP dX10_beyond_46 fl_X10_41_9 hk_a0 rfl ⟨b8, eb8, fun hk_b8 => ?_⟩
        obtain ⟨b9, eb9, h⟩ := h
        refine mj_getP dX10_beyond_49 fl_X10_175_5 hk_b8 rfl ⟨b9, eb9, fun hk_b9 => ?_⟩
        refine mj_iload dX10_beyond_52 rfl ?_
        refine mj_iald dX10_beyond_54 (Or.inl hk_b9) ⟨h.1, ?_⟩
        replace h := h.2
        refine mj_ishl dX10_beyond_55 ?_
        refine mj_ior dX10_beyond_56 ?_
        refine mj_nmi (fun v10 ev10 => ?_)
        replace h := h v10 ev10
        refine mj_istore_n dX10_beyond_57 rfl (by decide) rfl rfl ?_
        exact h
set_option maxRecDepth 20000 in
set_option maxHeartbeats 1000000 in
theorem b_X10_beyond_58 {l : Launch} {G : mj_G} {a0 : Nat} {x1 : Int32} {x2 : Int32} {x3 : Int32} {x4 : Int32} {S : mj_S} {Q : mj_S → Int32 → Prop} (hk_a0 : m_kd S a0 = 9) (h : M_X10_has l G x2 x4 S (fun S1 r2 => ((r2 = 0) → ∀ v3 : Int32, v3 = x4 + (1 : Int32) → V_X10_beyond_5 l G a0 x1 x2 x3 v3 S1 Q) ∧ ((¬ (r2 = 0)) → ∃ b4, m_gp S1 a0 5 = some b4 ∧ (∃ b5, m_gp S1 b4 9 = some b5 ∧ (vp_in x4 (m_ln S1 b5) ∧ (M_X10_has l G x1 (m_gi S1 b5 (x4).toNatClampNeg) S1 (fun S6 r7 => ((r7 = 0) → ∀ v8 : Int32, v8 = x4 + (1 : Int32) → V_X10_beyond_5 l G a0 x1 x2 x3 v8 S6 Q) ∧ ((¬ (r7 = 0)) → ∃ b9, m_gp S6 a0 5 = some b9 ∧ (∃ b10, m_gp S6 b9 8 = some b10 ∧ (vp_in x4 (m_ln S6 b10) ∧ (∀ v11 : Int32, v11 = (x3 ||| ((1 : Int32) <<< ((m_gi S6 b10 (x4).toNatClampNeg) &&& 31))) → ∀ v12 : Int32, v12 = x4 + (1 : Int32) → V_X10_beyond_5 l G a0 x1 x2 v11 v12 S6 Q))))))))))) : V_X10_beyond_58 l G a0 x1 x2 x3 x4 S Q := by
  refine mj_iload_n dX10_beyond_58 rfl rfl ?_
  refine mj_iload dX10_beyond_59 rfl ?_
  refine mj_callSi (as := [.int x2, .int x4]) (st := []) dX10_beyond_61 cal_X10_has lk_X10_190 sm_X10_has h rfl (Nat.le_of_ble_eq_true rfl) (by decide) ⟨Nat.le_of_ble_eq_true rfl, Nat.le_of_ble_eq_true rfl⟩ (fun S1 r2 h hn_r2 hp => ?_)
  have hk_a0 : m_kd S1 a0 = 9 := m_kd_pre hp hk_a0 (by decide)
  refine mj_if_eq (tgt := 99) dX10_beyond_64 (by decide) ⟨fun hc => ?_, fun hc => ?_⟩
  · replace h := h.1 hc
    obtain ⟨v3, ev3⟩ : ∃ z : Int32, z = x4 + (1 : Int32) := ⟨_, rfl⟩
    refine mj_iinc (v := v3) dX10_beyond_99 rfl (by rw [ev3]; rfl) (by decide) rfl rfl ?_
    replace h := h v3 ev3
    refine mj_goto (tgt := 5) dX10_beyond_102 (by decide) ?_
    exact h
  · replace h := h.2 hc
    refine mj_iload_n dX10_beyond_67 rfl rfl ?_
    refine mj_aload_n dX10_beyond_68 rfl rfl ?_
    obtain ⟨b4, eb4, h⟩ := h
    refine mj_getP dX10_beyond_69 fl_X10_41_9 hk_a0 rfl ⟨b4, eb4, fun hk_b4 => ?_⟩
    obtain ⟨b5, eb5, h⟩ := h
    refine mj_getP dX10_beyond_72 fl_X10_175_5 hk_b4 rfl ⟨b5, eb5, fun hk_b5 => ?_⟩
    refine mj_iload dX10_beyond_75 rfl ?_
    refine mj_iald dX10_beyond_77 (Or.inl hk_b5) ⟨h.1, ?_⟩
    replace h := h.2
    refine mj_callSi (as := [.int x1, .int (m_gi S1 b5 (x4).toNatClampNeg)]) (st := []) dX10_beyond_78 cal_X10_has lk_X10_190 sm_X10_has h rfl (Nat.le_of_ble_eq_true rfl) (by decide) ⟨Nat.le_of_ble_eq_true rfl, Nat.le_of_ble_eq_true rfl⟩ (fun S6 r7 h hn_r7 hp => ?_)
    have hk_a0 : m_kd S6 a0 = 9 := m_kd_pre hp hk_a0 (by decide)
    have hk_b4 : m_kd S6 b4 = 5 := m_kd_pre hp hk_b4 (by decide)
    have hk_b5 : m_kd S6 b5 = 100 := m_kd_pre hp hk_b5 (by decide)
    refine mj_if_eq (tgt := 99) dX10_beyond_81 (by decide) ⟨fun hc => ?_, fun hc => ?_⟩
    · replace h := h.1 hc
      obtain ⟨v8, ev8⟩ : ∃ z : Int32, z = x4 + (1 : Int32) := ⟨_, rfl⟩
      refine mj_iinc (v := v8) dX10_beyond_99 rfl (by rw [ev8]; rfl) (by decide) rfl rfl ?_
      replace h := h v8 ev8
      refine mj_goto (tgt := 5) dX10_beyond_102 (by decide) ?_
      exact h
    · replace h := h.2 hc
      refine mj_iload_n dX10_beyond_84 rfl rfl ?_
      refine mj_iconst (v := 1) dX10_beyond_85 (by decide) ?_
      refine mj_aload_n dX10_beyond_86 rfl rfl ?_
      obtain ⟨b9, eb9, h⟩ := h
      refine mj_getP dX10_beyond_87 fl_X10_41_9 hk_a0 rfl ⟨b9, eb9, fun hk_b9 => ?_⟩
      obtain ⟨b10, eb10, h⟩ := h
      refine mj_getP dX10_beyond_90 fl_X10_172_5 hk_b9 rfl ⟨b10, eb10, fun hk_b10 => ?_⟩
      refine mj_iload dX10_beyond_93 rfl ?_
      refine mj_iald dX10_beyond_95 (Or.inl hk_b10) ⟨h.1, ?_⟩
      replace h := h.2
      refine mj_ishl dX10_beyond_96 ?_
      refine mj_ior dX10_beyond_97 ?_
      refine mj_nmi (fun v11 ev11 => ?_)
      replace h := h v11 ev11
      refine mj_istore_n dX10_beyond_98 rfl (by decide) rfl rfl ?_
      obtain ⟨v12, ev12⟩ : ∃ z : Int32, z = x4 + (1 : Int32) := ⟨_, rfl⟩
      refine mj_iinc (v := v12) dX10_beyond_99 rfl (by rw [ev12]; rfl) (by decide) rfl rfl ?_
      replace h := h v12 ev12
      refine mj_goto (tgt := 5) dX10_beyond_102 (by decide) ?_
      exact h
abbrev V_X10_wideEnough_0 (l : Launch) (G : mj_G) (a0 : Nat) (x1 : Int32) (S : mj_S) (Q : mj_S → Int32 → Prop) : Prop := mj_V l G (mj_room 3 0 0) RX10 cX10_wideEnough 5 (some .int) false 0 [some (.ref a0), some (.int x1), none, none, none] [] S 0 0 (mj_std G (some .int) (mj_room 3 0 0) (mj_qi Q))
abbrev V_X10_wideEnough_13 (l : Launch) (G : mj_G) (a0 : Nat) (x1 : Int32) (x2 : Int32) (x3 : Int32) (x4 : Int32) (S : mj_S) (Q : mj_S → Int32 → Prop) : Prop := mj_V l G (mj_room 3 0 0) RX10 cX10_wideEnough 5 (some .int) false 13 [some (.ref a0), some (.int x1), some (.int x2), some (.int x3), some (.int x4)] [] S 0 0 (mj_std G (some .int) (mj_room 3 0 0) (mj_qi Q))
theorem e_X10_wideEnough {l : Launch} {G : mj_G} {a0 : Nat} {x1 : Int32} {S : mj_S} {Q : mj_S → Int32 → Prop} (h : V_X10_wideEnough_0 l G a0 x1 S Q) : M_X10_wideEnough l G a0 x1 S Q := mj_enter (r := 3) (ini := false) (by decide +kernel) (fun h => by cases h) (fun _ => Nat.le_of_ble_eq_true rfl) rfl h
set_option maxRecDepth 20000 in
set_option maxHeartbeats 1000000 in
theorem b_X10_wideEnough_0 {l : Launch} {G : mj_G} {a0 : Nat} {x1 : Int32} {S : mj_S} {Q : mj_S → Int32 → Prop} (hk_a0 : m_kd S a0 = 9) (h : ∃ b1, m_gp S a0 7 = some b1 ∧ (M_X8_hung l G b1 S (fun S2 r3 => V_X10_wideEnough_13 l G a0 x1 r3 (0 : Int32) (0 : Int32) S2 Q))) : V_X10_wideEnough_0 l G a0 x1 S Q := by
  refine mj_aload_n dX10_wideEnough_0 rfl rfl ?_
  obtain ⟨b1, eb1, h⟩ := h
  refine mj_getP dX10_wideEnough_1 fl_X10_51_9 hk_a0 rfl ⟨b1, eb1, fun hk_b1 => ?_⟩
  refine mj_callVi (as := []) (st := []) dX10_wideEnough_4 cal_X8_hung lk_X10_194 im_X8_hung se_X8_hung (ci := 7) rfl (by decide) hk_b1 h rfl (Nat.le_of_ble_eq_true rfl) (by decide) ⟨Nat.le_of_ble_eq_true rfl, Nat.le_of_ble_eq_true rfl⟩ (fun S2 r3 h hn_r3 hp => ?_)
  have hk_a0 : m_kd S2 a0 = 9 := m_kd_pre hp hk_a0 (by decide)
  have hk_b1 : m_kd S2 b1 = 7 := m_kd_pre hp hk_b1 (by decide)
  refine mj_istore_n dX10_wideEnough_7 rfl (by decide) rfl rfl ?_
  refine mj_iconst (v := 0) dX10_wideEnough_8 (by decide) ?_
  refine mj_istore_n dX10_wideEnough_9 rfl (by decide) rfl rfl ?_
  refine mj_iconst (v := 0) dX10_wideEnough_10 (by decide) ?_
  refine mj_istore dX10_wideEnough_11 (by decide) rfl rfl ?_
  exact h
set_option maxRecDepth 20000 in
set_option maxHeartbeats 1000000 in
theorem b_X10_wideEnough_13 {l : Launch} {G : mj_G} {a0 : Nat} {x1 : Int32} {x2 : Int32} {x3 : Int32} {x4 : Int32} {S : mj_S} {Q : mj_S → Int32 → Prop} (hk_a0 : m_kd S a0 = 9) (h : ∃ b1, m_gp S a0 5 = some b1 ∧ ((((m_gi S b1 7) ≤ x4) → Q S x3) ∧ ((¬ ((m_gi S b1 7) ≤ x4)) → M_X10_has l G x2 x4 S (fun S2 r3 => ((r3 = 0) → ∀ v4 : Int32, v4 = x4 + (1 : Int32) → V_X10_wideEnough_13 l G a0 x1 x2 x3 v4 S2 Q) ∧ ((¬ (r3 = 0)) → ∃ b5, m_gp S2 a0 5 = some b5 ∧ (∃ b6, m_gp S2 b5 12 = some b6 ∧ (vp_in x4 (m_ln S2 b6) ∧ ((((m_gi S2 b6 (x4).toNatClampNeg) < x1) → ∀ v7 : Int32, v7 = x4 + (1 : Int32) → V_X10_wideEnough_13 l G a0 x1 x2 x3 v7 S2 Q) ∧ ((¬ ((m_gi S2 b6 (x4).toNatClampNeg) < x1)) → ∀ v8 : Int32, v8 = (x3 ||| ((1 : Int32) <<< (x4 &&& 31))) → ∀ v9 : Int32, v9 = x4 + (1 : Int32) → V_X10_wideEnough_13 l G a0 x1 x2 v8 v9 S2 Q))))))))) : V_X10_wideEnough_13 l G a0 x1 x2 x3 x4 S Q := by
  refine mj_iload dX10_wideEnough_13 rfl ?_
  refine mj_aload_n dX10_wideEnough_15 rfl rfl ?_
  obtain ⟨b1, eb1, h⟩ := h
  refine mj_getP dX10_wideEnough_16 fl_X10_41_9 hk_a0 rfl ⟨b1, eb1, fun hk_b1 => ?_⟩
  refine mj_getI dX10_wideEnough_19 fl_X10_146_5 hk_b1 rfl ?_
  refine mj_icmp_ge (tgt := 61) dX10_wideEnough_22 (by decide) ⟨fun hc => ?_, fun hc => ?_⟩
  · replace h := h.1 hc
    refine mj_iload_n dX10_wideEnough_61 rfl rfl ?_
    exact mj_reti dX10_wideEnough_62 rfl ⟨Nat.le_of_ble_eq_true rfl, Nat.le_of_ble_eq_true rfl⟩ h
  · replace h := h.2 hc
    refine mj_iload_n dX10_wideEnough_25 rfl rfl ?_
    refine mj_iload dX10_wideEnough_26 rfl ?_
    refine mj_callSi (as := [.int x2, .int x4]) (st := []) dX10_wideEnough_28 cal_X10_has lk_X10_190 sm_X10_has h rfl (Nat.le_of_ble_eq_true rfl) (by decide) ⟨Nat.le_of_ble_eq_true rfl, Nat.le_of_ble_eq_true rfl⟩ (fun S2 r3 h hn_r3 hp => ?_)
    have hk_a0 : m_kd S2 a0 = 9 := m_kd_pre hp hk_a0 (by decide)
    have hk_b1 : m_kd S2 b1 = 5 := m_kd_pre hp hk_b1 (by decide)
    refine mj_if_eq (tgt := 55) dX10_wideEnough_31 (by decide) ⟨fun hc => ?_, fun hc => ?_⟩
    · replace h := h.1 hc
      obtain ⟨v4, ev4⟩ : ∃ z : Int32, z = x4 + (1 : Int32) := ⟨_, rfl⟩
      refine mj_iinc (v := v4) dX10_wideEnough_55 rfl (by rw [ev4]; rfl) (by decide) rfl rfl ?_
      replace h := h v4 ev4
      refine mj_goto (tgt := 13) dX10_wideEnough_58 (by decide) ?_
      exact h
    · replace h := h.2 hc
      refine mj_aload_n dX10_wideEnough_34 rfl rfl ?_
      obtain ⟨b5, eb5, h⟩ := h
      refine mj_getP dX10_wideEnough_35 fl_X10_41_9 hk_a0 rfl ⟨b5, eb5, fun hk_b5 => ?_⟩
      obtain ⟨b6, eb6, h⟩ := h
      refine mj_getP dX10_wideEnough_38 fl_X10_184_5 hk_b5 rfl ⟨b6, eb6, fun hk_b6 => ?_⟩
      refine mj_iload dX10_wideEnough_41 rfl ?_
      refine mj_iald dX10_wideEnough_43 (Or.inl hk_b6) ⟨h.1, ?_⟩
      replace h := h.2
      refine mj_iload_n dX10_wideEnough_44 rfl rfl ?_
      refine mj_icmp_lt (tgt := 55) dX10_wideEnough_45 (by decide) ⟨fun hc => ?_, fun hc => ?_⟩
      · replace h := h.1 hc
        obtain ⟨v7, ev7⟩ : ∃ z : Int32, z = x4 + (1 : Int32) := ⟨_, rfl⟩
        refine mj_iinc (v := v7) dX10_wideEnough_55 rfl (by rw [ev7]; rfl) (by decide) rfl rfl ?_
        replace h := h v7 ev7
        refine mj_goto (tgt := 13) dX10_wideEnough_58 (by decide) ?_
        exact h
      · replace h := h.2 hc
        refine mj_iload_n dX10_wideEnough_48 rfl rfl ?_
        refine mj_iconst (v := 1) dX10_wideEnough_49 (by decide) ?_
        refine mj_iload dX10_wideEnough_50 rfl ?_
        refine mj_ishl dX10_wideEnough_52 ?_
        refine mj_ior dX10_wideEnough_53 ?_
        refine mj_nmi (fun v8 ev8 => ?_)
        replace h := h v8 ev8
        refine mj_istore_n dX10_wideEnough_54 rfl (by decide) rfl rfl ?_
        obtain ⟨v9, ev9⟩ : ∃ z : Int32, z = x4 + (1 : Int32) := ⟨_, rfl⟩
        refine mj_iinc (v := v9) dX10_wideEnough_55 rfl (by rw [ev9]; rfl) (by decide) rfl rfl ?_
        replace h := h v9 ev9
        refine mj_goto (tgt := 13) dX10_wideEnough_58 (by decide) ?_
        exact h
abbrev V_X10_lead_0 (l : Launch) (G : mj_G) (a0 : Nat) (x1 : Int32) (S : mj_S) (Q : mj_S → Int32 → Prop) : Prop := mj_V l G (mj_room 4 0 0) RX10 cX10_lead 2 (some .int) false 0 [some (.ref a0), some (.int x1)] [] S 0 0 (mj_std G (some .int) (mj_room 4 0 0) (mj_qi Q))
theorem e_X10_lead {l : Launch} {G : mj_G} {a0 : Nat} {x1 : Int32} {S : mj_S} {Q : mj_S → Int32 → Prop} (h : V_X10_lead_0 l G a0 x1 S Q) : M_X10_lead l G a0 x1 S Q := mj_enter (r := 0) (ini := false) (by decide +kernel) (fun h => by cases h) (fun _ => Nat.le_of_ble_eq_true rfl) rfl h
set_option maxRecDepth 20000 in
set_option maxHeartbeats 1000000 in
theorem b_X10_lead_0 {l : Launch} {G : mj_G} {a0 : Nat} {x1 : Int32} {S : mj_S} {Q : mj_S → Int32 → Prop} (hk_a0 : m_kd S a0 = 9) (h : M_X10_hasRoom l G a0 S (fun S1 r2 => ((r2 = 0) → Q S1 (-1 : Int32)) ∧ ((¬ (r2 = 0)) → M_X10_within l G x1 (0 : Int32) (9 : Int32) S1 (fun S3 r4 => ((r4 = 0) → Q S3 (-1 : Int32)) ∧ ((¬ (r4 = 0)) → M_X10_wideEnough l G a0 x1 S3 (fun S5 r6 => Q S5 r6)))))) : V_X10_lead_0 l G a0 x1 S Q := by
  refine mj_aload_n dX10_lead_0 rfl rfl ?_
  refine mj_callVi (as := []) (st := []) dX10_lead_1 cal_X10_hasRoom lk_X10_152 im_X10_hasRoom se_X10_hasRoom (ci := 9) rfl (by decide) hk_a0 h rfl (Nat.le_of_ble_eq_true rfl) (by decide) ⟨Nat.le_of_ble_eq_true rfl, Nat.le_of_ble_eq_true rfl⟩ (fun S1 r2 h hn_r2 hp => ?_)
  have hk_a0 : m_kd S1 a0 = 9 := m_kd_pre hp hk_a0 (by decide)
  refine mj_if_eq (tgt := 25) dX10_lead_4 (by decide) ⟨fun hc => ?_, fun hc => ?_⟩
  · replace h := h.1 hc
    refine mj_iconst (v := (-1)) dX10_lead_25 (by decide) ?_
    exact mj_reti dX10_lead_26 rfl ⟨Nat.le_of_ble_eq_true rfl, Nat.le_of_ble_eq_true rfl⟩ h
  · replace h := h.2 hc
    refine mj_iload_n dX10_lead_7 rfl rfl ?_
    refine mj_iconst (v := 0) dX10_lead_8 (by decide) ?_
    refine mj_bipush (v := 9) dX10_lead_9 (by decide) ?_
    refine mj_callSi (as := [.int x1, .int (0 : Int32), .int (9 : Int32)]) (st := []) dX10_lead_11 cal_X10_within lk_X10_204 sm_X10_within h rfl (Nat.le_of_ble_eq_true rfl) (by decide) ⟨Nat.le_of_ble_eq_true rfl, Nat.le_of_ble_eq_true rfl⟩ (fun S3 r4 h hn_r4 hp => ?_)
    have hk_a0 : m_kd S3 a0 = 9 := m_kd_pre hp hk_a0 (by decide)
    refine mj_if_eq (tgt := 25) dX10_lead_14 (by decide) ⟨fun hc => ?_, fun hc => ?_⟩
    · replace h := h.1 hc
      refine mj_iconst (v := (-1)) dX10_lead_25 (by decide) ?_
      exact mj_reti dX10_lead_26 rfl ⟨Nat.le_of_ble_eq_true rfl, Nat.le_of_ble_eq_true rfl⟩ h
    · replace h := h.2 hc
      refine mj_aload_n dX10_lead_17 rfl rfl ?_
      refine mj_iload_n dX10_lead_18 rfl rfl ?_
      refine mj_callVi (as := [.int x1]) (st := []) dX10_lead_19 cal_X10_wideEnough lk_X10_357 im_X10_wideEnough se_X10_wideEnough (ci := 9) rfl (by decide) hk_a0 h rfl (Nat.le_of_ble_eq_true rfl) (by decide) ⟨Nat.le_of_ble_eq_true rfl, Nat.le_of_ble_eq_true rfl⟩ (fun S5 r6 h hn_r6 hp => ?_)
      have hk_a0 : m_kd S5 a0 = 9 := m_kd_pre hp hk_a0 (by decide)
      refine mj_goto (tgt := 26) dX10_lead_22 (by decide) ?_
      exact mj_reti dX10_lead_26 rfl ⟨Nat.le_of_ble_eq_true rfl, Nat.le_of_ble_eq_true rfl⟩ h
abbrev V_X10_first_0 (l : Launch) (G : mj_G) (a0 : Nat) (x1 : Int32) (S : mj_S) (Q : mj_S → Int32 → Prop) : Prop := mj_V l G (mj_room 7 0 0) RX10 cX10_first 4 (some .int) false 0 [some (.ref a0), some (.int x1), none, none] [] S 0 0 (mj_std G (some .int) (mj_room 7 0 0) (mj_qi Q))
abbrev V_X10_first_41 (l : Launch) (G : mj_G) (a0 : Nat) (x1 : Int32) (x2 : Int32) (S : mj_S) (Q : mj_S → Int32 → Prop) : Prop := mj_V l G (mj_room 7 0 0) RX10 cX10_first 4 (some .int) false 41 [some (.ref a0), some (.int x1), some (.int x2), none] [] S 0 0 (mj_std G (some .int) (mj_room 7 0 0) (mj_qi Q))
theorem e_X10_first {l : Launch} {G : mj_G} {a0 : Nat} {x1 : Int32} {S : mj_S} {Q : mj_S → Int32 → Prop} (h : V_X10_first_0 l G a0 x1 S Q) : M_X10_first l G a0 x1 S Q := mj_enter (r := 2) (ini := false) (by decide +kernel) (fun h => by cases h) (fun _ => Nat.le_of_ble_eq_true rfl) rfl h
set_option maxRecDepth 20000 in
set_option maxHeartbeats 1000000 in
theorem b_X10_first_0 {l : Launch} {G : mj_G} {a0 : Nat} {x1 : Int32} {S : mj_S} {Q : mj_S → Int32 → Prop} (hk_a0 : m_kd S a0 = 9) (h : M_X10_hasRoom l G a0 S (fun S1 r2 => ((r2 = 0) → Q S1 (-1 : Int32)) ∧ ((¬ (r2 = 0)) → M_X10_within l G x1 (0 : Int32) (1 : Int32) S1 (fun S3 r4 => ((r4 = 0) → Q S3 (-1 : Int32)) ∧ ((¬ (r4 = 0)) → ∃ b5, m_gp S3 a0 7 = some b5 ∧ (M_X8_hung l G b5 S3 (fun S6 r7 => ((¬ r7 = 0) → ∃ b8, m_gp S6 a0 8 = some b8 ∧ (∃ b9, m_gp S6 a0 7 = some b9 ∧ (M_X8_follow l G b8 b9 S6 (fun S10 => V_X10_first_41 l G a0 x1 (1 : Int32) S10 Q)))) ∧ ((r7 = 0) → Q S6 (-1 : Int32))))))))) : V_X10_first_0 l G a0 x1 S Q := by
  refine mj_aload_n dX10_first_0 rfl rfl ?_
  refine mj_callVi (as := []) (st := []) dX10_first_1 cal_X10_hasRoom lk_X10_152 im_X10_hasRoom se_X10_hasRoom (ci := 9) rfl (by decide) hk_a0 h rfl (Nat.le_of_ble_eq_true rfl) (by decide) ⟨Nat.le_of_ble_eq_true rfl, Nat.le_of_ble_eq_true rfl⟩ (fun S1 r2 h hn_r2 hp => ?_)
  have hk_a0 : m_kd S1 a0 = 9 := m_kd_pre hp hk_a0 (by decide)
  refine mj_if_eq (tgt := 26) dX10_first_4 (by decide) ⟨fun hc => ?_, fun hc => ?_⟩
  · replace h := h.1 hc
    refine mj_iconst (v := (-1)) dX10_first_26 (by decide) ?_
    exact mj_reti dX10_first_27 rfl ⟨Nat.le_of_ble_eq_true rfl, Nat.le_of_ble_eq_true rfl⟩ h
  · replace h := h.2 hc
    refine mj_iload_n dX10_first_7 rfl rfl ?_
    refine mj_iconst (v := 0) dX10_first_8 (by decide) ?_
    refine mj_iconst (v := 1) dX10_first_9 (by decide) ?_
    refine mj_callSi (as := [.int x1, .int (0 : Int32), .int (1 : Int32)]) (st := []) dX10_first_10 cal_X10_within lk_X10_204 sm_X10_within h rfl (Nat.le_of_ble_eq_true rfl) (by decide) ⟨Nat.le_of_ble_eq_true rfl, Nat.le_of_ble_eq_true rfl⟩ (fun S3 r4 h hn_r4 hp => ?_)
    have hk_a0 : m_kd S3 a0 = 9 := m_kd_pre hp hk_a0 (by decide)
    refine mj_if_eq (tgt := 26) dX10_first_13 (by decide) ⟨fun hc => ?_, fun hc => ?_⟩
    · replace h := h.1 hc
      refine mj_iconst (v := (-1)) dX10_first_26 (by decide) ?_
      exact mj_reti dX10_first_27 rfl ⟨Nat.le_of_ble_eq_true rfl, Nat.le_of_ble_eq_true rfl⟩ h
    · replace h := h.2 hc
      refine mj_aload_n dX10_first_16 rfl rfl ?_
      obtain ⟨b5, eb5, h⟩ := h
      refine mj_getP dX10_first_17 fl_X10_51_9 hk_a0 rfl ⟨b5, eb5, fun hk_b5 => ?_⟩
      refine mj_callVi (as := []) (st := []) dX10_first_20 cal_X8_hung lk_X10_194 im_X8_hung se_X8_hung (ci := 7) rfl (by decide) hk_b5 h rfl (Nat.le_of_ble_eq_true rfl) (by decide) ⟨Nat.le_of_ble_eq_true rfl, Nat.le_of_ble_eq_true rfl⟩ (fun S6 r7 h hn_r7 hp => ?_)
      have hk_a0 : m_kd S6 a0 = 9 := m_kd_pre hp hk_a0 (by decide)
      have hk_b5 : m_kd S6 b5 = 7 := m_kd_pre hp hk_b5 (by decide)
      refine mj_if_ne (tgt := 28) dX10_first_23 (by decide) ⟨fun hc => ?_, fun hc => ?_⟩
      · replace h := h.1 hc
        refine mj_aload_n dX10_first_28 rfl rfl ?_
        obtain ⟨b8, eb8, h⟩ := h
        refine mj_getP dX10_first_29 fl_X10_55_9 hk_a0 rfl ⟨b8, eb8, fun hk_b8 => ?_⟩
        refine mj_aload_n dX10_first_32 rfl rfl ?_
        obtain ⟨b9, eb9, h⟩ := h
        refine mj_getP dX10_first_33 fl_X10_51_9 hk_a0 rfl ⟨b9, eb9, fun hk_b9 => ?_⟩
        refine mj_callVv (as := [.ref b9]) (st := []) dX10_first_36 cal_X8_follow lk_X10_363 im_X8_follow se_X8_follow (ci := 7) rfl (by decide) hk_b8 h rfl (Nat.le_of_ble_eq_true rfl) (by decide) ⟨Nat.le_of_ble_eq_true rfl, Nat.le_of_ble_eq_true rfl⟩ (fun S10 h hp => ?_)
        have hk_a0 : m_kd S10 a0 = 9 := m_kd_pre hp hk_a0 (by decide)
        have hk_b5 : m_kd S10 b5 = 7 := m_kd_pre hp hk_b5 (by decide)
        have hk_b8 : m_kd S10 b8 = 7 := m_kd_pre hp hk_b8 (by decide)
        have hk_b9 : m_kd S10 b9 = 7 := m_kd_pre hp hk_b9 (by decide)
        refine mj_iconst (v := 1) dX10_first_39 (by decide) ?_
        refine mj_istore_n dX10_first_40 rfl (by decide) rfl rfl ?_
        exact h
      · replace h := h.2 hc
        refine mj_iconst (v := (-1)) dX10_first_26 (by decide) ?_
        exact mj_reti dX10_first_27 rfl ⟨Nat.le_of_ble_eq_true rfl, Nat.le_of_ble_eq_true rfl⟩ h
set_option maxRecDepth 20000 in
set_option maxHeartbeats 1000000 in
theorem b_X10_first_41 {l : Launch} {G : mj_G} {a0 : Nat} {x1 : Int32} {x2 : Int32} {S : mj_S} {Q : mj_S → Int32 → Prop} (hk_a0 : m_kd S a0 = 9) (h : (((200 : Int32) < x2) → Q S (-1 : Int32)) ∧ ((¬ ((200 : Int32) < x2)) → ∃ b1, m_gp S a0 8 = some b1 ∧ (M_X10_shine l G a0 b1 S (fun S2 => ∃ b3, m_gp S2 a0 8 = some b3 ∧ (∃ b4, m_gp S2 a0 11 = some b4 ∧ (∃ b5, m_gp S2 b4 0 = some b5 ∧ (M_X8_wear l G b3 b5 S2 (fun S6 r7 => ((r7 = 0) → ∀ v8 : Int32, v8 = x2 + (1 : Int32) → V_X10_first_41 l G a0 x1 v8 S6 Q) ∧ ((¬ (r7 = 0)) → ((¬ x1 = 0) → Q S6 x2) ∧ ((x1 = 0) → M_X10_lowest l G r7 S6 (fun S9 r10 => Q S9 r10))))))))))) : V_X10_first_41 l G a0 x1 x2 S Q := by
  refine mj_iload_n dX10_first_41 rfl rfl ?_
  refine mj_sipush (v := 200) dX10_first_42 (by decide) ?_
  refine mj_icmp_gt (tgt := 94) dX10_first_45 (by decide) ⟨fun hc => ?_, fun hc => ?_⟩
  · replace h := h.1 hc
    refine mj_iconst (v := (-1)) dX10_first_94 (by decide) ?_
    exact mj_reti dX10_first_95 rfl ⟨Nat.le_of_ble_eq_true rfl, Nat.le_of_ble_eq_true rfl⟩ h
  · replace h := h.2 hc
    refine mj_aload_n dX10_first_48 rfl rfl ?_
    refine mj_aload_n dX10_first_49 rfl rfl ?_
    obtain ⟨b1, eb1, h⟩ := h
    refine mj_getP dX10_first_50 fl_X10_55_9 hk_a0 rfl ⟨b1, eb1, fun hk_b1 => ?_⟩
    refine mj_callVv (as := [.ref b1]) (st := []) dX10_first_53 cal_X10_shine lk_X10_261 im_X10_shine se_X10_shine (ci := 9) rfl (by decide) hk_a0 h rfl (Nat.le_of_ble_eq_true rfl) (by decide) ⟨Nat.le_of_ble_eq_true rfl, Nat.le_of_ble_eq_true rfl⟩ (fun S2 h hp => ?_)
    have hk_a0 : m_kd S2 a0 = 9 := m_kd_pre hp hk_a0 (by decide)
    have hk_b1 : m_kd S2 b1 = 7 := m_kd_pre hp hk_b1 (by decide)
    refine mj_aload_n dX10_first_56 rfl rfl ?_
    obtain ⟨b3, eb3, h⟩ := h
    refine mj_getP dX10_first_57 fl_X10_55_9 hk_a0 rfl ⟨b3, eb3, fun hk_b3 => ?_⟩
    refine mj_aload_n dX10_first_60 rfl rfl ?_
    obtain ⟨b4, eb4, h⟩ := h
    refine mj_getP dX10_first_61 fl_X10_75_9 hk_a0 rfl ⟨b4, eb4, fun hk_b4 => ?_⟩
    obtain ⟨b5, eb5, h⟩ := h
    refine mj_getP dX10_first_64 fl_X10_265_3 hk_b4 rfl ⟨b5, eb5, fun hk_b5 => ?_⟩
    refine mj_callVi (as := [.ref b5]) (st := []) dX10_first_67 cal_X8_wear lk_X10_293 im_X8_wear se_X8_wear (ci := 7) rfl (by decide) hk_b3 h rfl (Nat.le_of_ble_eq_true rfl) (by decide) ⟨Nat.le_of_ble_eq_true rfl, Nat.le_of_ble_eq_true rfl⟩ (fun S6 r7 h hn_r7 hp => ?_)
    have hk_a0 : m_kd S6 a0 = 9 := m_kd_pre hp hk_a0 (by decide)
    have hk_b1 : m_kd S6 b1 = 7 := m_kd_pre hp hk_b1 (by decide)
    have hk_b3 : m_kd S6 b3 = 7 := m_kd_pre hp hk_b3 (by decide)
    have hk_b4 : m_kd S6 b4 = 3 := m_kd_pre hp hk_b4 (by decide)
    have hk_b5 : m_kd S6 b5 = 100 := m_kd_pre hp hk_b5 (by decide)
    refine mj_istore_n dX10_first_70 rfl (by decide) rfl rfl ?_
    refine mj_iload_n dX10_first_71 rfl rfl ?_
    refine mj_if_eq (tgt := 88) dX10_first_72 (by decide) ⟨fun hc => ?_, fun hc => ?_⟩
    · replace h := h.1 hc
      obtain ⟨v8, ev8⟩ : ∃ z : Int32, z = x2 + (1 : Int32) := ⟨_, rfl⟩
      refine mj_iinc (v := v8) dX10_first_88 rfl (by rw [ev8]; rfl) (by decide) rfl rfl ?_
      replace h := h v8 ev8
      refine mj_goto (tgt := 41) dX10_first_91 (by decide) ?_
      exact mj_lessm [true, true, true, false] rfl h
    · replace h := h.2 hc
      refine mj_iload_n dX10_first_75 rfl rfl ?_
      refine mj_if_ne (tgt := 86) dX10_first_76 (by decide) ⟨fun hc => ?_, fun hc => ?_⟩
      · replace h := h.1 hc
        refine mj_iload_n dX10_first_86 rfl rfl ?_
        exact mj_reti dX10_first_87 rfl ⟨Nat.le_of_ble_eq_true rfl, Nat.le_of_ble_eq_true rfl⟩ h
      · replace h := h.2 hc
        refine mj_iload_n dX10_first_79 rfl rfl ?_
        refine mj_callSi (as := [.int r7]) (st := []) dX10_first_80 cal_X10_lowest lk_X10_220 sm_X10_lowest h rfl (Nat.le_of_ble_eq_true rfl) (by decide) ⟨Nat.le_of_ble_eq_true rfl, Nat.le_of_ble_eq_true rfl⟩ (fun S9 r10 h hn_r10 hp => ?_)
        have hk_a0 : m_kd S9 a0 = 9 := m_kd_pre hp hk_a0 (by decide)
        have hk_b1 : m_kd S9 b1 = 7 := m_kd_pre hp hk_b1 (by decide)
        have hk_b3 : m_kd S9 b3 = 7 := m_kd_pre hp hk_b3 (by decide)
        have hk_b4 : m_kd S9 b4 = 3 := m_kd_pre hp hk_b4 (by decide)
        have hk_b5 : m_kd S9 b5 = 100 := m_kd_pre hp hk_b5 (by decide)
        refine mj_goto (tgt := 87) dX10_first_83 (by decide) ?_
        exact mj_reti dX10_first_87 rfl ⟨Nat.le_of_ble_eq_true rfl, Nat.le_of_ble_eq_true rfl⟩ h
abbrev V_X10_cloth_0 (l : Launch) (G : mj_G) (a0 : Nat) (x1 : Int32) (S : mj_S) (Q : mj_S → Int32 → Prop) : Prop := mj_V l G (mj_room 7 0 0) RX10 cX10_cloth 3 (some .int) false 0 [some (.ref a0), some (.int x1), none] [] S 0 0 (mj_std G (some .int) (mj_room 7 0 0) (mj_qi Q))
abbrev V_X10_cloth_32 (l : Launch) (G : mj_G) (a0 : Nat) (x1 : Int32) (x2 : Int32) (S : mj_S) (Q : mj_S → Int32 → Prop) : Prop := mj_V l G (mj_room 7 0 0) RX10 cX10_cloth 3 (some .int) false 32 [some (.ref a0), some (.int x1), some (.int x2)] [] S 0 0 (mj_std G (some .int) (mj_room 7 0 0) (mj_qi Q))
theorem e_X10_cloth {l : Launch} {G : mj_G} {a0 : Nat} {x1 : Int32} {S : mj_S} {Q : mj_S → Int32 → Prop} (h : V_X10_cloth_0 l G a0 x1 S Q) : M_X10_cloth l G a0 x1 S Q := mj_enter (r := 1) (ini := false) (by decide +kernel) (fun h => by cases h) (fun _ => Nat.le_of_ble_eq_true rfl) rfl h
set_option maxRecDepth 20000 in
set_option maxHeartbeats 1000000 in
theorem b_X10_cloth_0 {l : Launch} {G : mj_G} {a0 : Nat} {x1 : Int32} {S : mj_S} {Q : mj_S → Int32 → Prop} (hk_a0 : m_kd S a0 = 9) (h : M_X10_hasRoom l G a0 S (fun S1 r2 => ((r2 = 0) → Q S1 (-1 : Int32)) ∧ ((¬ (r2 = 0)) → M_X10_within l G x1 (1 : Int32) (60 : Int32) S1 (fun S3 r4 => ((¬ r4 = 0) → ∃ b5, m_gp S3 a0 8 = some b5 ∧ (∃ b6, m_gp S3 a0 7 = some b6 ∧ (M_X8_follow l G b5 b6 S3 (fun S7 => V_X10_cloth_32 l G a0 x1 (0 : Int32) S7 Q)))) ∧ ((r4 = 0) → Q S3 (-1 : Int32)))))) : V_X10_cloth_0 l G a0 x1 S Q := by
  refine mj_aload_n dX10_cloth_0 rfl rfl ?_
  refine mj_callVi (as := []) (st := []) dX10_cloth_1 cal_X10_hasRoom lk_X10_152 im_X10_hasRoom se_X10_hasRoom (ci := 9) rfl (by decide) hk_a0 h rfl (Nat.le_of_ble_eq_true rfl) (by decide) ⟨Nat.le_of_ble_eq_true rfl, Nat.le_of_ble_eq_true rfl⟩ (fun S1 r2 h hn_r2 hp => ?_)
  have hk_a0 : m_kd S1 a0 = 9 := m_kd_pre hp hk_a0 (by decide)
  refine mj_if_eq (tgt := 17) dX10_cloth_4 (by decide) ⟨fun hc => ?_, fun hc => ?_⟩
  · replace h := h.1 hc
    refine mj_iconst (v := (-1)) dX10_cloth_17 (by decide) ?_
    exact mj_reti dX10_cloth_18 rfl ⟨Nat.le_of_ble_eq_true rfl, Nat.le_of_ble_eq_true rfl⟩ h
  · replace h := h.2 hc
    refine mj_iload_n dX10_cloth_7 rfl rfl ?_
    refine mj_iconst (v := 1) dX10_cloth_8 (by decide) ?_
    refine mj_bipush (v := 60) dX10_cloth_9 (by decide) ?_
    refine mj_callSi (as := [.int x1, .int (1 : Int32), .int (60 : Int32)]) (st := []) dX10_cloth_11 cal_X10_within lk_X10_204 sm_X10_within h rfl (Nat.le_of_ble_eq_true rfl) (by decide) ⟨Nat.le_of_ble_eq_true rfl, Nat.le_of_ble_eq_true rfl⟩ (fun S3 r4 h hn_r4 hp => ?_)
    have hk_a0 : m_kd S3 a0 = 9 := m_kd_pre hp hk_a0 (by decide)
    refine mj_if_ne (tgt := 19) dX10_cloth_14 (by decide) ⟨fun hc => ?_, fun hc => ?_⟩
    · replace h := h.1 hc
      refine mj_aload_n dX10_cloth_19 rfl rfl ?_
      obtain ⟨b5, eb5, h⟩ := h
      refine mj_getP dX10_cloth_20 fl_X10_55_9 hk_a0 rfl ⟨b5, eb5, fun hk_b5 => ?_⟩
      refine mj_aload_n dX10_cloth_23 rfl rfl ?_
      obtain ⟨b6, eb6, h⟩ := h
      refine mj_getP dX10_cloth_24 fl_X10_51_9 hk_a0 rfl ⟨b6, eb6, fun hk_b6 => ?_⟩
      refine mj_callVv (as := [.ref b6]) (st := []) dX10_cloth_27 cal_X8_follow lk_X10_363 im_X8_follow se_X8_follow (ci := 7) rfl (by decide) hk_b5 h rfl (Nat.le_of_ble_eq_true rfl) (by decide) ⟨Nat.le_of_ble_eq_true rfl, Nat.le_of_ble_eq_true rfl⟩ (fun S7 h hp => ?_)
      have hk_a0 : m_kd S7 a0 = 9 := m_kd_pre hp hk_a0 (by decide)
      have hk_b5 : m_kd S7 b5 = 7 := m_kd_pre hp hk_b5 (by decide)
      have hk_b6 : m_kd S7 b6 = 7 := m_kd_pre hp hk_b6 (by decide)
      refine mj_iconst (v := 0) dX10_cloth_30 (by decide) ?_
      refine mj_istore_n dX10_cloth_31 rfl (by decide) rfl rfl ?_
      exact h
    · replace h := h.2 hc
      refine mj_iconst (v := (-1)) dX10_cloth_17 (by decide) ?_
      exact mj_reti dX10_cloth_18 rfl ⟨Nat.le_of_ble_eq_true rfl, Nat.le_of_ble_eq_true rfl⟩ h
set_option maxRecDepth 20000 in
set_option maxHeartbeats 1000000 in
theorem b_X10_cloth_32 {l : Launch} {G : mj_G} {a0 : Nat} {x1 : Int32} {x2 : Int32} {S : mj_S} {Q : mj_S → Int32 → Prop} (hk_a0 : m_kd S a0 = 9) (h : ((x1 ≤ x2) → ∃ b1, m_gp S a0 7 = some b1 ∧ (M_X8_fabricOfAll l G b1 S (fun S2 r3 => ∃ b4, m_gp S2 a0 8 = some b4 ∧ (M_X8_fabricOfAll l G b4 S2 (fun S5 r6 => Q S5 (r3 - r6)))))) ∧ ((¬ (x1 ≤ x2)) → ∃ b7, m_gp S a0 8 = some b7 ∧ (M_X10_shine l G a0 b7 S (fun S8 => ∃ b9, m_gp S8 a0 8 = some b9 ∧ (∃ b10, m_gp S8 a0 11 = some b10 ∧ (∃ b11, m_gp S8 b10 0 = some b11 ∧ (M_X8_wear l G b9 b11 S8 (fun S12 r13 => ∀ v14 : Int32, v14 = x2 + (1 : Int32) → V_X10_cloth_32 l G a0 x1 v14 S12 Q)))))))) : V_X10_cloth_32 l G a0 x1 x2 S Q := by
  refine mj_iload_n dX10_cloth_32 rfl rfl ?_
  refine mj_iload_n dX10_cloth_33 rfl rfl ?_
  refine mj_icmp_ge (tgt := 66) dX10_cloth_34 (by decide) ⟨fun hc => ?_, fun hc => ?_⟩
  · replace h := h.1 hc
    refine mj_aload_n dX10_cloth_66 rfl rfl ?_
    obtain ⟨b1, eb1, h⟩ := h
    refine mj_getP dX10_cloth_67 fl_X10_51_9 hk_a0 rfl ⟨b1, eb1, fun hk_b1 => ?_⟩
    refine mj_callVi (as := []) (st := []) dX10_cloth_70 cal_X8_fabricOfAll lk_X10_366 im_X8_fabricOfAll se_X8_fabricOfAll (ci := 7) rfl (by decide) hk_b1 h rfl (Nat.le_of_ble_eq_true rfl) (by decide) ⟨Nat.le_of_ble_eq_true rfl, Nat.le_of_ble_eq_true rfl⟩ (fun S2 r3 h hn_r3 hp => ?_)
    have hk_a0 : m_kd S2 a0 = 9 := m_kd_pre hp hk_a0 (by decide)
    have hk_b1 : m_kd S2 b1 = 7 := m_kd_pre hp hk_b1 (by decide)
    refine mj_aload_n dX10_cloth_73 rfl rfl ?_
    obtain ⟨b4, eb4, h⟩ := h
    refine mj_getP dX10_cloth_74 fl_X10_55_9 hk_a0 rfl ⟨b4, eb4, fun hk_b4 => ?_⟩
    refine mj_callVi (as := []) (st := [.int r3]) dX10_cloth_77 cal_X8_fabricOfAll lk_X10_366 im_X8_fabricOfAll se_X8_fabricOfAll (ci := 7) rfl (by decide) hk_b4 h rfl (Nat.le_of_ble_eq_true rfl) (by decide) ⟨Nat.le_of_ble_eq_true rfl, Nat.le_of_ble_eq_true rfl⟩ (fun S5 r6 h hn_r6 hp => ?_)
    have hk_a0 : m_kd S5 a0 = 9 := m_kd_pre hp hk_a0 (by decide)
    have hk_b1 : m_kd S5 b1 = 7 := m_kd_pre hp hk_b1 (by decide)
    have hk_b4 : m_kd S5 b4 = 7 := m_kd_pre hp hk_b4 (by decide)
    refine mj_isub dX10_cloth_80 ?_
    exact mj_reti dX10_cloth_81 rfl ⟨Nat.le_of_ble_eq_true rfl, Nat.le_of_ble_eq_true rfl⟩ h
  · replace h := h.2 hc
    refine mj_aload_n dX10_cloth_37 rfl rfl ?_
    refine mj_aload_n dX10_cloth_38 rfl rfl ?_
    obtain ⟨b7, eb7, h⟩ := h
    refine mj_getP dX10_cloth_39 fl_X10_55_9 hk_a0 rfl ⟨b7, eb7, fun hk_b7 => ?_⟩
    refine mj_callVv (as := [.ref b7]) (st := []) dX10_cloth_42 cal_X10_shine lk_X10_261 im_X10_shine se_X10_shine (ci := 9) rfl (by decide) hk_a0 h rfl (Nat.le_of_ble_eq_true rfl) (by decide) ⟨Nat.le_of_ble_eq_true rfl, Nat.le_of_ble_eq_true rfl⟩ (fun S8 h hp => ?_)
    have hk_a0 : m_kd S8 a0 = 9 := m_kd_pre hp hk_a0 (by decide)
    have hk_b7 : m_kd S8 b7 = 7 := m_kd_pre hp hk_b7 (by decide)
    refine mj_aload_n dX10_cloth_45 rfl rfl ?_
    obtain ⟨b9, eb9, h⟩ := h
    refine mj_getP dX10_cloth_46 fl_X10_55_9 hk_a0 rfl ⟨b9, eb9, fun hk_b9 => ?_⟩
    refine mj_aload_n dX10_cloth_49 rfl rfl ?_
    obtain ⟨b10, eb10, h⟩ := h
    refine mj_getP dX10_cloth_50 fl_X10_75_9 hk_a0 rfl ⟨b10, eb10, fun hk_b10 => ?_⟩
    obtain ⟨b11, eb11, h⟩ := h
    refine mj_getP dX10_cloth_53 fl_X10_265_3 hk_b10 rfl ⟨b11, eb11, fun hk_b11 => ?_⟩
    refine mj_callVi (as := [.ref b11]) (st := []) dX10_cloth_56 cal_X8_wear lk_X10_293 im_X8_wear se_X8_wear (ci := 7) rfl (by decide) hk_b9 h rfl (Nat.le_of_ble_eq_true rfl) (by decide) ⟨Nat.le_of_ble_eq_true rfl, Nat.le_of_ble_eq_true rfl⟩ (fun S12 r13 h hn_r13 hp => ?_)
    have hk_a0 : m_kd S12 a0 = 9 := m_kd_pre hp hk_a0 (by decide)
    have hk_b7 : m_kd S12 b7 = 7 := m_kd_pre hp hk_b7 (by decide)
    have hk_b9 : m_kd S12 b9 = 7 := m_kd_pre hp hk_b9 (by decide)
    have hk_b10 : m_kd S12 b10 = 3 := m_kd_pre hp hk_b10 (by decide)
    have hk_b11 : m_kd S12 b11 = 100 := m_kd_pre hp hk_b11 (by decide)
    refine mj_pop dX10_cloth_59 rfl ?_
    obtain ⟨v14, ev14⟩ : ∃ z : Int32, z = x2 + (1 : Int32) := ⟨_, rfl⟩
    refine mj_iinc (v := v14) dX10_cloth_60 rfl (by rw [ev14]; rfl) (by decide) rfl rfl ?_
    replace h := h v14 ev14
    refine mj_goto (tgt := 32) dX10_cloth_63 (by decide) ?_
    exact h
abbrev V_X10_arePlayers_0 (l : Launch) (G : mj_G) (a0 : Nat) (x1 : Int32) (x2 : Int32) (S : mj_S) (Q : mj_S → Int32 → Prop) : Prop := mj_V l G (mj_room 2 0 0) RX10 cX10_arePlayers 3 (some .boolean) false 0 [some (.ref a0), some (.int x1), some (.int x2)] [] S 0 0 (mj_std G (some .boolean) (mj_room 2 0 0) (mj_qi Q))
theorem e_X10_arePlayers {l : Launch} {G : mj_G} {a0 : Nat} {x1 : Int32} {x2 : Int32} {S : mj_S} {Q : mj_S → Int32 → Prop} (h : V_X10_arePlayers_0 l G a0 x1 x2 S Q) : M_X10_arePlayers l G a0 x1 x2 S Q := mj_enter (r := 0) (ini := false) (by decide +kernel) (fun h => by cases h) (fun _ => Nat.le_of_ble_eq_true rfl) rfl h
set_option maxRecDepth 20000 in
set_option maxHeartbeats 1000000 in
theorem b_X10_arePlayers_0 {l : Launch} {G : mj_G} {a0 : Nat} {x1 : Int32} {x2 : Int32} {S : mj_S} {Q : mj_S → Int32 → Prop} (hk_a0 : m_kd S a0 = 9) (h : M_X10_isPerson l G a0 x1 S (fun S1 r2 => ((r2 = 0) → Q S1 (0 : Int32)) ∧ ((¬ (r2 = 0)) → M_X10_isPerson l G a0 x2 S1 (fun S3 r4 => ((r4 = 0) → Q S3 (0 : Int32)) ∧ ((¬ (r4 = 0)) → ((x1 = x2) → Q S3 (0 : Int32)) ∧ ((¬ (x1 = x2)) → Q S3 (1 : Int32))))))) : V_X10_arePlayers_0 l G a0 x1 x2 S Q := by
  refine mj_aload_n dX10_arePlayers_0 rfl rfl ?_
  refine mj_iload_n dX10_arePlayers_1 rfl rfl ?_
  refine mj_callVi (as := [.int x1]) (st := []) dX10_arePlayers_2 cal_X10_isPerson lk_X10_201 im_X10_isPerson se_X10_isPerson (ci := 9) rfl (by decide) hk_a0 h rfl (Nat.le_of_ble_eq_true rfl) (by decide) ⟨Nat.le_of_ble_eq_true rfl, Nat.le_of_ble_eq_true rfl⟩ (fun S1 r2 h hn_r2 hp => ?_)
  have hk_a0 : m_kd S1 a0 = 9 := m_kd_pre hp hk_a0 (by decide)
  refine mj_if_eq (tgt := 25) dX10_arePlayers_5 (by decide) ⟨fun hc => ?_, fun hc => ?_⟩
  · replace h := h.1 hc
    refine mj_iconst (v := 0) dX10_arePlayers_25 (by decide) ?_
    exact mj_retz dX10_arePlayers_26 rfl (rfl) ⟨Nat.le_of_ble_eq_true rfl, Nat.le_of_ble_eq_true rfl⟩ h
  · replace h := h.2 hc
    refine mj_aload_n dX10_arePlayers_8 rfl rfl ?_
    refine mj_iload_n dX10_arePlayers_9 rfl rfl ?_
    refine mj_callVi (as := [.int x2]) (st := []) dX10_arePlayers_10 cal_X10_isPerson lk_X10_201 im_X10_isPerson se_X10_isPerson (ci := 9) rfl (by decide) hk_a0 h rfl (Nat.le_of_ble_eq_true rfl) (by decide) ⟨Nat.le_of_ble_eq_true rfl, Nat.le_of_ble_eq_true rfl⟩ (fun S3 r4 h hn_r4 hp => ?_)
    have hk_a0 : m_kd S3 a0 = 9 := m_kd_pre hp hk_a0 (by decide)
    refine mj_if_eq (tgt := 25) dX10_arePlayers_13 (by decide) ⟨fun hc => ?_, fun hc => ?_⟩
    · replace h := h.1 hc
      refine mj_iconst (v := 0) dX10_arePlayers_25 (by decide) ?_
      exact mj_retz dX10_arePlayers_26 rfl (rfl) ⟨Nat.le_of_ble_eq_true rfl, Nat.le_of_ble_eq_true rfl⟩ h
    · replace h := h.2 hc
      refine mj_iload_n dX10_arePlayers_16 rfl rfl ?_
      refine mj_iload_n dX10_arePlayers_17 rfl rfl ?_
      refine mj_icmp_eq (tgt := 25) dX10_arePlayers_18 (by decide) ⟨fun hc => ?_, fun hc => ?_⟩
      · replace h := h.1 hc
        refine mj_iconst (v := 0) dX10_arePlayers_25 (by decide) ?_
        exact mj_retz dX10_arePlayers_26 rfl (rfl) ⟨Nat.le_of_ble_eq_true rfl, Nat.le_of_ble_eq_true rfl⟩ h
      · replace h := h.2 hc
        refine mj_iconst (v := 1) dX10_arePlayers_21 (by decide) ?_
        refine mj_goto (tgt := 26) dX10_arePlayers_22 (by decide) ?_
        exact mj_retz dX10_arePlayers_26 rfl (rfl) ⟨Nat.le_of_ble_eq_true rfl, Nat.le_of_ble_eq_true rfl⟩ h
