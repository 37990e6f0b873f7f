abbrev V_X10_image_0 (l : Launch) (G : mj_G) (a0 : Nat) (S : mj_S) (Q : mj_S → Int32 → Prop) : Prop := mj_V l G (mj_room 4 0 0) RX10 cX10_image 1 (some .int) false 0 [some (.ref a0)] [] S 0 0 (mj_std G (some .int) (mj_room 4 0 0) (mj_qi Q))
theorem e_X10_image {l : Launch} {G : mj_G} {a0 : Nat} {S : mj_S} {Q : mj_S → Int32 → Prop} (h : V_X10_image_0 l G a0 S Q) : M_X10_image l G a0 S Q := mj_enter (r := 0) (ini := false) (by decide +kernel) (fun h => by cases h) (fun _ => Nat.le_of_ble_eq_true rfl) rfl h
set_option maxRecDepth 20000 in
set_option maxHeartbeats 1000000 in
theorem b_X10_image_0 {l : Launch} {G : mj_G} {a0 : Nat} {S : mj_S} {Q : mj_S → Int32 → Prop} (hk_a0 : m_kd S a0 = 9) (h : M_X10_hasRoom l G a0 S (fun S1 r2 => ((¬ r2 = 0) → ∃ b3, m_gp S1 a0 9 = some b3 ∧ (∃ b4, m_gp S1 a0 7 = some b4 ∧ (M_X4_keepImage l G b3 b4 S1 (fun S5 => ∃ b6, m_gp S5 a0 7 = some b6 ∧ (Q S5 (m_gi S5 b6 4)))))) ∧ ((r2 = 0) → Q S1 (-1 : Int32)))) : V_X10_image_0 l G a0 S Q := by
  refine mj_aload_n dX10_image_0 rfl rfl ?_
  refine mj_callVi (as := []) (st := []) dX10_image_1 cal_X10_hasRoom lk_X10_152 im_X10_hasRoom se_X10_hasRoom (ci := 9) rfl (by decide) hk_a0 h rfl (Nat.le_of_ble_eq_true rfl) (by decide) ⟨Nat.le_of_ble_eq_true rfl, Nat.le_of_ble_eq_true rfl⟩ (fun S1 r2 h hn_r2 hp => ?_)
  have hk_a0 : m_kd S1 a0 = 9 := m_kd_pre hp hk_a0 (by decide)
  refine mj_if_ne (tgt := 9) dX10_image_4 (by decide) ⟨fun hc => ?_, fun hc => ?_⟩
  · replace h := h.1 hc
    refine mj_aload_n dX10_image_9 rfl rfl ?_
    obtain ⟨b3, eb3, h⟩ := h
    refine mj_getP dX10_image_10 fl_X10_61_9 hk_a0 rfl ⟨b3, eb3, fun hk_b3 => ?_⟩
    refine mj_aload_n dX10_image_13 rfl rfl ?_
    obtain ⟨b4, eb4, h⟩ := h
    refine mj_getP dX10_image_14 fl_X10_51_9 hk_a0 rfl ⟨b4, eb4, fun hk_b4 => ?_⟩
    refine mj_callVv (as := [.ref b4]) (st := []) dX10_image_17 cal_X4_keepImage lk_X10_409 im_X4_keepImage se_X4_keepImage (ci := 4) rfl (by decide) hk_b3 h rfl (Nat.le_of_ble_eq_true rfl) (by decide) ⟨Nat.le_of_ble_eq_true rfl, Nat.le_of_ble_eq_true rfl⟩ (fun S5 h hp => ?_)
    have hk_a0 : m_kd S5 a0 = 9 := m_kd_pre hp hk_a0 (by decide)
    have hk_b3 : m_kd S5 b3 = 4 := m_kd_pre hp hk_b3 (by decide)
    have hk_b4 : m_kd S5 b4 = 7 := m_kd_pre hp hk_b4 (by decide)
    refine mj_aload_n dX10_image_20 rfl rfl ?_
    obtain ⟨b6, eb6, h⟩ := h
    refine mj_getP dX10_image_21 fl_X10_51_9 hk_a0 rfl ⟨b6, eb6, fun hk_b6 => ?_⟩
    refine mj_getI dX10_image_24 fl_X10_287_7 hk_b6 rfl ?_
    exact mj_reti dX10_image_27 rfl ⟨Nat.le_of_ble_eq_true rfl, Nat.le_of_ble_eq_true rfl⟩ h
  · replace h := h.2 hc
    refine mj_iconst (v := (-1)) dX10_image_7 (by decide) ?_
    exact mj_reti dX10_image_8 rfl ⟨Nat.le_of_ble_eq_true rfl, Nat.le_of_ble_eq_true rfl⟩ h
abbrev V_X10_back_0 (l : Launch) (G : mj_G) (a0 : Nat) (S : mj_S) (Q : mj_S → Int32 → Prop) : Prop := mj_V l G (mj_room 4 0 0) RX10 cX10_back 1 (some .int) false 0 [some (.ref a0)] [] S 0 0 (mj_std G (some .int) (mj_room 4 0 0) (mj_qi Q))
theorem e_X10_back {l : Launch} {G : mj_G} {a0 : Nat} {S : mj_S} {Q : mj_S → Int32 → Prop} (h : V_X10_back_0 l G a0 S Q) : M_X10_back l G a0 S Q := mj_enter (r := 0) (ini := false) (by decide +kernel) (fun h => by cases h) (fun _ => Nat.le_of_ble_eq_true rfl) rfl h
set_option maxRecDepth 20000 in
set_option maxHeartbeats 1000000 in
theorem b_X10_back_0 {l : Launch} {G : mj_G} {a0 : Nat} {S : mj_S} {Q : mj_S → Int32 → Prop} (hk_a0 : m_kd S a0 = 9) (h : ∃ b1, m_gp S a0 9 = some b1 ∧ (((¬ (m_gi S b1 4) = 0) → ∃ b2, m_gp S a0 9 = some b2 ∧ (∃ b3, m_gp S a0 7 = some b3 ∧ (M_X4_returnTo l G b2 b3 S (fun S4 => ∃ b5, m_gp S4 a0 7 = some b5 ∧ (Q S4 (m_gi S4 b5 4)))))) ∧ (((m_gi S b1 4) = 0) → Q S (-1 : Int32)))) : V_X10_back_0 l G a0 S Q := by
  refine mj_aload_n dX10_back_0 rfl rfl ?_
  obtain ⟨b1, eb1, h⟩ := h
  refine mj_getP dX10_back_1 fl_X10_61_9 hk_a0 rfl ⟨b1, eb1, fun hk_b1 => ?_⟩
  refine mj_getI dX10_back_4 fl_X10_412_4 hk_b1 rfl ?_
  refine mj_if_ne (tgt := 12) dX10_back_7 (by decide) ⟨fun hc => ?_, fun hc => ?_⟩
  · replace h := h.1 hc
    refine mj_aload_n dX10_back_12 rfl rfl ?_
    obtain ⟨b2, eb2, h⟩ := h
    refine mj_getP dX10_back_13 fl_X10_61_9 hk_a0 rfl ⟨b2, eb2, fun hk_b2 => ?_⟩
    refine mj_aload_n dX10_back_16 rfl rfl ?_
    obtain ⟨b3, eb3, h⟩ := h
    refine mj_getP dX10_back_17 fl_X10_51_9 hk_a0 rfl ⟨b3, eb3, fun hk_b3 => ?_⟩
    refine mj_callVv (as := [.ref b3]) (st := []) dX10_back_20 cal_X4_returnTo lk_X10_416 im_X4_returnTo se_X4_returnTo (ci := 4) rfl (by decide) hk_b2 h rfl (Nat.le_of_ble_eq_true rfl) (by decide) ⟨Nat.le_of_ble_eq_true rfl, Nat.le_of_ble_eq_true rfl⟩ (fun S4 h hp => ?_)
    have hk_a0 : m_kd S4 a0 = 9 := m_kd_pre hp hk_a0 (by decide)
    have hk_b1 : m_kd S4 b1 = 4 := m_kd_pre hp hk_b1 (by decide)
    have hk_b2 : m_kd S4 b2 = 4 := m_kd_pre hp hk_b2 (by decide)
    have hk_b3 : m_kd S4 b3 = 7 := m_kd_pre hp hk_b3 (by decide)
    refine mj_aload_n dX10_back_23 rfl rfl ?_
    obtain ⟨b5, eb5, h⟩ := h
    refine mj_getP dX10_back_24 fl_X10_51_9 hk_a0 rfl ⟨b5, eb5, fun hk_b5 => ?_⟩
    refine mj_getI dX10_back_27 fl_X10_287_7 hk_b5 rfl ?_
    exact mj_reti dX10_back_30 rfl ⟨Nat.le_of_ble_eq_true rfl, Nat.le_of_ble_eq_true rfl⟩ h
  · replace h := h.2 hc
    refine mj_iconst (v := (-1)) dX10_back_10 (by decide) ?_
    exact mj_reti dX10_back_11 rfl ⟨Nat.le_of_ble_eq_true rfl, Nat.le_of_ble_eq_true rfl⟩ h
abbrev V_X10_count_0 (l : Launch) (G : mj_G) (a0 : Nat) (x1 : Int32) (S : mj_S) (Q : mj_S → Int32 → Prop) : Prop := mj_V l G (mj_room 4 0 0) RX10 cX10_count 2 (some .int) false 0 [some (.ref a0), some (.int x1)] [] S 0 0 (mj_std G (some .int) (mj_room 4 0 0) (mj_qi Q))
theorem e_X10_count {l : Launch} {G : mj_G} {a0 : Nat} {x1 : Int32} {S : mj_S} {Q : mj_S → Int32 → Prop} (h : V_X10_count_0 l G a0 x1 S Q) : M_X10_count l G a0 x1 S Q := mj_enter (r := 0) (ini := false) (by decide +kernel) (fun h => by cases h) (fun _ => Nat.le_of_ble_eq_true rfl) rfl h
set_option maxRecDepth 20000 in
set_option maxHeartbeats 1000000 in
theorem b_X10_count_0 {l : Launch} {G : mj_G} {a0 : Nat} {x1 : Int32} {S : mj_S} {Q : mj_S → Int32 → Prop} (hk_a0 : m_kd S a0 = 9) (h : (x1.toInt < 0 ∨ 14 < x1.toInt → Q S (-1000000 : Int32)) ∧ (x1.toInt = 0 → ∃ b1, m_gp S a0 5 = some b1 ∧ (Q S (m_gi S b1 4))) ∧ (x1.toInt = 1 → ∃ b2, m_gp S a0 5 = some b2 ∧ (Q S (m_gi S b2 7))) ∧ (x1.toInt = 2 → ∃ b3, m_gp S a0 5 = some b3 ∧ (Q S (m_gi S b3 15))) ∧ (x1.toInt = 3 → ∃ b4, m_gp S a0 4 = some b4 ∧ (Q S (m_gi S b4 0))) ∧ (x1.toInt = 4 → Q S (m_gi S a0 1)) ∧ (x1.toInt = 5 → ∃ b5, m_gp S a0 4 = some b5 ∧ (Q S (m_gi S b5 1))) ∧ (x1.toInt = 6 → ∃ b6, m_gp S a0 7 = some b6 ∧ (Q S (m_gi S b6 4))) ∧ (x1.toInt = 7 → ∃ b7, m_gp S a0 7 = some b7 ∧ (M_X10_statesOf l G a0 b7 S (fun S8 r9 => Q S8 r9))) ∧ (x1.toInt = 8 → ∃ b10, m_gp S a0 7 = some b10 ∧ (M_X8_hung l G b10 S (fun S11 r12 => Q S11 r12))) ∧ (x1.toInt = 9 → ∃ b13, m_gp S a0 7 = some b13 ∧ (M_X8_fallen l G b13 S (fun S14 r15 => Q S14 r15))) ∧ (x1.toInt = 10 → ∃ b16, m_gp S a0 7 = some b16 ∧ (M_X8_fabricOfAll l G b16 S (fun S17 r18 => Q S17 r18))) ∧ (x1.toInt = 11 → Q S (m_gi S a0 14)) ∧ (x1.toInt = 12 → Q S (m_gi S a0 16)) ∧ (x1.toInt = 13 → M_X10_logged l G a0 S (fun S19 r20 => Q S19 r20)) ∧ (x1.toInt = 14 → ∃ b21, m_gp S a0 9 = some b21 ∧ (Q S (m_gi S b21 0)))) : V_X10_count_0 l G a0 x1 S Q := by
  refine mj_iload_n dX10_count_0 rfl rfl ?_
  by_cases hlo : x1.toInt < 0 ∨ 14 < x1.toInt
  · replace h := h.1 hlo
    refine mj_tabOut (tgt := 185) dX10_count_1 hlo (by decide) ?_
    refine mj_ldcw dX10_count_185 co_X10_372 ?_
    exact mj_reti dX10_count_188 rfl ⟨Nat.le_of_ble_eq_true rfl, Nat.le_of_ble_eq_true rfl⟩ h
  · replace h := h.2
    rcases (show x1.toInt = 0 ∨ x1.toInt = 1 ∨ x1.toInt = 2 ∨ x1.toInt = 3 ∨ x1.toInt = 4 ∨ x1.toInt = 5 ∨ x1.toInt = 6 ∨ x1.toInt = 7 ∨ x1.toInt = 8 ∨ x1.toInt = 9 ∨ x1.toInt = 10 ∨ x1.toInt = 11 ∨ x1.toInt = 12 ∨ x1.toInt = 13 ∨ x1.toInt = 14 by omega) with e | e | e | e | e | e | e | e | e | e | e | e | e | e | e
    · replace h := h.1 e
      refine mj_tabIn (tgt := 76) (off := 75) dX10_count_1 (by omega) (by omega) (by rw [e]; rfl) (by decide) ?_
      refine mj_aload_n dX10_count_76 rfl rfl ?_
      obtain ⟨b1, eb1, h⟩ := h
      refine mj_getP dX10_count_77 fl_X10_41_9 hk_a0 rfl ⟨b1, eb1, fun hk_b1 => ?_⟩
      refine mj_getI dX10_count_80 fl_X10_143_5 hk_b1 rfl ?_
      exact mj_reti dX10_count_83 rfl ⟨Nat.le_of_ble_eq_true rfl, Nat.le_of_ble_eq_true rfl⟩ h
    · replace h := h.2.1 e
      refine mj_tabIn (tgt := 84) (off := 83) dX10_count_1 (by omega) (by omega) (by rw [e]; rfl) (by decide) ?_
      refine mj_aload_n dX10_count_84 rfl rfl ?_
      obtain ⟨b2, eb2, h⟩ := h
      refine mj_getP dX10_count_85 fl_X10_41_9 hk_a0 rfl ⟨b2, eb2, fun hk_b2 => ?_⟩
      refine mj_getI dX10_count_88 fl_X10_146_5 hk_b2 rfl ?_
      exact mj_reti dX10_count_91 rfl ⟨Nat.le_of_ble_eq_true rfl, Nat.le_of_ble_eq_true rfl⟩ h
    · replace h := h.2.2.1 e
      refine mj_tabIn (tgt := 92) (off := 91) dX10_count_1 (by omega) (by omega) (by rw [e]; rfl) (by decide) ?_
      refine mj_aload_n dX10_count_92 rfl rfl ?_
      obtain ⟨b3, eb3, h⟩ := h
      refine mj_getP dX10_count_93 fl_X10_41_9 hk_a0 rfl ⟨b3, eb3, fun hk_b3 => ?_⟩
      refine mj_getI dX10_count_96 fl_X10_149_5 hk_b3 rfl ?_
      exact mj_reti dX10_count_99 rfl ⟨Nat.le_of_ble_eq_true rfl, Nat.le_of_ble_eq_true rfl⟩ h
    · replace h := h.2.2.2.1 e
      refine mj_tabIn (tgt := 100) (off := 99) dX10_count_1 (by omega) (by omega) (by rw [e]; rfl) (by decide) ?_
      refine mj_aload_n dX10_count_100 rfl rfl ?_
      obtain ⟨b4, eb4, h⟩ := h
      refine mj_getP dX10_count_101 fl_X10_34_9 hk_a0 rfl ⟨b4, eb4, fun hk_b4 => ?_⟩
      refine mj_getI dX10_count_104 fl_X10_124_2 hk_b4 rfl ?_
      exact mj_reti dX10_count_107 rfl ⟨Nat.le_of_ble_eq_true rfl, Nat.le_of_ble_eq_true rfl⟩ h
    · replace h := h.2.2.2.2.1 e
      refine mj_tabIn (tgt := 108) (off := 107) dX10_count_1 (by omega) (by omega) (by rw [e]; rfl) (by decide) ?_
      refine mj_aload_n dX10_count_108 rfl rfl ?_
      refine mj_getI dX10_count_109 fl_X10_13_9 hk_a0 rfl ?_
      exact mj_reti dX10_count_112 rfl ⟨Nat.le_of_ble_eq_true rfl, Nat.le_of_ble_eq_true rfl⟩ h
    · replace h := h.2.2.2.2.2.1 e
      refine mj_tabIn (tgt := 113) (off := 112) dX10_count_1 (by omega) (by omega) (by rw [e]; rfl) (by decide) ?_
      refine mj_aload_n dX10_count_113 rfl rfl ?_
      obtain ⟨b5, eb5, h⟩ := h
      refine mj_getP dX10_count_114 fl_X10_34_9 hk_a0 rfl ⟨b5, eb5, fun hk_b5 => ?_⟩
      refine mj_getI dX10_count_117 fl_X10_226_2 hk_b5 rfl ?_
      exact mj_reti dX10_count_120 rfl ⟨Nat.le_of_ble_eq_true rfl, Nat.le_of_ble_eq_true rfl⟩ h
    · replace h := h.2.2.2.2.2.2.1 e
      refine mj_tabIn (tgt := 121) (off := 120) dX10_count_1 (by omega) (by omega) (by rw [e]; rfl) (by decide) ?_
      refine mj_aload_n dX10_count_121 rfl rfl ?_
      obtain ⟨b6, eb6, h⟩ := h
      refine mj_getP dX10_count_122 fl_X10_51_9 hk_a0 rfl ⟨b6, eb6, fun hk_b6 => ?_⟩
      refine mj_getI dX10_count_125 fl_X10_287_7 hk_b6 rfl ?_
      exact mj_reti dX10_count_128 rfl ⟨Nat.le_of_ble_eq_true rfl, Nat.le_of_ble_eq_true rfl⟩ h
    · replace h := h.2.2.2.2.2.2.2.1 e
      refine mj_tabIn (tgt := 129) (off := 128) dX10_count_1 (by omega) (by omega) (by rw [e]; rfl) (by decide) ?_
      refine mj_aload_n dX10_count_129 rfl rfl ?_
      refine mj_aload_n dX10_count_130 rfl rfl ?_
      obtain ⟨b7, eb7, h⟩ := h
      refine mj_getP dX10_count_131 fl_X10_51_9 hk_a0 rfl ⟨b7, eb7, fun hk_b7 => ?_⟩
      refine mj_callVi (as := [.ref b7]) (st := []) dX10_count_134 cal_X10_statesOf lk_X10_280 im_X10_statesOf se_X10_statesOf (ci := 9) rfl (by decide) hk_a0 h rfl (Nat.le_of_ble_eq_true rfl) (by decide) ⟨Nat.le_of_ble_eq_true rfl, Nat.le_of_ble_eq_true rfl⟩ (fun S8 r9 h hn_r9 hp => ?_)
      have hk_a0 : m_kd S8 a0 = 9 := m_kd_pre hp hk_a0 (by decide)
      have hk_b7 : m_kd S8 b7 = 7 := m_kd_pre hp hk_b7 (by decide)
      exact mj_reti dX10_count_137 rfl ⟨Nat.le_of_ble_eq_true rfl, Nat.le_of_ble_eq_true rfl⟩ h
    · replace h := h.2.2.2.2.2.2.2.2.1 e
      refine mj_tabIn (tgt := 138) (off := 137) dX10_count_1 (by omega) (by omega) (by rw [e]; rfl) (by decide) ?_
      refine mj_aload_n dX10_count_138 rfl rfl ?_
      obtain ⟨b10, eb10, h⟩ := h
      refine mj_getP dX10_count_139 fl_X10_51_9 hk_a0 rfl ⟨b10, eb10, fun hk_b10 => ?_⟩
      refine mj_callVi (as := []) (st := []) dX10_count_142 cal_X8_hung lk_X10_194 im_X8_hung se_X8_hung (ci := 7) rfl (by decide) hk_b10 h rfl (Nat.le_of_ble_eq_true rfl) (by decide) ⟨Nat.le_of_ble_eq_true rfl, Nat.le_of_ble_eq_true rfl⟩ (fun S11 r12 h hn_r12 hp => ?_)
      have hk_a0 : m_kd S11 a0 = 9 := m_kd_pre hp hk_a0 (by decide)
      have hk_b10 : m_kd S11 b10 = 7 := m_kd_pre hp hk_b10 (by decide)
      exact mj_reti dX10_count_145 rfl ⟨Nat.le_of_ble_eq_true rfl, Nat.le_of_ble_eq_true rfl⟩ h
    · replace h := h.2.2.2.2.2.2.2.2.2.1 e
      refine mj_tabIn (tgt := 146) (off := 145) dX10_count_1 (by omega) (by omega) (by rw [e]; rfl) (by decide) ?_
      refine mj_aload_n dX10_count_146 rfl rfl ?_
      obtain ⟨b13, eb13, h⟩ := h
      refine mj_getP dX10_count_147 fl_X10_51_9 hk_a0 rfl ⟨b13, eb13, fun hk_b13 => ?_⟩
      refine mj_callVi (as := []) (st := []) dX10_count_150 cal_X8_fallen lk_X10_320 im_X8_fallen se_X8_fallen (ci := 7) rfl (by decide) hk_b13 h rfl (Nat.le_of_ble_eq_true rfl) (by decide) ⟨Nat.le_of_ble_eq_true rfl, Nat.le_of_ble_eq_true rfl⟩ (fun S14 r15 h hn_r15 hp => ?_)
      have hk_a0 : m_kd S14 a0 = 9 := m_kd_pre hp hk_a0 (by decide)
      have hk_b13 : m_kd S14 b13 = 7 := m_kd_pre hp hk_b13 (by decide)
      exact mj_reti dX10_count_153 rfl ⟨Nat.le_of_ble_eq_true rfl, Nat.le_of_ble_eq_true rfl⟩ h
    · replace h := h.2.2.2.2.2.2.2.2.2.2.1 e
      refine mj_tabIn (tgt := 154) (off := 153) dX10_count_1 (by omega) (by omega) (by rw [e]; rfl) (by decide) ?_
      refine mj_aload_n dX10_count_154 rfl rfl ?_
      obtain ⟨b16, eb16, h⟩ := h
      refine mj_getP dX10_count_155 fl_X10_51_9 hk_a0 rfl ⟨b16, eb16, fun hk_b16 => ?_⟩
      refine mj_callVi (as := []) (st := []) dX10_count_158 cal_X8_fabricOfAll lk_X10_366 im_X8_fabricOfAll se_X8_fabricOfAll (ci := 7) rfl (by decide) hk_b16 h rfl (Nat.le_of_ble_eq_true rfl) (by decide) ⟨Nat.le_of_ble_eq_true rfl, Nat.le_of_ble_eq_true rfl⟩ (fun S17 r18 h hn_r18 hp => ?_)
      have hk_a0 : m_kd S17 a0 = 9 := m_kd_pre hp hk_a0 (by decide)
      have hk_b16 : m_kd S17 b16 = 7 := m_kd_pre hp hk_b16 (by decide)
      exact mj_reti dX10_count_161 rfl ⟨Nat.le_of_ble_eq_true rfl, Nat.le_of_ble_eq_true rfl⟩ h
    · replace h := h.2.2.2.2.2.2.2.2.2.2.2.1 e
      refine mj_tabIn (tgt := 162) (off := 161) dX10_count_1 (by omega) (by omega) (by rw [e]; rfl) (by decide) ?_
      refine mj_aload_n dX10_count_162 rfl rfl ?_
      refine mj_getI dX10_count_163 fl_X10_89_9 hk_a0 rfl ?_
      exact mj_reti dX10_count_166 rfl ⟨Nat.le_of_ble_eq_true rfl, Nat.le_of_ble_eq_true rfl⟩ h
    · replace h := h.2.2.2.2.2.2.2.2.2.2.2.2.1 e
      refine mj_tabIn (tgt := 167) (off := 166) dX10_count_1 (by omega) (by omega) (by rw [e]; rfl) (by decide) ?_
      refine mj_aload_n dX10_count_167 rfl rfl ?_
      refine mj_getI dX10_count_168 fl_X10_96_9 hk_a0 rfl ?_
      exact mj_reti dX10_count_171 rfl ⟨Nat.le_of_ble_eq_true rfl, Nat.le_of_ble_eq_true rfl⟩ h
    · replace h := h.2.2.2.2.2.2.2.2.2.2.2.2.2.1 e
      refine mj_tabIn (tgt := 172) (off := 171) dX10_count_1 (by omega) (by omega) (by rw [e]; rfl) (by decide) ?_
      refine mj_aload_n dX10_count_172 rfl rfl ?_
      refine mj_callVi (as := []) (st := []) dX10_count_173 cal_X10_logged lk_X10_335 im_X10_logged se_X10_logged (ci := 9) rfl (by decide) hk_a0 h rfl (Nat.le_of_ble_eq_true rfl) (by decide) ⟨Nat.le_of_ble_eq_true rfl, Nat.le_of_ble_eq_true rfl⟩ (fun S19 r20 h hn_r20 hp => ?_)
      have hk_a0 : m_kd S19 a0 = 9 := m_kd_pre hp hk_a0 (by decide)
      exact mj_reti dX10_count_176 rfl ⟨Nat.le_of_ble_eq_true rfl, Nat.le_of_ble_eq_true rfl⟩ h
    · replace h := h.2.2.2.2.2.2.2.2.2.2.2.2.2.2 e
      refine mj_tabIn (tgt := 177) (off := 176) dX10_count_1 (by omega) (by omega) (by rw [e]; rfl) (by decide) ?_
      refine mj_aload_n dX10_count_177 rfl rfl ?_
      obtain ⟨b21, eb21, h⟩ := h
      refine mj_getP dX10_count_178 fl_X10_61_9 hk_a0 rfl ⟨b21, eb21, fun hk_b21 => ?_⟩
      refine mj_getI dX10_count_181 fl_X10_323_4 hk_b21 rfl ?_
      exact mj_reti dX10_count_184 rfl ⟨Nat.le_of_ble_eq_true rfl, Nat.le_of_ble_eq_true rfl⟩ h
