abbrev V_X10_person_0 (l : Launch) (G : mj_G) (a0 : Nat) (x1 : Int32) (x2 : Int32) (S : mj_S) (Q : mj_S → Int32 → Prop) (QX : mj_S → Prop) : Prop := mj_V l G (mj_room 8 1 6) RX10 cX10_person 3 (some .int) false 0 [some (.ref a0), some (.int x1), some (.int x2)] [] S 0 0 (mj_stx G (some .int) (mj_room 8 1 6) (mj_qi Q) QX)
abbrev V_X10_person_17 (l : Launch) (G : mj_G)  (S : mj_S) (Q : mj_S → Int32 → Prop) (QX : mj_S → Prop) : Prop := mj_V l G (mj_room 8 1 6) RX10 cX10_person 3 (some .int) false 17 [none, none, none] [] S 0 0 (mj_stx G (some .int) (mj_room 8 1 6) (mj_qi Q) QX)
abbrev MX_X10_person (l : Launch) (G : mj_G) (a0 : Nat) (x1 x2 : Int32) (S : mj_S) (Q : mj_S → Int32 → Prop) (QX : mj_S → Prop) : Prop := mj_MX l G yX10_person cX10_person 3 (some .int) 8 1 6 [.ref a0, .int x1, .int x2] S (mj_qi Q) QX
theorem e_X10_person {l : Launch} {G : mj_G} {a0 : Nat} {x1 x2 : Int32} {S : mj_S} {Q : mj_S → Int32 → Prop} {QX : mj_S → Prop} (h : V_X10_person_0 l G a0 x1 x2 S Q QX) : MX_X10_person l G a0 x1 x2 S Q QX := mj_enterX (r := 0) (ini := false) (by decide +kernel) (fun h => by cases h) (fun _ => Nat.le_of_ble_eq_true rfl) rfl h
set_option maxRecDepth 20000 in
set_option maxHeartbeats 1000000 in
theorem b_X10_person_0 {l : Launch} {G : mj_G} {a0 : Nat} {x1 : Int32} {x2 : Int32} {S : mj_S} {Q : mj_S → Int32 → Prop} {QX : mj_S → Prop} (hl : l.stackTraces = false) (hk_a0 : m_kd S a0 = 9) (h : M_X10_isPerson l G a0 x1 S (fun S1 r2 => ((r2 = 0) → V_X10_person_17 l G S1 Q QX) ∧ ((¬ (r2 = 0)) → M_X10_within l G x2 (0 : Int32) (3 : Int32) S1 (fun S3 r4 => ((¬ r4 = 0) → (x2.toInt < 0 ∨ 2 < x2.toInt → ∃ b5, m_gp S3 a0 7 = some b5 ∧ (∃ b6, m_gp S3 b5 2 = some b6 ∧ (vp_in x1 (m_ln S3 b6) ∧ (M_X10_stateAround l G a0 (m_gi S3 b6 (x1).toNatClampNeg) S3 (fun S7 r8 => M_X10_lordIn l G a0 r8 S7 (fun S9 r10 => ((¬ r10 = x1) → Q S9 (0 : Int32)) ∧ ((r10 = x1) → Q S9 (1 : Int32)))))))) ∧ (x2.toInt = 0 → ∃ b11, m_gp S3 a0 7 = some b11 ∧ (∃ b12, m_gp S3 b11 2 = some b12 ∧ (vp_in x1 (m_ln S3 b12) ∧ (Q S3 (m_gi S3 b12 (x1).toNatClampNeg))))) ∧ (x2.toInt = 1 → ∃ b13, m_gp S3 a0 5 = some b13 ∧ (∃ b14, m_gp S3 b13 16 = some b14 ∧ (vp_in x1 (m_ln S3 b14) ∧ (Q S3 (m_gi S3 b14 (x1).toNatClampNeg))))) ∧ (x2.toInt = 2 → ∃ b15, m_gp S3 a0 7 = some b15 ∧ (∃ b16, m_gp S3 b15 2 = some b16 ∧ (vp_in x1 (m_ln S3 b16) ∧ (M_X10_stateAround l G a0 (m_gi S3 b16 (x1).toNatClampNeg) S3 (fun S17 r18 => M_X10_lowest l G r18 S17 (fun S19 r20 => Q S19 r20))))))) ∧ ((r4 = 0) → V_X10_person_17 l G S3 Q QX))))) : V_X10_person_0 l G a0 x1 x2 S Q QX := by
  refine mj_aload_n dX10_person_0 rfl rfl ?_
  refine mj_iload_n dX10_person_1 rfl rfl ?_
  refine mj_callVi (as := [.int x1]) (st := []) dX10_person_2 cal_X10_isPerson lk_X10_201 im_X10_isPerson se_X10_isPerson (ci := 9) rfl (by decide) hk_a0 h rfl (Nat.le_of_ble_eq_true rfl) (by decide) ⟨Nat.le_of_ble_eq_true rfl, Nat.le_of_ble_eq_true rfl⟩ (fun S1 r2 h hn_r2 hp => ?_)
  have hk_a0 : m_kd S1 a0 = 9 := m_kd_pre hp hk_a0 (by decide)
  refine mj_if_eq (tgt := 17) dX10_person_5 (by decide) ⟨fun hc => ?_, fun hc => ?_⟩
  · replace h := h.1 hc
    exact mj_lessm [false, false, false] rfl h
  · replace h := h.2 hc
    refine mj_iload_n dX10_person_8 rfl rfl ?_
    refine mj_iconst (v := 0) dX10_person_9 (by decide) ?_
    refine mj_iconst (v := 3) dX10_person_10 (by decide) ?_
    refine mj_callSi (as := [.int x2, .int (0 : Int32), .int (3 : Int32)]) (st := []) dX10_person_11 cal_X10_within lk_X10_204 sm_X10_within h rfl (Nat.le_of_ble_eq_true rfl) (by decide) ⟨Nat.le_of_ble_eq_true rfl, Nat.le_of_ble_eq_true rfl⟩ (fun S3 r4 h hn_r4 hp => ?_)
    have hk_a0 : m_kd S3 a0 = 9 := m_kd_pre hp hk_a0 (by decide)
    refine mj_if_ne (tgt := 25) dX10_person_14 (by decide) ⟨fun hc => ?_, fun hc => ?_⟩
    · replace h := h.1 hc
      refine mj_iload_n dX10_person_25 rfl rfl ?_
      by_cases hlo : x2.toInt < 0 ∨ 2 < x2.toInt
      · replace h := h.1 hlo
        refine mj_tabOut (tgt := 89) dX10_person_26 hlo (by decide) ?_
        refine mj_aload_n dX10_person_89 rfl rfl ?_
        refine mj_aload_n dX10_person_90 rfl rfl ?_
        refine mj_aload_n dX10_person_91 rfl rfl ?_
        obtain ⟨b5, eb5, h⟩ := h
        refine mj_getP dX10_person_92 fl_X10_51_9 hk_a0 rfl ⟨b5, eb5, fun hk_b5 => ?_⟩
        obtain ⟨b6, eb6, h⟩ := h
        refine mj_getP dX10_person_95 fl_X10_211_7 hk_b5 rfl ⟨b6, eb6, fun hk_b6 => ?_⟩
        refine mj_iload_n dX10_person_98 rfl rfl ?_
        refine mj_iald dX10_person_99 (Or.inl hk_b6) ⟨h.1, ?_⟩
        replace h := h.2
        refine mj_callVi (as := [.int (m_gi S3 b6 (x1).toNatClampNeg)]) (st := [.ref a0]) dX10_person_100 cal_X10_stateAround lk_X10_217 im_X10_stateAround se_X10_stateAround (ci := 9) rfl (by decide) hk_a0 h rfl (Nat.le_of_ble_eq_true rfl) (by decide) ⟨Nat.le_of_ble_eq_true rfl, Nat.le_of_ble_eq_true rfl⟩ (fun S7 r8 h hn_r8 hp => ?_)
        have hk_a0 : m_kd S7 a0 = 9 := m_kd_pre hp hk_a0 (by decide)
        have hk_b5 : m_kd S7 b5 = 7 := m_kd_pre hp hk_b5 (by decide)
        have hk_b6 : m_kd S7 b6 = 100 := m_kd_pre hp hk_b6 (by decide)
        refine mj_callVi (as := [.int r8]) (st := []) dX10_person_103 cal_X10_lordIn lk_X10_223 im_X10_lordIn se_X10_lordIn (ci := 9) rfl (by decide) hk_a0 h rfl (Nat.le_of_ble_eq_true rfl) (by decide) ⟨Nat.le_of_ble_eq_true rfl, Nat.le_of_ble_eq_true rfl⟩ (fun S9 r10 h hn_r10 hp => ?_)
        have hk_a0 : m_kd S9 a0 = 9 := m_kd_pre hp hk_a0 (by decide)
        have hk_b5 : m_kd S9 b5 = 7 := m_kd_pre hp hk_b5 (by decide)
        have hk_b6 : m_kd S9 b6 = 100 := m_kd_pre hp hk_b6 (by decide)
        refine mj_iload_n dX10_person_106 rfl rfl ?_
        refine mj_icmp_ne (tgt := 114) dX10_person_107 (by decide) ⟨fun hc => ?_, fun hc => ?_⟩
        · replace h := h.1 hc
          refine mj_iconst (v := 0) dX10_person_114 (by decide) ?_
          exact mj_tox (mj_reti dX10_person_115 rfl ⟨Nat.le_of_ble_eq_true rfl, Nat.le_of_ble_eq_true rfl⟩ h)
        · replace h := h.2 hc
          refine mj_iconst (v := 1) dX10_person_110 (by decide) ?_
          refine mj_goto (tgt := 115) dX10_person_111 (by decide) ?_
          exact mj_tox (mj_reti dX10_person_115 rfl ⟨Nat.le_of_ble_eq_true rfl, Nat.le_of_ble_eq_true rfl⟩ h)
      · replace h := h.2
        rcases (show x2.toInt = 0 ∨ x2.toInt = 1 ∨ x2.toInt = 2 by omega) with e | e | e
        · replace h := h.1 e
          refine mj_tabIn (tgt := 52) (off := 26) dX10_person_26 (by omega) (by omega) (by rw [e]; rfl) (by decide) ?_
          refine mj_aload_n dX10_person_52 rfl rfl ?_
          obtain ⟨b11, eb11, h⟩ := h
          refine mj_getP dX10_person_53 fl_X10_51_9 hk_a0 rfl ⟨b11, eb11, fun hk_b11 => ?_⟩
          obtain ⟨b12, eb12, h⟩ := h
          refine mj_getP dX10_person_56 fl_X10_211_7 hk_b11 rfl ⟨b12, eb12, fun hk_b12 => ?_⟩
          refine mj_iload_n dX10_person_59 rfl rfl ?_
          refine mj_iald dX10_person_60 (Or.inl hk_b12) ⟨h.1, ?_⟩
          replace h := h.2
          exact mj_tox (mj_reti dX10_person_61 rfl ⟨Nat.le_of_ble_eq_true rfl, Nat.le_of_ble_eq_true rfl⟩ h)
        · replace h := h.2.1 e
          refine mj_tabIn (tgt := 62) (off := 36) dX10_person_26 (by omega) (by omega) (by rw [e]; rfl) (by decide) ?_
          refine mj_aload_n dX10_person_62 rfl rfl ?_
          obtain ⟨b13, eb13, h⟩ := h
          refine mj_getP dX10_person_63 fl_X10_41_9 hk_a0 rfl ⟨b13, eb13, fun hk_b13 => ?_⟩
          obtain ⟨b14, eb14, h⟩ := h
          refine mj_getP dX10_person_66 fl_X10_214_5 hk_b13 rfl ⟨b14, eb14, fun hk_b14 => ?_⟩
          refine mj_iload_n dX10_person_69 rfl rfl ?_
          refine mj_iald dX10_person_70 (Or.inl hk_b14) ⟨h.1, ?_⟩
          replace h := h.2
          exact mj_tox (mj_reti dX10_person_71 rfl ⟨Nat.le_of_ble_eq_true rfl, Nat.le_of_ble_eq_true rfl⟩ h)
        · replace h := h.2.2 e
          refine mj_tabIn (tgt := 72) (off := 46) dX10_person_26 (by omega) (by omega) (by rw [e]; rfl) (by decide) ?_
          refine mj_aload_n dX10_person_72 rfl rfl ?_
          refine mj_aload_n dX10_person_73 rfl rfl ?_
          obtain ⟨b15, eb15, h⟩ := h
          refine mj_getP dX10_person_74 fl_X10_51_9 hk_a0 rfl ⟨b15, eb15, fun hk_b15 => ?_⟩
          obtain ⟨b16, eb16, h⟩ := h
          refine mj_getP dX10_person_77 fl_X10_211_7 hk_b15 rfl ⟨b16, eb16, fun hk_b16 => ?_⟩
          refine mj_iload_n dX10_person_80 rfl rfl ?_
          refine mj_iald dX10_person_81 (Or.inl hk_b16) ⟨h.1, ?_⟩
          replace h := h.2
          refine mj_callVi (as := [.int (m_gi S3 b16 (x1).toNatClampNeg)]) (st := []) dX10_person_82 cal_X10_stateAround lk_X10_217 im_X10_stateAround se_X10_stateAround (ci := 9) rfl (by decide) hk_a0 h rfl (Nat.le_of_ble_eq_true rfl) (by decide) ⟨Nat.le_of_ble_eq_true rfl, Nat.le_of_ble_eq_true rfl⟩ (fun S17 r18 h hn_r18 hp => ?_)
          have hk_a0 : m_kd S17 a0 = 9 := m_kd_pre hp hk_a0 (by decide)
          have hk_b15 : m_kd S17 b15 = 7 := m_kd_pre hp hk_b15 (by decide)
          have hk_b16 : m_kd S17 b16 = 100 := m_kd_pre hp hk_b16 (by decide)
          refine mj_callSi (as := [.int r18]) (st := []) dX10_person_85 cal_X10_lowest lk_X10_220 sm_X10_lowest h rfl (Nat.le_of_ble_eq_true rfl) (by decide) ⟨Nat.le_of_ble_eq_true rfl, Nat.le_of_ble_eq_true rfl⟩ (fun S19 r20 h hn_r20 hp => ?_)
          have hk_a0 : m_kd S19 a0 = 9 := m_kd_pre hp hk_a0 (by decide)
          have hk_b15 : m_kd S19 b15 = 7 := m_kd_pre hp hk_b15 (by decide)
          have hk_b16 : m_kd S19 b16 = 100 := m_kd_pre hp hk_b16 (by decide)
          exact mj_tox (mj_reti dX10_person_88 rfl ⟨Nat.le_of_ble_eq_true rfl, Nat.le_of_ble_eq_true rfl⟩ h)
    · replace h := h.2 hc
      exact mj_lessm [false, false, false] rfl h
set_option maxRecDepth 20000 in
set_option maxHeartbeats 1000000 in
theorem b_X10_person_17 {l : Launch} {G : mj_G}  {S : mj_S} {Q : mj_S → Int32 → Prop} {QX : mj_S → Prop} (hl : l.stackTraces = false) (h : QX S) : V_X10_person_17 l G  S Q QX := by
  exact mj_throw hl dX10_person_17 dX10_person_20 dX10_person_21 dX10_person_24 (by decide) (Nat.le_of_ble_eq_true rfl) (by decide) (by decide) h
