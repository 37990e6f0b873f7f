abbrev V_X7_init_0 (l : Launch) (G : mj_G) (a0 : Nat) (S : mj_S) (Q : mj_S → Prop) : Prop := mj_V l G (mj_room 2 11 102) RX7 cX7_init 1 none true 0 [some (.ref a0)] [] S 0 0 (mj_std G none (mj_room 2 11 102) (mj_qv Q))
theorem e_X7_init {l : Launch} {G : mj_G} {a0 : Nat} {S : mj_S} {Q : mj_S → Prop} (h : V_X7_init_0 l G a0 S Q) : M_X7_init l G a0 S Q := mj_enter (r := 0) (ini := true) (by decide +kernel) (fun _ => rfl) (fun _ => Nat.le_of_ble_eq_true rfl) rfl h
set_option maxRecDepth 20000 in
set_option maxHeartbeats 1000000 in
theorem b_X7_init_0 {l : Launch} {G : mj_G} {a0 : Nat} {S : mj_S} {Q : mj_S → Prop} (hk_a0 : m_kd S a0 = 6) (h : M_X5_init l G a0 S (fun S1 => ∀ S2 : mj_S, S2 = m_si S1 a0 3 (0 : Int32) → ∀ q3 : Nat, q3 = S2.1.length → ∀ S4 : mj_S, S4 = m_nw S2 5 (mj_nf 5) → M_X6_init l G q3 S4 (fun S5 => ∀ S6 : mj_S, S6 = m_sp S5 a0 4 (some q3) → ∀ q7 : Nat, q7 = S6.1.length → ∀ S8 : mj_S, S8 = m_nw S6 100 12 → ∀ S9 : mj_S, S9 = m_sp S8 a0 5 (some q7) → Q S9))) : V_X7_init_0 l G a0 S Q := by
  refine mj_aload_n dX7_init_0 rfl rfl ?_
  refine mj_callIN (st := []) dX7_init_1 cal_X5_init ln_X7_3 im_X5_init rfl h (Nat.le_of_ble_eq_true rfl) (by decide) ⟨Nat.le_of_ble_eq_true rfl, Nat.le_of_ble_eq_true rfl⟩ (fun S1 h hp => ?_)
  have hk_a0 : m_kd S1 a0 = 6 := m_kd_pre hp hk_a0 (by decide)
  refine mj_aload_n dX7_init_4 rfl rfl ?_
  refine mj_iconst (v := 0) dX7_init_5 (by decide) ?_
  refine mj_putI dX7_init_6 fl_X7_9_6 hk_a0 (Or.inl rfl) rfl rfl rfl ?_
  obtain ⟨S2, eS2⟩ : ∃ z, z = m_si S1 a0 3 (0 : Int32) := ⟨_, rfl⟩
  rw [← eS2]
  replace h := h S2 eS2
  have hk_a0 : m_kd S2 a0 = 6 := by rw [eS2]; exact hk_a0
  refine mj_aload_n dX7_init_9 rfl rfl ?_
  refine mj_new dX7_init_10 cn_X7_15 (Nat.le_of_ble_eq_true rfl) (Nat.le_of_ble_eq_true rfl) ?_
  obtain ⟨q3, eq3⟩ : ∃ z, z = S2.1.length := ⟨_, rfl⟩
  rw [← eq3]
  obtain ⟨S4, eS4⟩ : ∃ z, z = m_nw S2 5 (mj_nf 5) := ⟨_, rfl⟩
  rw [← eS4]
  replace h := h q3 eq3 S4 eS4
  have hp : S2.1 <+: S4.1 := by rw [eS4]; exact List.prefix_append _ _
  have hk_q3 : m_kd S4 q3 = 5 := by rw [eS4, eq3]; exact m_kd_nwl
  have hk_a0 : m_kd S4 a0 = 6 := m_kd_pre hp hk_a0 (by decide)
  refine mj_dup dX7_init_13 rfl ?_
  refine mj_callIN (st := [.ref q3, .ref a0]) dX7_init_14 cal_X6_init ln_X7_17 im_X6_init rfl h (Nat.le_of_ble_eq_true rfl) (by decide) ⟨Nat.le_of_ble_eq_true rfl, Nat.le_of_ble_eq_true rfl⟩ (fun S5 h hp => ?_)
  have hk_a0 : m_kd S5 a0 = 6 := m_kd_pre hp hk_a0 (by decide)
  have hk_q3 : m_kd S5 q3 = 5 := m_kd_pre hp hk_q3 (by decide)
  refine mj_putP dX7_init_17 fl_X7_18_6 hk_a0 (Or.inl rfl) rfl hk_q3 (fun _ => rfl) (fun _ => rfl) ?_
  obtain ⟨S6, eS6⟩ : ∃ z, z = m_sp S5 a0 4 (some q3) := ⟨_, rfl⟩
  rw [← eS6]
  replace h := h S6 eS6
  have hk_a0 : m_kd S6 a0 = 6 := by rw [eS6]; exact hk_a0
  have hk_q3 : m_kd S6 q3 = 5 := by rw [eS6]; exact hk_q3
  refine mj_aload_n dX7_init_20 rfl rfl ?_
  refine mj_bipush (v := 12) dX7_init_21 (by decide) ?_
  refine mj_newI (N := 12) dX7_init_23 ar_int (by decide) (by decide) (by decide) (Nat.le_of_ble_eq_true rfl) (Nat.le_of_ble_eq_true rfl) ?_
  obtain ⟨q7, eq7⟩ : ∃ z, z = S6.1.length := ⟨_, rfl⟩
  rw [← eq7]
  obtain ⟨S8, eS8⟩ : ∃ z, z = m_nw S6 100 12 := ⟨_, rfl⟩
  rw [← eS8]
  replace h := h q7 eq7 S8 eS8
  have hp : S6.1 <+: S8.1 := by rw [eS8]; exact List.prefix_append _ _
  have hk_q7 : m_kd S8 q7 = 100 := by rw [eS8, eq7]; exact m_kd_nwl
  have hk_a0 : m_kd S8 a0 = 6 := m_kd_pre hp hk_a0 (by decide)
  have hk_q3 : m_kd S8 q3 = 5 := m_kd_pre hp hk_q3 (by decide)
  refine mj_putP dX7_init_25 fl_X7_22_6 hk_a0 (Or.inr ⟨rfl, rfl⟩) rfl hk_q7 (fun _ => rfl) (fun _ => rfl) ?_
  obtain ⟨S9, eS9⟩ : ∃ z, z = m_sp S8 a0 5 (some q7) := ⟨_, rfl⟩
  rw [← eS9]
  replace h := h S9 eS9
  have hk_a0 : m_kd S9 a0 = 6 := by rw [eS9]; exact hk_a0
  have hk_q3 : m_kd S9 q3 = 5 := by rw [eS9]; exact hk_q3
  have hk_q7 : m_kd S9 q7 = 100 := by rw [eS9]; exact hk_q7
  exact mj_retv dX7_init_28 rfl ⟨Nat.le_of_ble_eq_true rfl, Nat.le_of_ble_eq_true rfl⟩ h
abbrev V_X7_read_0 (l : Launch) (G : mj_G) (a0 : Nat) (a1 : Nat) (x2 : Int32) (a3 : Nat) (S : mj_S) (Q : mj_S → Int32 → Prop) : Prop := mj_V l G (mj_room 5 0 0) RX7 cX7_read 7 (some .int) false 0 [some (.ref a0), some (.ref a1), some (.int x2), some (.ref a3), none, none, none] [] S 0 0 (mj_std G (some .int) (mj_room 5 0 0) (mj_qi Q))
abbrev V_X7_read_26 (l : Launch) (G : mj_G) (a0 : Nat) (x4 : Int32) (S : mj_S) (Q : mj_S → Int32 → Prop) : Prop := mj_V l G (mj_room 5 0 0) RX7 cX7_read 7 (some .int) false 26 [some (.ref a0), none, none, none, some (.int x4), none, none] [] S 0 0 (mj_std G (some .int) (mj_room 5 0 0) (mj_qi Q))
theorem e_X7_read {l : Launch} {G : mj_G} {a0 : Nat} {a1 : Nat} {x2 : Int32} {a3 : Nat} {S : mj_S} {Q : mj_S → Int32 → Prop} (h : V_X7_read_0 l G a0 a1 x2 a3 S Q) : M_X7_read l G a0 a1 x2 a3 S Q := mj_enter (r := 3) (ini := false) (by decide +kernel) (fun h => by cases h) (fun _ => Nat.le_of_ble_eq_true rfl) rfl h
set_option maxRecDepth 20000 in
set_option maxHeartbeats 1000000 in
theorem b_X7_read_0 {l : Launch} {G : mj_G} {a0 : Nat} {a1 : Nat} {x2 : Int32} {a3 : Nat} {S : mj_S} {Q : mj_S → Int32 → Prop} (hk_a0 : m_kd S a0 = 6) (hk_a1 : m_kd S a1 = 100) (hk_a3 : m_kd S a3 = 5) (h : M_X5_begin l G a0 a1 x2 S (fun S1 => ∀ S2 : mj_S, S2 = m_si S1 a0 3 (0 : Int32) → ∀ S3 : mj_S, S3 = m_sp S2 a0 4 (some a3) → ∃ b4, m_gp S3 a0 4 = some b4 ∧ (M_X6_clear l G b4 S3 (fun S5 => V_X7_read_26 l G a0 (0 : Int32) S5 Q)))) : V_X7_read_0 l G a0 a1 x2 a3 S Q := by
  refine mj_aload_n dX7_read_0 rfl rfl ?_
  refine mj_aload_n dX7_read_1 rfl rfl ?_
  refine mj_iload_n dX7_read_2 rfl rfl ?_
  refine mj_callUv (as := [.ref a1, .int x2]) (st := []) dX7_read_3 cal_X5_begin lu_X7_26 sa_X7_26 su_X7_26 im_X5_begin rfl (ci := 6) rfl (by decide) hk_a0 h rfl (Nat.le_of_ble_eq_true rfl) (by decide) ⟨Nat.le_of_ble_eq_true rfl, Nat.le_of_ble_eq_true rfl⟩ (fun S1 h hp => ?_)
  have hk_a0 : m_kd S1 a0 = 6 := m_kd_pre hp hk_a0 (by decide)
  have hk_a1 : m_kd S1 a1 = 100 := m_kd_pre hp hk_a1 (by decide)
  have hk_a3 : m_kd S1 a3 = 5 := m_kd_pre hp hk_a3 (by decide)
  refine mj_aload_n dX7_read_6 rfl rfl ?_
  refine mj_iconst (v := 0) dX7_read_7 (by decide) ?_
  refine mj_putI dX7_read_8 fl_X7_9_6 hk_a0 (Or.inl rfl) rfl rfl rfl ?_
  obtain ⟨S2, eS2⟩ : ∃ z, z = m_si S1 a0 3 (0 : Int32) := ⟨_, rfl⟩
  rw [← eS2]
  replace h := h S2 eS2
  have hk_a0 : m_kd S2 a0 = 6 := by rw [eS2]; exact hk_a0
  have hk_a1 : m_kd S2 a1 = 100 := by rw [eS2]; exact hk_a1
  have hk_a3 : m_kd S2 a3 = 5 := by rw [eS2]; exact hk_a3
  refine mj_aload_n dX7_read_11 rfl rfl ?_
  refine mj_aload_n dX7_read_12 rfl rfl ?_
  refine mj_putP dX7_read_13 fl_X7_18_6 hk_a0 (Or.inl rfl) rfl hk_a3 (fun _ => rfl) (fun _ => rfl) ?_
  obtain ⟨S3, eS3⟩ : ∃ z, z = m_sp S2 a0 4 (some a3) := ⟨_, rfl⟩
  rw [← eS3]
  replace h := h S3 eS3
  have hk_a0 : m_kd S3 a0 = 6 := by rw [eS3]; exact hk_a0
  have hk_a1 : m_kd S3 a1 = 100 := by rw [eS3]; exact hk_a1
  have hk_a3 : m_kd S3 a3 = 5 := by rw [eS3]; exact hk_a3
  refine mj_aload_n dX7_read_16 rfl rfl ?_
  obtain ⟨b4, eb4, h⟩ := h
  refine mj_getP dX7_read_17 fl_X7_18_6 hk_a0 rfl ⟨b4, eb4, fun hk_b4 => ?_⟩
  refine mj_callVv (as := []) (st := []) dX7_read_20 cal_X6_clear lk_X7_30 im_X6_clear se_X6_clear (ci := 5) rfl (by decide) hk_b4 h rfl (Nat.le_of_ble_eq_true rfl) (by decide) ⟨Nat.le_of_ble_eq_true rfl, Nat.le_of_ble_eq_true rfl⟩ (fun S5 h hp => ?_)
  have hk_a0 : m_kd S5 a0 = 6 := m_kd_pre hp hk_a0 (by decide)
  have hk_a1 : m_kd S5 a1 = 100 := m_kd_pre hp hk_a1 (by decide)
  have hk_a3 : m_kd S5 a3 = 5 := m_kd_pre hp hk_a3 (by decide)
  have hk_b4 : m_kd S5 b4 = 5 := m_kd_pre hp hk_b4 (by decide)
  refine mj_iconst (v := 0) dX7_read_23 (by decide) ?_
  refine mj_istore dX7_read_24 (by decide) rfl rfl ?_
  exact mj_lessm [true, false, false, false, true, false, false] rfl h
set_option maxRecDepth 20000 in
set_option maxHeartbeats 1000000 in
theorem b_X7_read_26 {l : Launch} {G : mj_G} {a0 : Nat} {x4 : Int32} {S : mj_S} {Q : mj_S → Int32 → Prop} (hk_a0 : m_kd S a0 = 6) (h : (((17 : Int32) < x4) → Q S (m_gi S a0 2)) ∧ ((¬ ((17 : Int32) < x4)) → M_X7_readClause l G a0 S (fun S1 r2 => ((r2 = (-1 : Int32)) → M_X5_peek l G a0 S1 (fun S3 r4 => ((¬ r4 = (-1 : Int32)) → ((r4 = (59 : Int32)) → ∀ S5 : mj_S, S5 = m_si S3 a0 2 ((m_gi S3 a0 2) + (1 : Int32)) → ∀ v6 : Int32, v6 = x4 + (1 : Int32) → V_X7_read_26 l G a0 v6 S5 Q) ∧ ((¬ (r4 = (59 : Int32))) → Q S3 (m_gi S3 a0 2))) ∧ ((r4 = (-1 : Int32)) → ∃ b7, m_gp S3 a0 4 = some b7 ∧ (M_X6_settle l G b7 S3 (fun S8 r9 => ((r9 = 0) → Q S8 (m_gi S8 a0 1)) ∧ ((¬ (r9 = 0)) → Q S8 (-1 : Int32))))))) ∧ ((¬ (r2 = (-1 : Int32))) → Q S1 r2)))) : V_X7_read_26 l G a0 x4 S Q := by
  refine mj_iload dX7_read_26 rfl ?_
  refine mj_bipush (v := 17) dX7_read_28 (by decide) ?_
  refine mj_icmp_gt (tgt := 107) dX7_read_30 (by decide) ⟨fun hc => ?_, fun hc => ?_⟩
  · replace h := h.1 hc
    refine mj_aload_n dX7_read_107 rfl rfl ?_
    refine mj_getI dX7_read_108 fl_X7_48_6 hk_a0 rfl ?_
    exact mj_reti dX7_read_111 rfl ⟨Nat.le_of_ble_eq_true rfl, Nat.le_of_ble_eq_true rfl⟩ h
  · replace h := h.2 hc
    refine mj_aload_n dX7_read_33 rfl rfl ?_
    refine mj_callVi (as := []) (st := []) dX7_read_34 cal_X7_readClause lk_X7_33 im_X7_readClause se_X7_readClause (ci := 6) rfl (by decide) hk_a0 h rfl (Nat.le_of_ble_eq_true rfl) (by decide) ⟨Nat.le_of_ble_eq_true rfl, Nat.le_of_ble_eq_true rfl⟩ (fun S1 r2 h hn_r2 hp => ?_)
    have hk_a0 : m_kd S1 a0 = 6 := m_kd_pre hp hk_a0 (by decide)
    refine mj_istore dX7_read_37 (by decide) rfl rfl ?_
    refine mj_iload dX7_read_39 rfl ?_
    refine mj_iconst (v := (-1)) dX7_read_41 (by decide) ?_
    refine mj_icmp_eq (tgt := 48) dX7_read_42 (by decide) ⟨fun hc => ?_, fun hc => ?_⟩
    · replace h := h.1 hc
      refine mj_aload_n dX7_read_48 rfl rfl ?_
      refine mj_callUi (as := []) (st := []) dX7_read_49 cal_X5_peek lu_X7_37 sa_X7_37 su_X7_37 im_X5_peek rfl (ci := 6) rfl (by decide) hk_a0 h rfl (Nat.le_of_ble_eq_true rfl) (by decide) ⟨Nat.le_of_ble_eq_true rfl, Nat.le_of_ble_eq_true rfl⟩ (fun S3 r4 h hn_r4 hp => ?_)
      have hk_a0 : m_kd S3 a0 = 6 := m_kd_pre hp hk_a0 (by decide)
      refine mj_istore dX7_read_52 (by decide) rfl rfl ?_
      refine mj_iload dX7_read_54 rfl ?_
      refine mj_iconst (v := (-1)) dX7_read_56 (by decide) ?_
      refine mj_icmp_ne (tgt := 79) dX7_read_57 (by decide) ⟨fun hc => ?_, fun hc => ?_⟩
      · replace h := h.1 hc
        refine mj_iload dX7_read_79 rfl ?_
        refine mj_bipush (v := 59) dX7_read_81 (by decide) ?_
        refine mj_icmp_eq (tgt := 91) dX7_read_83 (by decide) ⟨fun hc => ?_, fun hc => ?_⟩
        · replace h := h.1 hc
          refine mj_aload_n dX7_read_91 rfl rfl ?_
          refine mj_dup dX7_read_92 rfl ?_
          refine mj_getI dX7_read_93 fl_X7_48_6 hk_a0 rfl ?_
          refine mj_iconst (v := 1) dX7_read_96 (by decide) ?_
          refine mj_iadd dX7_read_97 ?_
          refine mj_putI dX7_read_98 fl_X7_48_6 hk_a0 (Or.inl rfl) rfl rfl rfl ?_
          obtain ⟨S5, eS5⟩ : ∃ z, z = m_si S3 a0 2 ((m_gi S3 a0 2) + (1 : Int32)) := ⟨_, rfl⟩
          rw [← eS5]
          replace h := h S5 eS5
          have hk_a0 : m_kd S5 a0 = 6 := by rw [eS5]; exact hk_a0
          obtain ⟨v6, ev6⟩ : ∃ z : Int32, z = x4 + (1 : Int32) := ⟨_, rfl⟩
          refine mj_iinc (v := v6) dX7_read_101 rfl (by rw [ev6]; rfl) (by decide) rfl rfl ?_
          replace h := h v6 ev6
          refine mj_goto (tgt := 26) dX7_read_104 (by decide) ?_
          exact mj_lessm [true, false, false, false, true, false, false] rfl h
        · replace h := h.2 hc
          refine mj_aload_n dX7_read_86 rfl rfl ?_
          refine mj_getI dX7_read_87 fl_X7_48_6 hk_a0 rfl ?_
          exact mj_reti dX7_read_90 rfl ⟨Nat.le_of_ble_eq_true rfl, Nat.le_of_ble_eq_true rfl⟩ h
      · replace h := h.2 hc
        refine mj_aload_n dX7_read_60 rfl rfl ?_
        obtain ⟨b7, eb7, h⟩ := h
        refine mj_getP dX7_read_61 fl_X7_18_6 hk_a0 rfl ⟨b7, eb7, fun hk_b7 => ?_⟩
        refine mj_callVi (as := []) (st := []) dX7_read_64 cal_X6_settle lk_X7_40 im_X6_settle se_X6_settle (ci := 5) rfl (by decide) hk_b7 h rfl (Nat.le_of_ble_eq_true rfl) (by decide) ⟨Nat.le_of_ble_eq_true rfl, Nat.le_of_ble_eq_true rfl⟩ (fun S8 r9 h hn_r9 hp => ?_)
        have hk_a0 : m_kd S8 a0 = 6 := m_kd_pre hp hk_a0 (by decide)
        have hk_b7 : m_kd S8 b7 = 5 := m_kd_pre hp hk_b7 (by decide)
        refine mj_if_eq (tgt := 74) dX7_read_67 (by decide) ⟨fun hc => ?_, fun hc => ?_⟩
        · replace h := h.1 hc
          refine mj_aload_n dX7_read_74 rfl rfl ?_
          refine mj_getI dX7_read_75 fl_X7_44_6 hk_a0 rfl ?_
          exact mj_reti dX7_read_78 rfl ⟨Nat.le_of_ble_eq_true rfl, Nat.le_of_ble_eq_true rfl⟩ h
        · replace h := h.2 hc
          refine mj_iconst (v := (-1)) dX7_read_70 (by decide) ?_
          refine mj_goto (tgt := 78) dX7_read_71 (by decide) ?_
          exact mj_reti dX7_read_78 rfl ⟨Nat.le_of_ble_eq_true rfl, Nat.le_of_ble_eq_true rfl⟩ h
    · replace h := h.2 hc
      refine mj_iload dX7_read_45 rfl ?_
      exact mj_reti dX7_read_47 rfl ⟨Nat.le_of_ble_eq_true rfl, Nat.le_of_ble_eq_true rfl⟩ h
abbrev V_X7_isFree_0 (l : Launch) (G : mj_G) (a0 : Nat) (x1 : Int32) (S : mj_S) (Q : mj_S → Int32 → Prop) : Prop := mj_V l G (mj_room 1 0 0) RX7 cX7_isFree 2 (some .boolean) false 0 [some (.ref a0), some (.int x1)] [] S 0 0 (mj_std G (some .boolean) (mj_room 1 0 0) (mj_qi Q))
theorem e_X7_isFree {l : Launch} {G : mj_G} {a0 : Nat} {x1 : Int32} {S : mj_S} {Q : mj_S → Int32 → Prop} (h : V_X7_isFree_0 l G a0 x1 S Q) : M_X7_isFree l G a0 x1 S Q := mj_enter (r := 0) (ini := false) (by decide +kernel) (fun h => by cases h) (fun _ => Nat.le_of_ble_eq_true rfl) rfl h
set_option maxRecDepth 20000 in
set_option maxHeartbeats 1000000 in
theorem b_X7_isFree_0 {l : Launch} {G : mj_G} {a0 : Nat} {x1 : Int32} {S : mj_S} {Q : mj_S → Int32 → Prop} (hk_a0 : m_kd S a0 = 6) (h : (x1.toInt = 99 → ∃ b1, m_gp S a0 4 = some b1 ∧ ((((10 : Int32) ≤ (m_gi S b1 7)) → Q S (0 : Int32)) ∧ ((¬ ((10 : Int32) ≤ (m_gi S b1 7))) → Q S (1 : Int32)))) ∧ (x1.toInt = 112 → ∃ b2, m_gp S a0 4 = some b2 ∧ ((((6 : Int32) ≤ (m_gi S b2 15)) → Q S (0 : Int32)) ∧ ((¬ ((6 : Int32) ≤ (m_gi S b2 15))) → Q S (1 : Int32)))) ∧ (x1.toInt = 115 → ((¬ (m_gi S a0 3) = 0) → Q S (0 : Int32)) ∧ (((m_gi S a0 3) = 0) → Q S (1 : Int32))) ∧ (¬ x1.toInt = 99 ∧ ¬ x1.toInt = 112 ∧ ¬ x1.toInt = 115 → Q S (0 : Int32))) : V_X7_isFree_0 l G a0 x1 S Q := by
  refine mj_iload_n dX7_isFree_0 rfl rfl ?_
  by_cases e0 : x1.toInt = 99
  · replace h := h.1 e0
    refine mj_look (tgt := 49) (off := 48) dX7_isFree_1 (by decide) (by rw [e0]; rfl) (by decide) ?_
    refine mj_aload_n dX7_isFree_49 rfl rfl ?_
    obtain ⟨b1, eb1, h⟩ := h
    refine mj_getP dX7_isFree_50 fl_X7_18_6 hk_a0 rfl ⟨b1, eb1, fun hk_b1 => ?_⟩
    refine mj_getI dX7_isFree_53 fl_X7_51_5 hk_b1 rfl ?_
    refine mj_bipush (v := 10) dX7_isFree_56 (by decide) ?_
    refine mj_icmp_ge (tgt := 65) dX7_isFree_58 (by decide) ⟨fun hc => ?_, fun hc => ?_⟩
    · replace h := h.1 hc
      refine mj_iconst (v := 0) dX7_isFree_65 (by decide) ?_
      exact mj_retz dX7_isFree_66 rfl (rfl) ⟨Nat.le_of_ble_eq_true rfl, Nat.le_of_ble_eq_true rfl⟩ h
    · replace h := h.2 hc
      refine mj_iconst (v := 1) dX7_isFree_61 (by decide) ?_
      refine mj_goto (tgt := 66) dX7_isFree_62 (by decide) ?_
      exact mj_retz dX7_isFree_66 rfl (rfl) ⟨Nat.le_of_ble_eq_true rfl, Nat.le_of_ble_eq_true rfl⟩ h
  · skip
    by_cases e1 : x1.toInt = 112
    · replace h := h.2.1 e1
      refine mj_look (tgt := 67) (off := 66) dX7_isFree_1 (by decide) (by rw [e1]; rfl) (by decide) ?_
      refine mj_aload_n dX7_isFree_67 rfl rfl ?_
      obtain ⟨b2, eb2, h⟩ := h
      refine mj_getP dX7_isFree_68 fl_X7_18_6 hk_a0 rfl ⟨b2, eb2, fun hk_b2 => ?_⟩
      refine mj_getI dX7_isFree_71 fl_X7_54_5 hk_b2 rfl ?_
      refine mj_bipush (v := 6) dX7_isFree_74 (by decide) ?_
      refine mj_icmp_ge (tgt := 83) dX7_isFree_76 (by decide) ⟨fun hc => ?_, fun hc => ?_⟩
      · replace h := h.1 hc
        refine mj_iconst (v := 0) dX7_isFree_83 (by decide) ?_
        exact mj_retz dX7_isFree_84 rfl (rfl) ⟨Nat.le_of_ble_eq_true rfl, Nat.le_of_ble_eq_true rfl⟩ h
      · replace h := h.2 hc
        refine mj_iconst (v := 1) dX7_isFree_79 (by decide) ?_
        refine mj_goto (tgt := 84) dX7_isFree_80 (by decide) ?_
        exact mj_retz dX7_isFree_84 rfl (rfl) ⟨Nat.le_of_ble_eq_true rfl, Nat.le_of_ble_eq_true rfl⟩ h
    · skip
      by_cases e2 : x1.toInt = 115
      · replace h := h.2.2.1 e2
        refine mj_look (tgt := 36) (off := 35) dX7_isFree_1 (by decide) (by rw [e2]; rfl) (by decide) ?_
        refine mj_aload_n dX7_isFree_36 rfl rfl ?_
        refine mj_getI dX7_isFree_37 fl_X7_9_6 hk_a0 rfl ?_
        refine mj_if_ne (tgt := 47) dX7_isFree_40 (by decide) ⟨fun hc => ?_, fun hc => ?_⟩
        · replace h := h.1 hc
          refine mj_iconst (v := 0) dX7_isFree_47 (by decide) ?_
          exact mj_retz dX7_isFree_48 rfl (rfl) ⟨Nat.le_of_ble_eq_true rfl, Nat.le_of_ble_eq_true rfl⟩ h
        · replace h := h.2 hc
          refine mj_iconst (v := 1) dX7_isFree_43 (by decide) ?_
          refine mj_goto (tgt := 48) dX7_isFree_44 (by decide) ?_
          exact mj_retz dX7_isFree_48 rfl (rfl) ⟨Nat.le_of_ble_eq_true rfl, Nat.le_of_ble_eq_true rfl⟩ h
      · skip
        replace h := h.2.2.2 ⟨e0, e1, e2⟩
        refine mj_look (tgt := 85) (off := 84) dX7_isFree_1 (by decide) (by simp [Op.lookupswitch.offset_cons, Op.lookupswitch.offset, Ne.symm e0, e0, Ne.symm e1, e1, Ne.symm e2, e2]) (by decide) ?_
        refine mj_iconst (v := 0) dX7_isFree_85 (by decide) ?_
        exact mj_retz dX7_isFree_86 rfl (rfl) ⟨Nat.le_of_ble_eq_true rfl, Nat.le_of_ble_eq_true rfl⟩ h
abbrev V_X7_readClause_0 (l : Launch) (G : mj_G) (a0 : Nat) (S : mj_S) (Q : mj_S → Int32 → Prop) : Prop := mj_V l G (mj_room 4 0 0) RX7 cX7_readClause 3 (some .int) false 0 [some (.ref a0), none, none] [] S 0 0 (mj_std G (some .int) (mj_room 4 0 0) (mj_qi Q))
theorem e_X7_readClause {l : Launch} {G : mj_G} {a0 : Nat} {S : mj_S} {Q : mj_S → Int32 → Prop} (h : V_X7_readClause_0 l G a0 S Q) : M_X7_readClause l G a0 S Q := mj_enter (r := 2) (ini := false) (by decide +kernel) (fun h => by cases h) (fun _ => Nat.le_of_ble_eq_true rfl) rfl h
set_option maxRecDepth 20000 in
set_option maxHeartbeats 1000000 in
theorem b_X7_readClause_0 {l : Launch} {G : mj_G} {a0 : Nat} {S : mj_S} {Q : mj_S → Int32 → Prop} (hk_a0 : m_kd S a0 = 6) (h : M_X5_peek l G a0 S (fun S1 r2 => M_X7_isFree l G a0 r2 S1 (fun S3 r4 => ((¬ r4 = 0) → ∀ S5 : mj_S, S5 = m_si S3 a0 2 ((m_gi S3 a0 2) + (1 : Int32)) → ∃ b6, m_gp S5 a0 5 = some b6 ∧ ((¬ (0 : Int32) < 0 ∧ ¬ (0 : Int32) < 0 ∧ ¬ (12 : Int32) < 0 ∧ ((0 : Int32)).toNatClampNeg + ((12 : Int32)).toNatClampNeg ≤ m_ln S5 3 ∧ ((0 : Int32)).toNatClampNeg + ((12 : Int32)).toNatClampNeg ≤ m_ln S5 b6) ∧ (∀ S7 : mj_S, S7 = m_row S5 b6 (va_cpy (m_gi S5 3) (m_gi S5 b6) ((0 : Int32)).toNatClampNeg ((0 : Int32)).toNatClampNeg ((12 : Int32)).toNatClampNeg) → ((¬ r2 = (115 : Int32)) → ((¬ r2 = (99 : Int32)) → M_X7_readItems l G a0 (10 : Int32) (12 : Int32) S7 (fun S8 r9 => ∃ b10, m_gp S8 a0 4 = some b10 ∧ (∃ b11, m_gp S8 a0 5 = some b11 ∧ (M_X6_addPerson l G b10 b11 S8 (fun S12 => Q S12 r9))))) ∧ ((r2 = (99 : Int32)) → M_X7_readItems l G a0 (4 : Int32) (10 : Int32) S7 (fun S13 r14 => ∃ b15, m_gp S13 a0 4 = some b15 ∧ (∃ b16, m_gp S13 a0 5 = some b16 ∧ (M_X6_addCurtain l G b15 b16 S13 (fun S17 => Q S17 r14)))))) ∧ ((r2 = (115 : Int32)) → M_X7_readItems l G a0 (0 : Int32) (4 : Int32) S7 (fun S18 r19 => ∃ b20, m_gp S18 a0 4 = some b20 ∧ (∃ b21, m_gp S18 a0 5 = some b21 ∧ (M_X6_setRules l G b20 b21 S18 (fun S22 => ∀ S23 : mj_S, S23 = m_si S22 a0 3 (1 : Int32) → Q S23 r19)))))))) ∧ ((r4 = 0) → Q S3 (m_gi S3 a0 2))))) : V_X7_readClause_0 l G a0 S Q := by
  refine mj_aload_n dX7_readClause_0 rfl rfl ?_
  refine mj_callUi (as := []) (st := []) dX7_readClause_1 cal_X5_peek lu_X7_37 sa_X7_37 su_X7_37 im_X5_peek rfl (ci := 6) rfl (by decide) hk_a0 h rfl (Nat.le_of_ble_eq_true rfl) (by decide) ⟨Nat.le_of_ble_eq_true rfl, Nat.le_of_ble_eq_true rfl⟩ (fun S1 r2 h hn_r2 hp => ?_)
  have hk_a0 : m_kd S1 a0 = 6 := m_kd_pre hp hk_a0 (by decide)
  refine mj_istore_n dX7_readClause_4 rfl (by decide) rfl rfl ?_
  refine mj_aload_n dX7_readClause_5 rfl rfl ?_
  refine mj_iload_n dX7_readClause_6 rfl rfl ?_
  refine mj_callVi (as := [.int r2]) (st := []) dX7_readClause_7 cal_X7_isFree lk_X7_57 im_X7_isFree se_X7_isFree (ci := 6) rfl (by decide) hk_a0 h rfl (Nat.le_of_ble_eq_true rfl) (by decide) ⟨Nat.le_of_ble_eq_true rfl, Nat.le_of_ble_eq_true rfl⟩ (fun S3 r4 h hn_r4 hp => ?_)
  have hk_a0 : m_kd S3 a0 = 6 := m_kd_pre hp hk_a0 (by decide)
  refine mj_if_ne (tgt := 18) dX7_readClause_10 (by decide) ⟨fun hc => ?_, fun hc => ?_⟩
  · replace h := h.1 hc
    refine mj_aload_n dX7_readClause_18 rfl rfl ?_
    refine mj_dup dX7_readClause_19 rfl ?_
    refine mj_getI dX7_readClause_20 fl_X7_48_6 hk_a0 rfl ?_
    refine mj_iconst (v := 1) dX7_readClause_23 (by decide) ?_
    refine mj_iadd dX7_readClause_24 ?_
    refine mj_putI dX7_readClause_25 fl_X7_48_6 hk_a0 (Or.inl rfl) rfl rfl rfl ?_
    obtain ⟨S5, eS5⟩ : ∃ z, z = m_si S3 a0 2 ((m_gi S3 a0 2) + (1 : Int32)) := ⟨_, rfl⟩
    rw [← eS5]
    replace h := h S5 eS5
    have hk_a0 : m_kd S5 a0 = 6 := by rw [eS5]; exact hk_a0
    refine mj_gets (i := 3) (t := 110) dX7_readClause_28 (by decide) rfl gs_X7_61 (fun _ => rfl) (fun hk_t3 _ => ?_)
    refine mj_iconst (v := 0) dX7_readClause_31 (by decide) ?_
    refine mj_aload_n dX7_readClause_32 rfl rfl ?_
    obtain ⟨b6, eb6, h⟩ := h
    refine mj_getP dX7_readClause_33 fl_X7_22_6 hk_a0 rfl ⟨b6, eb6, fun hk_b6 => ?_⟩
    refine mj_iconst (v := 0) dX7_readClause_36 (by decide) ?_
    refine mj_bipush (v := 12) dX7_readClause_37 (by decide) ?_
    refine mj_copy (st := []) dX7_readClause_39 ac_X7_64 (Or.inr hk_t3) hk_b6 h.1 (by decide) (Nat.le_of_ble_eq_true rfl) ?_
    replace h := h.2
    obtain ⟨S7, eS7⟩ : ∃ z, z = m_row S5 b6 (va_cpy (m_gi S5 3) (m_gi S5 b6) ((0 : Int32)).toNatClampNeg ((0 : Int32)).toNatClampNeg ((12 : Int32)).toNatClampNeg) := ⟨_, rfl⟩
    rw [← eS7]
    replace h := h S7 eS7
    have hk_a0 : m_kd S7 a0 = 6 := by rw [eS7]; exact hk_a0
    have hk_t3 : m_kd S7 3 = 110 := by rw [eS7]; exact hk_t3
    have hk_b6 : m_kd S7 b6 = 100 := by rw [eS7]; exact hk_b6
    refine mj_iconst (v := (-1)) dX7_readClause_42 (by decide) ?_
    refine mj_istore_n dX7_readClause_43 rfl (by decide) rfl rfl ?_
    refine mj_iload_n dX7_readClause_44 rfl rfl ?_
    refine mj_bipush (v := 115) dX7_readClause_45 (by decide) ?_
    refine mj_icmp_ne (tgt := 76) dX7_readClause_47 (by decide) ⟨fun hc => ?_, fun hc => ?_⟩
    · replace h := h.1 hc
      refine mj_iload_n dX7_readClause_76 rfl rfl ?_
      refine mj_bipush (v := 99) dX7_readClause_77 (by decide) ?_
      refine mj_icmp_ne (tgt := 104) dX7_readClause_79 (by decide) ⟨fun hc => ?_, fun hc => ?_⟩
      · replace h := h.1 hc
        refine mj_aload_n dX7_readClause_104 rfl rfl ?_
        refine mj_bipush (v := 10) dX7_readClause_105 (by decide) ?_
        refine mj_bipush (v := 12) dX7_readClause_107 (by decide) ?_
        refine mj_callVi (as := [.int (10 : Int32), .int (12 : Int32)]) (st := []) dX7_readClause_109 cal_X7_readItems lk_X7_70 im_X7_readItems se_X7_readItems (ci := 6) rfl (by decide) hk_a0 h rfl (Nat.le_of_ble_eq_true rfl) (by decide) ⟨Nat.le_of_ble_eq_true rfl, Nat.le_of_ble_eq_true rfl⟩ (fun S8 r9 h hn_r9 hp => ?_)
        have hk_a0 : m_kd S8 a0 = 6 := m_kd_pre hp hk_a0 (by decide)
        have hk_t3 : m_kd S8 3 = 110 := m_kd_pre hp hk_t3 (by decide)
        have hk_b6 : m_kd S8 b6 = 100 := m_kd_pre hp hk_b6 (by decide)
        refine mj_istore_n dX7_readClause_112 rfl (by decide) rfl rfl ?_
        refine mj_aload_n dX7_readClause_113 rfl rfl ?_
        obtain ⟨b10, eb10, h⟩ := h
        refine mj_getP dX7_readClause_114 fl_X7_18_6 hk_a0 rfl ⟨b10, eb10, fun hk_b10 => ?_⟩
        refine mj_aload_n dX7_readClause_117 rfl rfl ?_
        obtain ⟨b11, eb11, h⟩ := h
        refine mj_getP dX7_readClause_118 fl_X7_22_6 hk_a0 rfl ⟨b11, eb11, fun hk_b11 => ?_⟩
        refine mj_callVv (as := [.ref b11]) (st := []) dX7_readClause_121 cal_X6_addPerson lk_X7_81 im_X6_addPerson se_X6_addPerson (ci := 5) rfl (by decide) hk_b10 h rfl (Nat.le_of_ble_eq_true rfl) (by decide) ⟨Nat.le_of_ble_eq_true rfl, Nat.le_of_ble_eq_true rfl⟩ (fun S12 h hp => ?_)
        have hk_a0 : m_kd S12 a0 = 6 := m_kd_pre hp hk_a0 (by decide)
        have hk_t3 : m_kd S12 3 = 110 := m_kd_pre hp hk_t3 (by decide)
        have hk_b6 : m_kd S12 b6 = 100 := m_kd_pre hp hk_b6 (by decide)
        have hk_b10 : m_kd S12 b10 = 5 := m_kd_pre hp hk_b10 (by decide)
        have hk_b11 : m_kd S12 b11 = 100 := m_kd_pre hp hk_b11 (by decide)
        refine mj_iload_n dX7_readClause_124 rfl rfl ?_
        exact mj_reti dX7_readClause_125 rfl ⟨Nat.le_of_ble_eq_true rfl, Nat.le_of_ble_eq_true rfl⟩ h
      · replace h := h.2 hc
        refine mj_aload_n dX7_readClause_82 rfl rfl ?_
        refine mj_iconst (v := 4) dX7_readClause_83 (by decide) ?_
        refine mj_bipush (v := 10) dX7_readClause_84 (by decide) ?_
        refine mj_callVi (as := [.int (4 : Int32), .int (10 : Int32)]) (st := []) dX7_readClause_86 cal_X7_readItems lk_X7_70 im_X7_readItems se_X7_readItems (ci := 6) rfl (by decide) hk_a0 h rfl (Nat.le_of_ble_eq_true rfl) (by decide) ⟨Nat.le_of_ble_eq_true rfl, Nat.le_of_ble_eq_true rfl⟩ (fun S13 r14 h hn_r14 hp => ?_)
        have hk_a0 : m_kd S13 a0 = 6 := m_kd_pre hp hk_a0 (by decide)
        have hk_t3 : m_kd S13 3 = 110 := m_kd_pre hp hk_t3 (by decide)
        have hk_b6 : m_kd S13 b6 = 100 := m_kd_pre hp hk_b6 (by decide)
        refine mj_istore_n dX7_readClause_89 rfl (by decide) rfl rfl ?_
        refine mj_aload_n dX7_readClause_90 rfl rfl ?_
        obtain ⟨b15, eb15, h⟩ := h
        refine mj_getP dX7_readClause_91 fl_X7_18_6 hk_a0 rfl ⟨b15, eb15, fun hk_b15 => ?_⟩
        refine mj_aload_n dX7_readClause_94 rfl rfl ?_
        obtain ⟨b16, eb16, h⟩ := h
        refine mj_getP dX7_readClause_95 fl_X7_22_6 hk_a0 rfl ⟨b16, eb16, fun hk_b16 => ?_⟩
        refine mj_callVv (as := [.ref b16]) (st := []) dX7_readClause_98 cal_X6_addCurtain lk_X7_78 im_X6_addCurtain se_X6_addCurtain (ci := 5) rfl (by decide) hk_b15 h rfl (Nat.le_of_ble_eq_true rfl) (by decide) ⟨Nat.le_of_ble_eq_true rfl, Nat.le_of_ble_eq_true rfl⟩ (fun S17 h hp => ?_)
        have hk_a0 : m_kd S17 a0 = 6 := m_kd_pre hp hk_a0 (by decide)
        have hk_t3 : m_kd S17 3 = 110 := m_kd_pre hp hk_t3 (by decide)
        have hk_b6 : m_kd S17 b6 = 100 := m_kd_pre hp hk_b6 (by decide)
        have hk_b15 : m_kd S17 b15 = 5 := m_kd_pre hp hk_b15 (by decide)
        have hk_b16 : m_kd S17 b16 = 100 := m_kd_pre hp hk_b16 (by decide)
        refine mj_goto (tgt := 124) dX7_readClause_101 (by decide) ?_
        refine mj_iload_n dX7_readClause_124 rfl rfl ?_
        exact mj_reti dX7_readClause_125 rfl ⟨Nat.le_of_ble_eq_true rfl, Nat.le_of_ble_eq_true rfl⟩ h
    · replace h := h.2 hc
      refine mj_aload_n dX7_readClause_50 rfl rfl ?_
      refine mj_iconst (v := 0) dX7_readClause_51 (by decide) ?_
      refine mj_iconst (v := 4) dX7_readClause_52 (by decide) ?_
      refine mj_callVi (as := [.int (0 : Int32), .int (4 : Int32)]) (st := []) dX7_readClause_53 cal_X7_readItems lk_X7_70 im_X7_readItems se_X7_readItems (ci := 6) rfl (by decide) hk_a0 h rfl (Nat.le_of_ble_eq_true rfl) (by decide) ⟨Nat.le_of_ble_eq_true rfl, Nat.le_of_ble_eq_true rfl⟩ (fun S18 r19 h hn_r19 hp => ?_)
      have hk_a0 : m_kd S18 a0 = 6 := m_kd_pre hp hk_a0 (by decide)
      have hk_t3 : m_kd S18 3 = 110 := m_kd_pre hp hk_t3 (by decide)
      have hk_b6 : m_kd S18 b6 = 100 := m_kd_pre hp hk_b6 (by decide)
      refine mj_istore_n dX7_readClause_56 rfl (by decide) rfl rfl ?_
      refine mj_aload_n dX7_readClause_57 rfl rfl ?_
      obtain ⟨b20, eb20, h⟩ := h
      refine mj_getP dX7_readClause_58 fl_X7_18_6 hk_a0 rfl ⟨b20, eb20, fun hk_b20 => ?_⟩
      refine mj_aload_n dX7_readClause_61 rfl rfl ?_
      obtain ⟨b21, eb21, h⟩ := h
      refine mj_getP dX7_readClause_62 fl_X7_22_6 hk_a0 rfl ⟨b21, eb21, fun hk_b21 => ?_⟩
      refine mj_callVv (as := [.ref b21]) (st := []) dX7_readClause_65 cal_X6_setRules lk_X7_74 im_X6_setRules se_X6_setRules (ci := 5) rfl (by decide) hk_b20 h rfl (Nat.le_of_ble_eq_true rfl) (by decide) ⟨Nat.le_of_ble_eq_true rfl, Nat.le_of_ble_eq_true rfl⟩ (fun S22 h hp => ?_)
      have hk_a0 : m_kd S22 a0 = 6 := m_kd_pre hp hk_a0 (by decide)
      have hk_t3 : m_kd S22 3 = 110 := m_kd_pre hp hk_t3 (by decide)
      have hk_b6 : m_kd S22 b6 = 100 := m_kd_pre hp hk_b6 (by decide)
      have hk_b20 : m_kd S22 b20 = 5 := m_kd_pre hp hk_b20 (by decide)
      have hk_b21 : m_kd S22 b21 = 100 := m_kd_pre hp hk_b21 (by decide)
      refine mj_aload_n dX7_readClause_68 rfl rfl ?_
      refine mj_iconst (v := 1) dX7_readClause_69 (by decide) ?_
      refine mj_putI dX7_readClause_70 fl_X7_9_6 hk_a0 (Or.inl rfl) rfl rfl rfl ?_
      obtain ⟨S23, eS23⟩ : ∃ z, z = m_si S22 a0 3 (1 : Int32) := ⟨_, rfl⟩
      rw [← eS23]
      replace h := h S23 eS23
      have hk_a0 : m_kd S23 a0 = 6 := by rw [eS23]; exact hk_a0
      have hk_t3 : m_kd S23 3 = 110 := by rw [eS23]; exact hk_t3
      have hk_b6 : m_kd S23 b6 = 100 := by rw [eS23]; exact hk_b6
      have hk_b20 : m_kd S23 b20 = 5 := by rw [eS23]; exact hk_b20
      have hk_b21 : m_kd S23 b21 = 100 := by rw [eS23]; exact hk_b21
      refine mj_goto (tgt := 124) dX7_readClause_73 (by decide) ?_
      refine mj_iload_n dX7_readClause_124 rfl rfl ?_
      exact mj_reti dX7_readClause_125 rfl ⟨Nat.le_of_ble_eq_true rfl, Nat.le_of_ble_eq_true rfl⟩ h
  · replace h := h.2 hc
    refine mj_aload_n dX7_readClause_13 rfl rfl ?_
    refine mj_getI dX7_readClause_14 fl_X7_48_6 hk_a0 rfl ?_
    exact mj_reti dX7_readClause_17 rfl ⟨Nat.le_of_ble_eq_true rfl, Nat.le_of_ble_eq_true rfl⟩ h
abbrev V_X7_readItems_0 (l : Launch) (G : mj_G) (a0 : Nat) (x1 : Int32) (x2 : Int32) (S : mj_S) (Q : mj_S → Int32 → Prop) : Prop := mj_V l G (mj_room 3 0 0) RX7 cX7_readItems 7 (some .int) false 0 [some (.ref a0), some (.int x1), some (.int x2), none, none, none, none] [] S 0 0 (mj_std G (some .int) (mj_room 3 0 0) (mj_qi Q))
abbrev V_X7_readItems_5 (l : Launch) (G : mj_G) (a0 : Nat) (x1 : Int32) (x2 : Int32) (x3 : Int32) (x4 : Int32) (S : mj_S) (Q : mj_S → Int32 → Prop) : Prop := mj_V l G (mj_room 3 0 0) RX7 cX7_readItems 7 (some .int) false 5 [some (.ref a0), some (.int x1), some (.int x2), some (.int x3), some (.int x4), none, none] [] S 0 0 (mj_std G (some .int) (mj_room 3 0 0) (mj_qi Q))
theorem e_X7_readItems {l : Launch} {G : mj_G} {a0 : Nat} {x1 : Int32} {x2 : Int32} {S : mj_S} {Q : mj_S → Int32 → Prop} (h : V_X7_readItems_0 l G a0 x1 x2 S Q) : M_X7_readItems l G a0 x1 x2 S Q := mj_enter (r := 4) (ini := false) (by decide +kernel) (fun h => by cases h) (fun _ => Nat.le_of_ble_eq_true rfl) rfl h
set_option maxRecDepth 20000 in
set_option maxHeartbeats 1000000 in
theorem b_X7_readItems_0 {l : Launch} {G : mj_G} {a0 : Nat} {x1 : Int32} {x2 : Int32} {S : mj_S} {Q : mj_S → Int32 → Prop} (hk_a0 : m_kd S a0 = 6) (h : V_X7_readItems_5 l G a0 x1 x2 (0 : Int32) x1 S Q) : V_X7_readItems_0 l G a0 x1 x2 S Q := by
  refine mj_iconst (v := 0) dX7_readItems_0 (by decide) ?_
  refine mj_istore_n dX7_readItems_1 rfl (by decide) rfl rfl ?_
  refine mj_iload_n dX7_readItems_2 rfl rfl ?_
  refine mj_istore dX7_readItems_3 (by decide) rfl rfl ?_
  exact h
set_option maxRecDepth 20000 in
set_option maxHeartbeats 1000000 in
theorem b_X7_readItems_5 {l : Launch} {G : mj_G} {a0 : Nat} {x1 : Int32} {x2 : Int32} {x3 : Int32} {x4 : Int32} {S : mj_S} {Q : mj_S → Int32 → Prop} (hk_a0 : m_kd S a0 = 6) (h : ((x2 < x4) → Q S (-1 : Int32)) ∧ ((¬ (x2 < x4)) → M_X5_peek l G a0 S (fun S1 r2 => M_X7_itemOf l G r2 x1 x2 S1 (fun S3 r4 => ((¬ r4 = (-1 : Int32)) → M_X10_has l G x3 r4 S3 (fun S5 r6 => ((r6 = 0) → ∀ v7 : Int32, v7 = (x3 ||| ((1 : Int32) <<< (r4 &&& 31))) → ∀ S8 : mj_S, S8 = m_si S5 a0 2 ((m_gi S5 a0 2) + (1 : Int32)) → M_X7_readNumber l G a0 r4 S8 (fun S9 r10 => ((r10 = (-1 : Int32)) → ∀ v11 : Int32, v11 = x4 + (1 : Int32) → V_X7_readItems_5 l G a0 x1 x2 v7 v11 S9 Q) ∧ ((¬ (r10 = (-1 : Int32))) → Q S9 r10))) ∧ ((¬ (r6 = 0)) → Q S5 (m_gi S5 a0 2)))) ∧ ((r4 = (-1 : Int32)) → Q S3 (-1 : Int32)))))) : V_X7_readItems_5 l G a0 x1 x2 x3 x4 S Q := by
  refine mj_iload dX7_readItems_5 rfl ?_
  refine mj_iload_n dX7_readItems_7 rfl rfl ?_
  refine mj_icmp_gt (tgt := 84) dX7_readItems_8 (by decide) ⟨fun hc => ?_, fun hc => ?_⟩
  · replace h := h.1 hc
    refine mj_iconst (v := (-1)) dX7_readItems_84 (by decide) ?_
    exact mj_reti dX7_readItems_85 rfl ⟨Nat.le_of_ble_eq_true rfl, Nat.le_of_ble_eq_true rfl⟩ h
  · replace h := h.2 hc
    refine mj_aload_n dX7_readItems_11 rfl rfl ?_
    refine mj_callUi (as := []) (st := []) dX7_readItems_12 cal_X5_peek lu_X7_37 sa_X7_37 su_X7_37 im_X5_peek rfl (ci := 6) rfl (by decide) hk_a0 h rfl (Nat.le_of_ble_eq_true rfl) (by decide) ⟨Nat.le_of_ble_eq_true rfl, Nat.le_of_ble_eq_true rfl⟩ (fun S1 r2 h hn_r2 hp => ?_)
    have hk_a0 : m_kd S1 a0 = 6 := m_kd_pre hp hk_a0 (by decide)
    refine mj_iload_n dX7_readItems_15 rfl rfl ?_
    refine mj_iload_n dX7_readItems_16 rfl rfl ?_
    refine mj_callSi (as := [.int r2, .int x1, .int x2]) (st := []) dX7_readItems_17 cal_X7_itemOf lk_X7_84 sm_X7_itemOf h rfl (Nat.le_of_ble_eq_true rfl) (by decide) ⟨Nat.le_of_ble_eq_true rfl, Nat.le_of_ble_eq_true rfl⟩ (fun S3 r4 h hn_r4 hp => ?_)
    have hk_a0 : m_kd S3 a0 = 6 := m_kd_pre hp hk_a0 (by decide)
    refine mj_istore dX7_readItems_20 (by decide) rfl rfl ?_
    refine mj_iload dX7_readItems_22 rfl ?_
    refine mj_iconst (v := (-1)) dX7_readItems_24 (by decide) ?_
    refine mj_icmp_ne (tgt := 30) dX7_readItems_25 (by decide) ⟨fun hc => ?_, fun hc => ?_⟩
    · replace h := h.1 hc
      refine mj_iload_n dX7_readItems_30 rfl rfl ?_
      refine mj_iload dX7_readItems_31 rfl ?_
      refine mj_callNi (as := [.int x3, .int r4]) (st := []) dX7_readItems_33 cal_X10_has ln_X7_88 sm_X10_has h rfl (Nat.le_of_ble_eq_true rfl) (by decide) ⟨Nat.le_of_ble_eq_true rfl, Nat.le_of_ble_eq_true rfl⟩ (fun S5 r6 h hn_r6 hp => ?_)
      have hk_a0 : m_kd S5 a0 = 6 := m_kd_pre hp hk_a0 (by decide)
      refine mj_if_eq (tgt := 44) dX7_readItems_36 (by decide) ⟨fun hc => ?_, fun hc => ?_⟩
      · replace h := h.1 hc
        refine mj_iload_n dX7_readItems_44 rfl rfl ?_
        refine mj_iconst (v := 1) dX7_readItems_45 (by decide) ?_
        refine mj_iload dX7_readItems_46 rfl ?_
        refine mj_ishl dX7_readItems_48 ?_
        refine mj_ior dX7_readItems_49 ?_
        refine mj_nmi (fun v7 ev7 => ?_)
        replace h := h v7 ev7
        refine mj_istore_n dX7_readItems_50 rfl (by decide) rfl rfl ?_
        refine mj_aload_n dX7_readItems_51 rfl rfl ?_
        refine mj_dup dX7_readItems_52 rfl ?_
        refine mj_getI dX7_readItems_53 fl_X7_48_6 hk_a0 rfl ?_
        refine mj_iconst (v := 1) dX7_readItems_56 (by decide) ?_
        refine mj_iadd dX7_readItems_57 ?_
        refine mj_putI dX7_readItems_58 fl_X7_48_6 hk_a0 (Or.inl rfl) rfl rfl rfl ?_
        obtain ⟨S8, eS8⟩ : ∃ z, z = m_si S5 a0 2 ((m_gi S5 a0 2) + (1 : Int32)) := ⟨_, rfl⟩
        rw [← eS8]
        replace h := h S8 eS8
        have hk_a0 : m_kd S8 a0 = 6 := by rw [eS8]; exact hk_a0
        refine mj_aload_n dX7_readItems_61 rfl rfl ?_
        refine mj_iload dX7_readItems_62 rfl ?_
        refine mj_callVi (as := [.int r4]) (st := []) dX7_readItems_64 cal_X7_readNumber lk_X7_92 im_X7_readNumber se_X7_readNumber (ci := 6) rfl (by decide) hk_a0 h rfl (Nat.le_of_ble_eq_true rfl) (by decide) ⟨Nat.le_of_ble_eq_true rfl, Nat.le_of_ble_eq_true rfl⟩ (fun S9 r10 h hn_r10 hp => ?_)
        have hk_a0 : m_kd S9 a0 = 6 := m_kd_pre hp hk_a0 (by decide)
        refine mj_istore dX7_readItems_67 (by decide) rfl rfl ?_
        refine mj_iload dX7_readItems_69 rfl ?_
        refine mj_iconst (v := (-1)) dX7_readItems_71 (by decide) ?_
        refine mj_icmp_eq (tgt := 78) dX7_readItems_72 (by decide) ⟨fun hc => ?_, fun hc => ?_⟩
        · replace h := h.1 hc
          obtain ⟨v11, ev11⟩ : ∃ z : Int32, z = x4 + (1 : Int32) := ⟨_, rfl⟩
          refine mj_iinc (v := v11) dX7_readItems_78 rfl (by rw [ev11]; rfl) (by decide) rfl rfl ?_
          replace h := h v11 ev11
          refine mj_goto (tgt := 5) dX7_readItems_81 (by decide) ?_
          exact mj_lessm [true, true, true, true, true, false, false] rfl h
        · replace h := h.2 hc
          refine mj_iload dX7_readItems_75 rfl ?_
          exact mj_reti dX7_readItems_77 rfl ⟨Nat.le_of_ble_eq_true rfl, Nat.le_of_ble_eq_true rfl⟩ h
      · replace h := h.2 hc
        refine mj_aload_n dX7_readItems_39 rfl rfl ?_
        refine mj_getI dX7_readItems_40 fl_X7_48_6 hk_a0 rfl ?_
        exact mj_reti dX7_readItems_43 rfl ⟨Nat.le_of_ble_eq_true rfl, Nat.le_of_ble_eq_true rfl⟩ h
    · replace h := h.2 hc
      refine mj_iconst (v := (-1)) dX7_readItems_28 (by decide) ?_
      exact mj_reti dX7_readItems_29 rfl ⟨Nat.le_of_ble_eq_true rfl, Nat.le_of_ble_eq_true rfl⟩ h
abbrev V_X7_itemOf_0 (l : Launch) (G : mj_G) (x0 : Int32) (x1 : Int32) (x2 : Int32) (S : mj_S) (Q : mj_S → Int32 → Prop) : Prop := mj_V l G (mj_room 1 0 0) RX7 cX7_itemOf 4 (some .int) false 0 [some (.int x0), some (.int x1), some (.int x2), none] [] S 0 0 (mj_std G (some .int) (mj_room 1 0 0) (mj_qi Q))
abbrev V_X7_itemOf_2 (l : Launch) (G : mj_G) (x0 : Int32) (x2 : Int32) (x3 : Int32) (S : mj_S) (Q : mj_S → Int32 → Prop) : Prop := mj_V l G (mj_room 1 0 0) RX7 cX7_itemOf 4 (some .int) false 2 [some (.int x0), none, some (.int x2), some (.int x3)] [] S 0 0 (mj_std G (some .int) (mj_room 1 0 0) (mj_qi Q))
theorem e_X7_itemOf {l : Launch} {G : mj_G} {x0 : Int32} {x1 : Int32} {x2 : Int32} {S : mj_S} {Q : mj_S → Int32 → Prop} (h : V_X7_itemOf_0 l G x0 x1 x2 S Q) : M_X7_itemOf l G x0 x1 x2 S Q := mj_enter (r := 1) (ini := false) (by decide +kernel) (fun h => by cases h) (fun _ => Nat.le_of_ble_eq_true rfl) rfl h
set_option maxRecDepth 20000 in
set_option maxHeartbeats 1000000 in
theorem b_X7_itemOf_0 {l : Launch} {G : mj_G} {x0 : Int32} {x1 : Int32} {x2 : Int32} {S : mj_S} {Q : mj_S → Int32 → Prop} (h : V_X7_itemOf_2 l G x0 x2 x1 S Q) : V_X7_itemOf_0 l G x0 x1 x2 S Q := by
  refine mj_iload_n dX7_itemOf_0 rfl rfl ?_
  refine mj_istore_n dX7_itemOf_1 rfl (by decide) rfl rfl ?_
  exact mj_lessm [true, false, true, true] rfl h
set_option maxRecDepth 20000 in
set_option maxHeartbeats 1000000 in
theorem b_X7_itemOf_2 {l : Launch} {G : mj_G} {x0 : Int32} {x2 : Int32} {x3 : Int32} {S : mj_S} {Q : mj_S → Int32 → Prop} (h : ((x2 ≤ x3) → Q S (-1 : Int32)) ∧ ((¬ (x2 ≤ x3)) → vp_in x3 (m_ln S 0) ∧ (((¬ (m_gi S 0 (x3).toNatClampNeg) = x0) → ∀ v1 : Int32, v1 = x3 + (1 : Int32) → V_X7_itemOf_2 l G x0 x2 v1 S Q) ∧ (((m_gi S 0 (x3).toNatClampNeg) = x0) → Q S x3)))) : V_X7_itemOf_2 l G x0 x2 x3 S Q := by
  refine mj_iload_n dX7_itemOf_2 rfl rfl ?_
  refine mj_iload_n dX7_itemOf_3 rfl rfl ?_
  refine mj_icmp_ge (tgt := 24) dX7_itemOf_4 (by decide) ⟨fun hc => ?_, fun hc => ?_⟩
  · replace h := h.1 hc
    refine mj_iconst (v := (-1)) dX7_itemOf_24 (by decide) ?_
    exact mj_reti dX7_itemOf_25 rfl ⟨Nat.le_of_ble_eq_true rfl, Nat.le_of_ble_eq_true rfl⟩ h
  · replace h := h.2 hc
    refine mj_gets (i := 0) (t := 111) dX7_itemOf_7 (by decide) rfl gs_X7_96 (fun _ => rfl) (fun hk_t0 _ => ?_)
    refine mj_iload_n dX7_itemOf_10 rfl rfl ?_
    refine mj_cald dX7_itemOf_11 hk_t0 ⟨h.1, ?_⟩
    replace h := h.2
    refine mj_iload_n dX7_itemOf_12 rfl rfl ?_
    refine mj_icmp_ne (tgt := 18) dX7_itemOf_13 (by decide) ⟨fun hc => ?_, fun hc => ?_⟩
    · replace h := h.1 hc
      obtain ⟨v1, ev1⟩ : ∃ z : Int32, z = x3 + (1 : Int32) := ⟨_, rfl⟩
      refine mj_iinc (v := v1) dX7_itemOf_18 rfl (by rw [ev1]; rfl) (by decide) rfl rfl ?_
      replace h := h v1 ev1
      refine mj_goto (tgt := 2) dX7_itemOf_21 (by decide) ?_
      exact h
    · replace h := h.2 hc
      refine mj_iload_n dX7_itemOf_16 rfl rfl ?_
      exact mj_reti dX7_itemOf_17 rfl ⟨Nat.le_of_ble_eq_true rfl, Nat.le_of_ble_eq_true rfl⟩ h
abbrev V_X7_readNumber_0 (l : Launch) (G : mj_G) (a0 : Nat) (x1 : Int32) (S : mj_S) (Q : mj_S → Int32 → Prop) : Prop := mj_V l G (mj_room 2 0 0) RX7 cX7_readNumber 4 (some .int) false 0 [some (.ref a0), some (.int x1), none, none] [] S 0 0 (mj_std G (some .int) (mj_room 2 0 0) (mj_qi Q))
abbrev V_X7_readNumber_19 (l : Launch) (G : mj_G) (a0 : Nat) (x1 : Int32) (x2 : Int32) (x3 : Int32) (S : mj_S) (Q : mj_S → Int32 → Prop) : Prop := mj_V l G (mj_room 2 0 0) RX7 cX7_readNumber 4 (some .int) false 19 [some (.ref a0), some (.int x1), some (.int x2), some (.int x3)] [] S 0 0 (mj_std G (some .int) (mj_room 2 0 0) (mj_qi Q))
abbrev V_X7_readNumber_89 (l : Launch) (G : mj_G) (a0 : Nat) (x1 : Int32) (x2 : Int32) (S : mj_S) (Q : mj_S → Int32 → Prop) : Prop := mj_V l G (mj_room 2 0 0) RX7 cX7_readNumber 4 (some .int) false 89 [some (.ref a0), some (.int x1), some (.int x2), none] [] S 0 0 (mj_std G (some .int) (mj_room 2 0 0) (mj_qi Q))
theorem e_X7_readNumber {l : Launch} {G : mj_G} {a0 : Nat} {x1 : Int32} {S : mj_S} {Q : mj_S → Int32 → Prop} (h : V_X7_readNumber_0 l G a0 x1 S Q) : M_X7_readNumber l G a0 x1 S Q := mj_enter (r := 2) (ini := false) (by decide +kernel) (fun h => by cases h) (fun _ => Nat.le_of_ble_eq_true rfl) rfl h
set_option maxRecDepth 20000 in
set_option maxHeartbeats 1000000 in
theorem b_X7_readNumber_0 {l : Launch} {G : mj_G} {a0 : Nat} {x1 : Int32} {S : mj_S} {Q : mj_S → Int32 → Prop} (hk_a0 : m_kd S a0 = 6) (h : M_X5_peek l G a0 S (fun S1 r2 => M_X5_isDigit l G r2 S1 (fun S3 r4 => ((¬ r4 = 0) → V_X7_readNumber_19 l G a0 x1 (0 : Int32) (0 : Int32) S3 Q) ∧ ((r4 = 0) → Q S3 (m_gi S3 a0 2))))) : V_X7_readNumber_0 l G a0 x1 S Q := by
  refine mj_aload_n dX7_readNumber_0 rfl rfl ?_
  refine mj_callUi (as := []) (st := []) dX7_readNumber_1 cal_X5_peek lu_X7_37 sa_X7_37 su_X7_37 im_X5_peek rfl (ci := 6) rfl (by decide) hk_a0 h rfl (Nat.le_of_ble_eq_true rfl) (by decide) ⟨Nat.le_of_ble_eq_true rfl, Nat.le_of_ble_eq_true rfl⟩ (fun S1 r2 h hn_r2 hp => ?_)
  have hk_a0 : m_kd S1 a0 = 6 := m_kd_pre hp hk_a0 (by decide)
  refine mj_callSUi (as := [.int r2]) (st := []) dX7_readNumber_4 cal_X5_isDigit lu_X7_100 sm_X5_isDigit sa_X7_100 rfl h rfl (Nat.le_of_ble_eq_true rfl) (by decide) ⟨Nat.le_of_ble_eq_true rfl, Nat.le_of_ble_eq_true rfl⟩ (fun S3 r4 h hn_r4 hp => ?_)
  have hk_a0 : m_kd S3 a0 = 6 := m_kd_pre hp hk_a0 (by decide)
  refine mj_if_ne (tgt := 15) dX7_readNumber_7 (by decide) ⟨fun hc => ?_, fun hc => ?_⟩
  · replace h := h.1 hc
    refine mj_iconst (v := 0) dX7_readNumber_15 (by decide) ?_
    refine mj_istore_n dX7_readNumber_16 rfl (by decide) rfl rfl ?_
    refine mj_iconst (v := 0) dX7_readNumber_17 (by decide) ?_
    refine mj_istore_n dX7_readNumber_18 rfl (by decide) rfl rfl ?_
    exact h
  · replace h := h.2 hc
    refine mj_aload_n dX7_readNumber_10 rfl rfl ?_
    refine mj_getI dX7_readNumber_11 fl_X7_48_6 hk_a0 rfl ?_
    exact mj_reti dX7_readNumber_14 rfl ⟨Nat.le_of_ble_eq_true rfl, Nat.le_of_ble_eq_true rfl⟩ h
set_option maxRecDepth 20000 in
set_option maxHeartbeats 1000000 in
theorem b_X7_readNumber_19 {l : Launch} {G : mj_G} {a0 : Nat} {x1 : Int32} {x2 : Int32} {x3 : Int32} {S : mj_S} {Q : mj_S → Int32 → Prop} (hk_a0 : m_kd S a0 = 6) (h : (((m_gi S a0 1) ≤ (m_gi S a0 2)) → V_X7_readNumber_89 l G a0 x1 x2 S Q) ∧ ((¬ ((m_gi S a0 1) ≤ (m_gi S a0 2))) → ∃ b1, m_gp S a0 0 = some b1 ∧ (vp_in (m_gi S a0 2) (m_ln S b1) ∧ (M_X5_isDigit l G (m_gi S b1 ((m_gi S a0 2)).toNatClampNeg) S (fun S2 r3 => ((r3 = 0) → V_X7_readNumber_89 l G a0 x1 x2 S2 Q) ∧ ((¬ (r3 = 0)) → ((¬ x3 = (2 : Int32)) → ∃ b4, m_gp S2 a0 0 = some b4 ∧ (vp_in (m_gi S2 a0 2) (m_ln S2 b4) ∧ (∀ v5 : Int32, v5 = (((x2 * (10 : Int32)) + (m_gi S2 b4 ((m_gi S2 a0 2)).toNatClampNeg)) - (48 : Int32)) → ∀ S6 : mj_S, S6 = m_si S2 a0 2 ((m_gi S2 a0 2) + (1 : Int32)) → ∀ v7 : Int32, v7 = x3 + (1 : Int32) → V_X7_readNumber_19 l G a0 x1 v5 v7 S6 Q))) ∧ ((x3 = (2 : Int32)) → Q S2 (m_gi S2 a0 2)))))))) : V_X7_readNumber_19 l G a0 x1 x2 x3 S Q := by
  refine mj_aload_n dX7_readNumber_19 rfl rfl ?_
  refine mj_getI dX7_readNumber_20 fl_X7_48_6 hk_a0 rfl ?_
  refine mj_aload_n dX7_readNumber_23 rfl rfl ?_
  refine mj_getI dX7_readNumber_24 fl_X7_44_6 hk_a0 rfl ?_
  refine mj_icmp_ge (tgt := 89) dX7_readNumber_27 (by decide) ⟨fun hc => ?_, fun hc => ?_⟩
  · replace h := h.1 hc
    exact mj_lessm [true, true, true, false] rfl h
  · replace h := h.2 hc
    refine mj_aload_n dX7_readNumber_30 rfl rfl ?_
    obtain ⟨b1, eb1, h⟩ := h
    refine mj_getP dX7_readNumber_31 fl_X7_103_6 hk_a0 rfl ⟨b1, eb1, fun hk_b1 => ?_⟩
    refine mj_aload_n dX7_readNumber_34 rfl rfl ?_
    refine mj_getI dX7_readNumber_35 fl_X7_48_6 hk_a0 rfl ?_
    refine mj_iald dX7_readNumber_38 (Or.inl hk_b1) ⟨h.1, ?_⟩
    replace h := h.2
    refine mj_callSUi (as := [.int (m_gi S b1 ((m_gi S a0 2)).toNatClampNeg)]) (st := []) dX7_readNumber_39 cal_X5_isDigit lu_X7_100 sm_X5_isDigit sa_X7_100 rfl h rfl (Nat.le_of_ble_eq_true rfl) (by decide) ⟨Nat.le_of_ble_eq_true rfl, Nat.le_of_ble_eq_true rfl⟩ (fun S2 r3 h hn_r3 hp => ?_)
    have hk_a0 : m_kd S2 a0 = 6 := m_kd_pre hp hk_a0 (by decide)
    have hk_b1 : m_kd S2 b1 = 100 := m_kd_pre hp hk_b1 (by decide)
    refine mj_if_eq (tgt := 89) dX7_readNumber_42 (by decide) ⟨fun hc => ?_, fun hc => ?_⟩
    · replace h := h.1 hc
      exact mj_lessm [true, true, true, false] rfl h
    · replace h := h.2 hc
      refine mj_iload_n dX7_readNumber_45 rfl rfl ?_
      refine mj_iconst (v := 2) dX7_readNumber_46 (by decide) ?_
      refine mj_icmp_ne (tgt := 55) dX7_readNumber_47 (by decide) ⟨fun hc => ?_, fun hc => ?_⟩
      · replace h := h.1 hc
        refine mj_iload_n dX7_readNumber_55 rfl rfl ?_
        refine mj_bipush (v := 10) dX7_readNumber_56 (by decide) ?_
        refine mj_imul dX7_readNumber_58 ?_
        refine mj_aload_n dX7_readNumber_59 rfl rfl ?_
        obtain ⟨b4, eb4, h⟩ := h
        refine mj_getP dX7_readNumber_60 fl_X7_103_6 hk_a0 rfl ⟨b4, eb4, fun hk_b4 => ?_⟩
        refine mj_aload_n dX7_readNumber_63 rfl rfl ?_
        refine mj_getI dX7_readNumber_64 fl_X7_48_6 hk_a0 rfl ?_
        refine mj_iald dX7_readNumber_67 (Or.inl hk_b4) ⟨h.1, ?_⟩
        replace h := h.2
        refine mj_iadd dX7_readNumber_68 ?_
        refine mj_bipush (v := 48) dX7_readNumber_69 (by decide) ?_
        refine mj_isub dX7_readNumber_71 ?_
        refine mj_nmi (fun v5 ev5 => ?_)
        replace h := h v5 ev5
        refine mj_istore_n dX7_readNumber_72 rfl (by decide) rfl rfl ?_
        refine mj_aload_n dX7_readNumber_73 rfl rfl ?_
        refine mj_dup dX7_readNumber_74 rfl ?_
        refine mj_getI dX7_readNumber_75 fl_X7_48_6 hk_a0 rfl ?_
        refine mj_iconst (v := 1) dX7_readNumber_78 (by decide) ?_
        refine mj_iadd dX7_readNumber_79 ?_
        refine mj_putI dX7_readNumber_80 fl_X7_48_6 hk_a0 (Or.inl rfl) rfl rfl rfl ?_
        obtain ⟨S6, eS6⟩ : ∃ z, z = m_si S2 a0 2 ((m_gi S2 a0 2) + (1 : Int32)) := ⟨_, rfl⟩
        rw [← eS6]
        replace h := h S6 eS6
        have hk_a0 : m_kd S6 a0 = 6 := by rw [eS6]; exact hk_a0
        have hk_b1 : m_kd S6 b1 = 100 := by rw [eS6]; exact hk_b1
        have hk_b4 : m_kd S6 b4 = 100 := by rw [eS6]; exact hk_b4
        obtain ⟨v7, ev7⟩ : ∃ z : Int32, z = x3 + (1 : Int32) := ⟨_, rfl⟩
        refine mj_iinc (v := v7) dX7_readNumber_83 rfl (by rw [ev7]; rfl) (by decide) rfl rfl ?_
        replace h := h v7 ev7
        refine mj_goto (tgt := 19) dX7_readNumber_86 (by decide) ?_
        exact h
      · replace h := h.2 hc
        refine mj_aload_n dX7_readNumber_50 rfl rfl ?_
        refine mj_getI dX7_readNumber_51 fl_X7_48_6 hk_a0 rfl ?_
        exact mj_reti dX7_readNumber_54 rfl ⟨Nat.le_of_ble_eq_true rfl, Nat.le_of_ble_eq_true rfl⟩ h
set_option maxRecDepth 20000 in
set_option maxHeartbeats 1000000 in
theorem b_X7_readNumber_89 {l : Launch} {G : mj_G} {a0 : Nat} {x1 : Int32} {x2 : Int32} {S : mj_S} {Q : mj_S → Int32 → Prop} (hk_a0 : m_kd S a0 = 6) (h : vp_in x1 (m_ln S 1) ∧ (vp_in x1 (m_ln S 2) ∧ (M_X10_within l G x2 (m_gi S 1 (x1).toNatClampNeg) (m_gi S 2 (x1).toNatClampNeg) S (fun S1 r2 => ((¬ r2 = 0) → ∃ b3, m_gp S1 a0 5 = some b3 ∧ (vp_in x1 (m_ln S1 b3) ∧ (∀ S4 : mj_S, S4 = m_si S1 b3 (x1).toNatClampNeg x2 → Q S4 (-1 : Int32)))) ∧ ((r2 = 0) → Q S1 ((m_gi S1 a0 2) - (1 : Int32))))))) : V_X7_readNumber_89 l G a0 x1 x2 S Q := by
  refine mj_iload_n dX7_readNumber_89 rfl rfl ?_
  refine mj_gets (i := 1) (t := 110) dX7_readNumber_90 (by decide) rfl gs_X7_106 (fun _ => rfl) (fun hk_t1 _ => ?_)
  refine mj_iload_n dX7_readNumber_93 rfl rfl ?_
  refine mj_iald dX7_readNumber_94 (Or.inr hk_t1) ⟨h.1, ?_⟩
  replace h := h.2
  refine mj_gets (i := 2) (t := 110) dX7_readNumber_95 (by decide) rfl gs_X7_109 (fun _ => rfl) (fun hk_t2 _ => ?_)
  refine mj_iload_n dX7_readNumber_98 rfl rfl ?_
  refine mj_iald dX7_readNumber_99 (Or.inr hk_t2) ⟨h.1, ?_⟩
  replace h := h.2
  refine mj_callNi (as := [.int x2, .int (m_gi S 1 (x1).toNatClampNeg), .int (m_gi S 2 (x1).toNatClampNeg)]) (st := []) dX7_readNumber_100 cal_X10_within ln_X7_112 sm_X10_within h rfl (Nat.le_of_ble_eq_true rfl) (by decide) ⟨Nat.le_of_ble_eq_true rfl, Nat.le_of_ble_eq_true rfl⟩ (fun S1 r2 h hn_r2 hp => ?_)
  have hk_a0 : m_kd S1 a0 = 6 := m_kd_pre hp hk_a0 (by decide)
  have hk_t1 : m_kd S1 1 = 110 := m_kd_pre hp hk_t1 (by decide)
  have hk_t2 : m_kd S1 2 = 110 := m_kd_pre hp hk_t2 (by decide)
  refine mj_if_ne (tgt := 113) dX7_readNumber_103 (by decide) ⟨fun hc => ?_, fun hc => ?_⟩
  · replace h := h.1 hc
    refine mj_aload_n dX7_readNumber_113 rfl rfl ?_
    obtain ⟨b3, eb3, h⟩ := h
    refine mj_getP dX7_readNumber_114 fl_X7_22_6 hk_a0 rfl ⟨b3, eb3, fun hk_b3 => ?_⟩
    refine mj_iload_n dX7_readNumber_117 rfl rfl ?_
    refine mj_iload_n dX7_readNumber_118 rfl rfl ?_
    refine mj_iast dX7_readNumber_119 hk_b3 ⟨h.1, ?_⟩
    replace h := h.2
    obtain ⟨S4, eS4⟩ : ∃ z, z = m_si S1 b3 (x1).toNatClampNeg x2 := ⟨_, rfl⟩
    rw [← eS4]
    replace h := h S4 eS4
    have hk_a0 : m_kd S4 a0 = 6 := by rw [eS4]; exact hk_a0
    have hk_t1 : m_kd S4 1 = 110 := by rw [eS4]; exact hk_t1
    have hk_t2 : m_kd S4 2 = 110 := by rw [eS4]; exact hk_t2
    have hk_b3 : m_kd S4 b3 = 100 := by rw [eS4]; exact hk_b3
    refine mj_iconst (v := (-1)) dX7_readNumber_120 (by decide) ?_
    exact mj_reti dX7_readNumber_121 rfl ⟨Nat.le_of_ble_eq_true rfl, Nat.le_of_ble_eq_true rfl⟩ h
  · replace h := h.2 hc
    refine mj_aload_n dX7_readNumber_106 rfl rfl ?_
    refine mj_getI dX7_readNumber_107 fl_X7_48_6 hk_a0 rfl ?_
    refine mj_iconst (v := 1) dX7_readNumber_110 (by decide) ?_
    refine mj_isub dX7_readNumber_111 ?_
    exact mj_reti dX7_readNumber_112 rfl ⟨Nat.le_of_ble_eq_true rfl, Nat.le_of_ble_eq_true rfl⟩ h
