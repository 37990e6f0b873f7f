abbrev V_X5_init_0 (l : Launch) (G : mj_G) (a0 : Nat) (S : mj_S) (Q : mj_S → Prop) : Prop := mj_V l G (mj_room 1 1 0) RX5 cX5_init 1 none true 0 [some (.ref a0)] [] S 0 0 (mj_std G none (mj_room 1 1 0) (mj_qv Q))
theorem e_X5_init {l : Launch} {G : mj_G} {a0 : Nat} {S : mj_S} {Q : mj_S → Prop} (h : V_X5_init_0 l G a0 S Q) : M_X5_init l G a0 S Q := mj_enter (r := 0) (ini := true) (by decide +kernel) (fun _ => rfl) (fun _ => Nat.le_of_ble_eq_true rfl) rfl h
set_option maxRecDepth 20000 in
set_option maxHeartbeats 1000000 in
theorem b_X5_init_0_c1 {l : Launch} {G : mj_G} {a0 : Nat} {S : mj_S} {Q : mj_S → Prop} (hk_a0 : m_kd S a0 = 1) (h : ∀ q1 : Nat, q1 = S.1.length → ∀ S2 : mj_S, S2 = m_nw S 100 0 → ∀ S3 : mj_S, S3 = m_sp S2 a0 0 (some q1) → ∀ S4 : mj_S, S4 = m_si S3 a0 1 (0 : Int32) → ∀ S5 : mj_S, S5 = m_si S4 a0 2 (0 : Int32) → Q S5) : V_X5_init_0 l G a0 S Q := by
  refine mj_aload_n dX5_init_0 rfl rfl ?_
  refine mj_objInit (st := []) dX5_init_1 oi_X5_3 oi_im oi_co (by decide) (Nat.le_of_ble_eq_true rfl) ?_
  refine mj_aload_n dX5_init_4 rfl rfl ?_
  refine mj_iconst (v := 0) dX5_init_5 (by decide) ?_
  refine mj_newI (N := 0) dX5_init_6 ar_int (by decide) (by decide) (by decide) (Nat.le_of_ble_eq_true rfl) (Nat.le_of_ble_eq_true rfl) ?_
  obtain ⟨q1, eq1⟩ : ∃ z, z = S.1.length := ⟨_, rfl⟩
  rw [← eq1]
  obtain ⟨S2, eS2⟩ : ∃ z, z = m_nw S 100 0 := ⟨_, rfl⟩
  rw [← eS2]
  replace h := h q1 eq1 S2 eS2
  have hp : S.1 <+: S2.1 := by rw [eS2]; exact List.prefix_append _ _
  have hk_q1 : m_kd S2 q1 = 100 := by rw [eS2, eq1]; exact m_kd_nwl
  have hk_a0 : m_kd S2 a0 = 1 := m_kd_pre hp hk_a0 (by decide)
  refine mj_putP dX5_init_8 fl_X5_9_1 hk_a0 (Or.inl rfl) rfl hk_q1 (fun _ => rfl) (fun _ => rfl) ?_
  obtain ⟨S3, eS3⟩ : ∃ z, z = m_sp S2 a0 0 (some q1) := ⟨_, rfl⟩
  rw [← eS3]
  replace h := h S3 eS3
  have hk_a0 : m_kd S3 a0 = 1 := by rw [eS3]; exact hk_a0
  have hk_q1 : m_kd S3 q1 = 100 := by rw [eS3]; exact hk_q1
  refine mj_aload_n dX5_init_11 rfl rfl ?_
  refine mj_iconst (v := 0) dX5_init_12 (by decide) ?_
  refine mj_putI dX5_init_13 fl_X5_15_1 hk_a0 (Or.inl rfl) rfl rfl rfl ?_
  obtain ⟨S4, eS4⟩ : ∃ z, z = m_si S3 a0 1 (0 : Int32) := ⟨_, rfl⟩
  rw [← eS4]
  replace h := h S4 eS4
  have hk_a0 : m_kd S4 a0 = 1 := by rw [eS4]; exact hk_a0
  have hk_q1 : m_kd S4 q1 = 100 := by rw [eS4]; exact hk_q1
  refine mj_aload_n dX5_init_16 rfl rfl ?_
  refine mj_iconst (v := 0) dX5_init_17 (by decide) ?_
  refine mj_putI dX5_init_18 fl_X5_19_1 hk_a0 (Or.inl rfl) rfl rfl rfl ?_
  obtain ⟨S5, eS5⟩ : ∃ z, z = m_si S4 a0 2 (0 : Int32) := ⟨_, rfl⟩
  rw [← eS5]
  replace h := h S5 eS5
  have hk_a0 : m_kd S5 a0 = 1 := by rw [eS5]; exact hk_a0
  have hk_q1 : m_kd S5 q1 = 100 := by rw [eS5]; exact hk_q1
  exact mj_retv dX5_init_21 rfl ⟨Nat.le_of_ble_eq_true rfl, Nat.le_of_ble_eq_true rfl⟩ h
set_option maxRecDepth 20000 in
set_option maxHeartbeats 1000000 in
theorem b_X5_init_0_c6 {l : Launch} {G : mj_G} {a0 : Nat} {S : mj_S} {Q : mj_S → Prop} (hk_a0 : m_kd S a0 = 6) (h : ∀ q1 : Nat, q1 = S.1.length → ∀ S2 : mj_S, S2 = m_nw S 100 0 → ∀ S3 : mj_S, S3 = m_sp S2 a0 0 (some q1) → ∀ S4 : mj_S, S4 = m_si S3 a0 1 (0 : Int32) → ∀ S5 : mj_S, S5 = m_si S4 a0 2 (0 : Int32) → Q S5) : V_X5_init_0 l G a0 S Q := by
  refine mj_aload_n dX5_init_0 rfl rfl ?_
  refine mj_objInit (st := []) dX5_init_1 oi_X5_3 oi_im oi_co (by decide) (Nat.le_of_ble_eq_true rfl) ?_
  refine mj_aload_n dX5_init_4 rfl rfl ?_
  refine mj_iconst (v := 0) dX5_init_5 (by decide) ?_
  refine mj_newI (N := 0) dX5_init_6 ar_int (by decide) (by decide) (by decide) (Nat.le_of_ble_eq_true rfl) (Nat.le_of_ble_eq_true rfl) ?_
  obtain ⟨q1, eq1⟩ : ∃ z, z = S.1.length := ⟨_, rfl⟩
  rw [← eq1]
  obtain ⟨S2, eS2⟩ : ∃ z, z = m_nw S 100 0 := ⟨_, rfl⟩
  rw [← eS2]
  replace h := h q1 eq1 S2 eS2
  have hp : S.1 <+: S2.1 := by rw [eS2]; exact List.prefix_append _ _
  have hk_q1 : m_kd S2 q1 = 100 := by rw [eS2, eq1]; exact m_kd_nwl
  have hk_a0 : m_kd S2 a0 = 6 := m_kd_pre hp hk_a0 (by decide)
  refine mj_putP dX5_init_8 fl_X5_9_6 hk_a0 (Or.inl rfl) rfl hk_q1 (fun _ => rfl) (fun _ => rfl) ?_
  obtain ⟨S3, eS3⟩ : ∃ z, z = m_sp S2 a0 0 (some q1) := ⟨_, rfl⟩
  rw [← eS3]
  replace h := h S3 eS3
  have hk_a0 : m_kd S3 a0 = 6 := by rw [eS3]; exact hk_a0
  have hk_q1 : m_kd S3 q1 = 100 := by rw [eS3]; exact hk_q1
  refine mj_aload_n dX5_init_11 rfl rfl ?_
  refine mj_iconst (v := 0) dX5_init_12 (by decide) ?_
  refine mj_putI dX5_init_13 fl_X5_15_6 hk_a0 (Or.inl rfl) rfl rfl rfl ?_
  obtain ⟨S4, eS4⟩ : ∃ z, z = m_si S3 a0 1 (0 : Int32) := ⟨_, rfl⟩
  rw [← eS4]
  replace h := h S4 eS4
  have hk_a0 : m_kd S4 a0 = 6 := by rw [eS4]; exact hk_a0
  have hk_q1 : m_kd S4 q1 = 100 := by rw [eS4]; exact hk_q1
  refine mj_aload_n dX5_init_16 rfl rfl ?_
  refine mj_iconst (v := 0) dX5_init_17 (by decide) ?_
  refine mj_putI dX5_init_18 fl_X5_19_6 hk_a0 (Or.inl rfl) rfl rfl rfl ?_
  obtain ⟨S5, eS5⟩ : ∃ z, z = m_si S4 a0 2 (0 : Int32) := ⟨_, rfl⟩
  rw [← eS5]
  replace h := h S5 eS5
  have hk_a0 : m_kd S5 a0 = 6 := by rw [eS5]; exact hk_a0
  have hk_q1 : m_kd S5 q1 = 100 := by rw [eS5]; exact hk_q1
  exact mj_retv dX5_init_21 rfl ⟨Nat.le_of_ble_eq_true rfl, Nat.le_of_ble_eq_true rfl⟩ h
abbrev V_X5_begin_0 (l : Launch) (G : mj_G) (a0 : Nat) (a1 : Nat) (x2 : Int32) (S : mj_S) (Q : mj_S → Prop) : Prop := mj_V l G (mj_room 2 0 0) RX5 cX5_begin 3 none false 0 [some (.ref a0), some (.ref a1), some (.int x2)] [] S 0 0 (mj_std G none (mj_room 2 0 0) (mj_qv Q))
theorem e_X5_begin {l : Launch} {G : mj_G} {a0 : Nat} {a1 : Nat} {x2 : Int32} {S : mj_S} {Q : mj_S → Prop} (h : V_X5_begin_0 l G a0 a1 x2 S Q) : M_X5_begin l G a0 a1 x2 S Q := mj_enter (r := 0) (ini := false) (by decide +kernel) (fun h => by cases h) (fun _ => Nat.le_of_ble_eq_true rfl) rfl h
set_option maxRecDepth 20000 in
set_option maxHeartbeats 1000000 in
theorem b_X5_begin_0_c1 {l : Launch} {G : mj_G} {a0 : Nat} {a1 : Nat} {x2 : Int32} {S : mj_S} {Q : mj_S → Prop} (hk_a0 : m_kd S a0 = 1) (hk_a1 : m_kd S a1 = 100) (h : ∀ S1 : mj_S, S1 = m_sp S a0 0 (some a1) → M_J9_min_7cf53 l G x2 (Int32.ofNat (m_ln S1 a1)) S1 (fun S2 r3 => ∀ S4 : mj_S, S4 = m_si S2 a0 1 r3 → ∀ S5 : mj_S, S5 = m_si S4 a0 2 (0 : Int32) → Q S5)) : V_X5_begin_0 l G a0 a1 x2 S Q := by
  refine mj_aload_n dX5_begin_0 rfl rfl ?_
  refine mj_aload_n dX5_begin_1 rfl rfl ?_
  refine mj_putP dX5_begin_2 fl_X5_9_1 hk_a0 (Or.inl rfl) rfl hk_a1 (fun _ => rfl) (fun _ => rfl) ?_
  obtain ⟨S1, eS1⟩ : ∃ z, z = m_sp S a0 0 (some a1) := ⟨_, rfl⟩
  rw [← eS1]
  replace h := h S1 eS1
  have hk_a0 : m_kd S1 a0 = 1 := by rw [eS1]; exact hk_a0
  have hk_a1 : m_kd S1 a1 = 100 := by rw [eS1]; exact hk_a1
  refine mj_aload_n dX5_begin_5 rfl rfl ?_
  refine mj_iload_n dX5_begin_6 rfl rfl ?_
  refine mj_aload_n dX5_begin_7 rfl rfl ?_
  refine mj_alen dX5_begin_8 (Or.inl hk_a1) ?_
  refine mj_callSi (as := [.int x2, .int (Int32.ofNat (m_ln S1 a1))]) (st := [.ref a0]) dX5_begin_9 cal_J9_min_7cf53 lk_X5_22 sm_J9_min_7cf53 h rfl (Nat.le_of_ble_eq_true rfl) (by decide) ⟨Nat.le_of_ble_eq_true rfl, Nat.le_of_ble_eq_true rfl⟩ (fun S2 r3 h hn_r3 hp => ?_)
  have hk_a0 : m_kd S2 a0 = 1 := m_kd_pre hp hk_a0 (by decide)
  have hk_a1 : m_kd S2 a1 = 100 := m_kd_pre hp hk_a1 (by decide)
  refine mj_putI dX5_begin_12 fl_X5_15_1 hk_a0 (Or.inl rfl) rfl rfl rfl ?_
  obtain ⟨S4, eS4⟩ : ∃ z, z = m_si S2 a0 1 r3 := ⟨_, rfl⟩
  rw [← eS4]
  replace h := h S4 eS4
  have hk_a0 : m_kd S4 a0 = 1 := by rw [eS4]; exact hk_a0
  have hk_a1 : m_kd S4 a1 = 100 := by rw [eS4]; exact hk_a1
  refine mj_aload_n dX5_begin_15 rfl rfl ?_
  refine mj_iconst (v := 0) dX5_begin_16 (by decide) ?_
  refine mj_putI dX5_begin_17 fl_X5_19_1 hk_a0 (Or.inl rfl) rfl rfl rfl ?_
  obtain ⟨S5, eS5⟩ : ∃ z, z = m_si S4 a0 2 (0 : Int32) := ⟨_, rfl⟩
  rw [← eS5]
  replace h := h S5 eS5
  have hk_a0 : m_kd S5 a0 = 1 := by rw [eS5]; exact hk_a0
  have hk_a1 : m_kd S5 a1 = 100 := by rw [eS5]; exact hk_a1
  exact mj_retv dX5_begin_20 rfl ⟨Nat.le_of_ble_eq_true rfl, Nat.le_of_ble_eq_true rfl⟩ h
set_option maxRecDepth 20000 in
set_option maxHeartbeats 1000000 in
theorem b_X5_begin_0_c6 {l : Launch} {G : mj_G} {a0 : Nat} {a1 : Nat} {x2 : Int32} {S : mj_S} {Q : mj_S → Prop} (hk_a0 : m_kd S a0 = 6) (hk_a1 : m_kd S a1 = 100) (h : ∀ S1 : mj_S, S1 = m_sp S a0 0 (some a1) → M_J9_min_7cf53 l G x2 (Int32.ofNat (m_ln S1 a1)) S1 (fun S2 r3 => ∀ S4 : mj_S, S4 = m_si S2 a0 1 r3 → ∀ S5 : mj_S, S5 = m_si S4 a0 2 (0 : Int32) → Q S5)) : V_X5_begin_0 l G a0 a1 x2 S Q := by
  refine mj_aload_n dX5_begin_0 rfl rfl ?_
  refine mj_aload_n dX5_begin_1 rfl rfl ?_
  refine mj_putP dX5_begin_2 fl_X5_9_6 hk_a0 (Or.inl rfl) rfl hk_a1 (fun _ => rfl) (fun _ => rfl) ?_
  obtain ⟨S1, eS1⟩ : ∃ z, z = m_sp S a0 0 (some a1) := ⟨_, rfl⟩
  rw [← eS1]
  replace h := h S1 eS1
  have hk_a0 : m_kd S1 a0 = 6 := by rw [eS1]; exact hk_a0
  have hk_a1 : m_kd S1 a1 = 100 := by rw [eS1]; exact hk_a1
  refine mj_aload_n dX5_begin_5 rfl rfl ?_
  refine mj_iload_n dX5_begin_6 rfl rfl ?_
  refine mj_aload_n dX5_begin_7 rfl rfl ?_
  refine mj_alen dX5_begin_8 (Or.inl hk_a1) ?_
  refine mj_callSi (as := [.int x2, .int (Int32.ofNat (m_ln S1 a1))]) (st := [.ref a0]) dX5_begin_9 cal_J9_min_7cf53 lk_X5_22 sm_J9_min_7cf53 h rfl (Nat.le_of_ble_eq_true rfl) (by decide) ⟨Nat.le_of_ble_eq_true rfl, Nat.le_of_ble_eq_true rfl⟩ (fun S2 r3 h hn_r3 hp => ?_)
  have hk_a0 : m_kd S2 a0 = 6 := m_kd_pre hp hk_a0 (by decide)
  have hk_a1 : m_kd S2 a1 = 100 := m_kd_pre hp hk_a1 (by decide)
  refine mj_putI dX5_begin_12 fl_X5_15_6 hk_a0 (Or.inl rfl) rfl rfl rfl ?_
  obtain ⟨S4, eS4⟩ : ∃ z, z = m_si S2 a0 1 r3 := ⟨_, rfl⟩
  rw [← eS4]
  replace h := h S4 eS4
  have hk_a0 : m_kd S4 a0 = 6 := by rw [eS4]; exact hk_a0
  have hk_a1 : m_kd S4 a1 = 100 := by rw [eS4]; exact hk_a1
  refine mj_aload_n dX5_begin_15 rfl rfl ?_
  refine mj_iconst (v := 0) dX5_begin_16 (by decide) ?_
  refine mj_putI dX5_begin_17 fl_X5_19_6 hk_a0 (Or.inl rfl) rfl rfl rfl ?_
  obtain ⟨S5, eS5⟩ : ∃ z, z = m_si S4 a0 2 (0 : Int32) := ⟨_, rfl⟩
  rw [← eS5]
  replace h := h S5 eS5
  have hk_a0 : m_kd S5 a0 = 6 := by rw [eS5]; exact hk_a0
  have hk_a1 : m_kd S5 a1 = 100 := by rw [eS5]; exact hk_a1
  exact mj_retv dX5_begin_20 rfl ⟨Nat.le_of_ble_eq_true rfl, Nat.le_of_ble_eq_true rfl⟩ h
abbrev V_X5_peek_0 (l : Launch) (G : mj_G) (a0 : Nat) (S : mj_S) (Q : mj_S → Int32 → Prop) : Prop := mj_V l G (mj_room 1 0 0) RX5 cX5_peek 1 (some .int) false 0 [some (.ref a0)] [] S 0 0 (mj_std G (some .int) (mj_room 1 0 0) (mj_qi Q))
abbrev V_X5_peek_38 (l : Launch) (G : mj_G) (a0 : Nat) (S : mj_S) (Q : mj_S → Int32 → Prop) : Prop := mj_V l G (mj_room 1 0 0) RX5 cX5_peek 1 (some .int) false 38 [some (.ref a0)] [] S 0 0 (mj_std G (some .int) (mj_room 1 0 0) (mj_qi Q))
theorem e_X5_peek {l : Launch} {G : mj_G} {a0 : Nat} {S : mj_S} {Q : mj_S → Int32 → Prop} (h : V_X5_peek_0 l G a0 S Q) : M_X5_peek l G a0 S Q := mj_enter (r := 0) (ini := false) (by decide +kernel) (fun h => by cases h) (fun _ => Nat.le_of_ble_eq_true rfl) rfl h
set_option maxRecDepth 20000 in
set_option maxHeartbeats 1000000 in
theorem b_X5_peek_0_c1 {l : Launch} {G : mj_G} {a0 : Nat} {S : mj_S} {Q : mj_S → Int32 → Prop} (hk_a0 : m_kd S a0 = 1) (h : (((m_gi S a0 1) ≤ (m_gi S a0 2)) → V_X5_peek_38 l G a0 S Q) ∧ ((¬ ((m_gi S a0 1) ≤ (m_gi S a0 2))) → ∃ b1, m_gp S a0 0 = some b1 ∧ (vp_in (m_gi S a0 2) (m_ln S b1) ∧ (((¬ (m_gi S b1 ((m_gi S a0 2)).toNatClampNeg) = (32 : Int32)) → V_X5_peek_38 l G a0 S Q) ∧ (((m_gi S b1 ((m_gi S a0 2)).toNatClampNeg) = (32 : Int32)) → ∀ S2 : mj_S, S2 = m_si S a0 2 ((m_gi S a0 2) + (1 : Int32)) → V_X5_peek_0 l G a0 S2 Q))))) : V_X5_peek_0 l G a0 S Q := by
  refine mj_aload_n dX5_peek_0 rfl rfl ?_
  refine mj_getI dX5_peek_1 fl_X5_19_1 hk_a0 rfl ?_
  refine mj_aload_n dX5_peek_4 rfl rfl ?_
  refine mj_getI dX5_peek_5 fl_X5_15_1 hk_a0 rfl ?_
  refine mj_icmp_ge (tgt := 38) dX5_peek_8 (by decide) ⟨fun hc => ?_, fun hc => ?_⟩
  · replace h := h.1 hc
    exact h
  · replace h := h.2 hc
    refine mj_aload_n dX5_peek_11 rfl rfl ?_
    obtain ⟨b1, eb1, h⟩ := h
    refine mj_getP dX5_peek_12 fl_X5_9_1 hk_a0 rfl ⟨b1, eb1, fun hk_b1 => ?_⟩
    refine mj_aload_n dX5_peek_15 rfl rfl ?_
    refine mj_getI dX5_peek_16 fl_X5_19_1 hk_a0 rfl ?_
    refine mj_iald dX5_peek_19 (Or.inl hk_b1) ⟨h.1, ?_⟩
    replace h := h.2
    refine mj_bipush (v := 32) dX5_peek_20 (by decide) ?_
    refine mj_icmp_ne (tgt := 38) dX5_peek_22 (by decide) ⟨fun hc => ?_, fun hc => ?_⟩
    · replace h := h.1 hc
      exact h
    · replace h := h.2 hc
      refine mj_aload_n dX5_peek_25 rfl rfl ?_
      refine mj_dup dX5_peek_26 rfl ?_
      refine mj_getI dX5_peek_27 fl_X5_19_1 hk_a0 rfl ?_
      refine mj_iconst (v := 1) dX5_peek_30 (by decide) ?_
      refine mj_iadd dX5_peek_31 ?_
      refine mj_putI dX5_peek_32 fl_X5_19_1 hk_a0 (Or.inl rfl) rfl rfl rfl ?_
      obtain ⟨S2, eS2⟩ : ∃ z, z = m_si S a0 2 ((m_gi S a0 2) + (1 : Int32)) := ⟨_, rfl⟩
      rw [← eS2]
      replace h := h S2 eS2
      have hk_a0 : m_kd S2 a0 = 1 := by rw [eS2]; exact hk_a0
      have hk_b1 : m_kd S2 b1 = 100 := by rw [eS2]; exact hk_b1
      refine mj_goto (tgt := 0) dX5_peek_35 (by decide) ?_
      exact h
set_option maxRecDepth 20000 in
set_option maxHeartbeats 1000000 in
theorem b_X5_peek_38_c1 {l : Launch} {G : mj_G} {a0 : Nat} {S : mj_S} {Q : mj_S → Int32 → Prop} (hk_a0 : m_kd S a0 = 1) (h : (((m_gi S a0 1) ≤ (m_gi S a0 2)) → Q S (-1 : Int32)) ∧ ((¬ ((m_gi S a0 1) ≤ (m_gi S a0 2))) → ∃ b1, m_gp S a0 0 = some b1 ∧ (vp_in (m_gi S a0 2) (m_ln S b1) ∧ (Q S (m_gi S b1 ((m_gi S a0 2)).toNatClampNeg))))) : V_X5_peek_38 l G a0 S Q := by
  refine mj_aload_n dX5_peek_38 rfl rfl ?_
  refine mj_getI dX5_peek_39 fl_X5_19_1 hk_a0 rfl ?_
  refine mj_aload_n dX5_peek_42 rfl rfl ?_
  refine mj_getI dX5_peek_43 fl_X5_15_1 hk_a0 rfl ?_
  refine mj_icmp_ge (tgt := 61) dX5_peek_46 (by decide) ⟨fun hc => ?_, fun hc => ?_⟩
  · replace h := h.1 hc
    refine mj_iconst (v := (-1)) dX5_peek_61 (by decide) ?_
    exact mj_reti dX5_peek_62 rfl ⟨Nat.le_of_ble_eq_true rfl, Nat.le_of_ble_eq_true rfl⟩ h
  · replace h := h.2 hc
    refine mj_aload_n dX5_peek_49 rfl rfl ?_
    obtain ⟨b1, eb1, h⟩ := h
    refine mj_getP dX5_peek_50 fl_X5_9_1 hk_a0 rfl ⟨b1, eb1, fun hk_b1 => ?_⟩
    refine mj_aload_n dX5_peek_53 rfl rfl ?_
    refine mj_getI dX5_peek_54 fl_X5_19_1 hk_a0 rfl ?_
    refine mj_iald dX5_peek_57 (Or.inl hk_b1) ⟨h.1, ?_⟩
    replace h := h.2
    refine mj_goto (tgt := 62) dX5_peek_58 (by decide) ?_
    exact mj_reti dX5_peek_62 rfl ⟨Nat.le_of_ble_eq_true rfl, Nat.le_of_ble_eq_true rfl⟩ h
set_option maxRecDepth 20000 in
set_option maxHeartbeats 1000000 in
theorem b_X5_peek_0_c6 {l : Launch} {G : mj_G} {a0 : Nat} {S : mj_S} {Q : mj_S → Int32 → Prop} (hk_a0 : m_kd S a0 = 6) (h : (((m_gi S a0 1) ≤ (m_gi S a0 2)) → V_X5_peek_38 l G a0 S Q) ∧ ((¬ ((m_gi S a0 1) ≤ (m_gi S a0 2))) → ∃ b1, m_gp S a0 0 = some b1 ∧ (vp_in (m_gi S a0 2) (m_ln S b1) ∧ (((¬ (m_gi S b1 ((m_gi S a0 2)).toNatClampNeg) = (32 : Int32)) → V_X5_peek_38 l G a0 S Q) ∧ (((m_gi S b1 ((m_gi S a0 2)).toNatClampNeg) = (32 : Int32)) → ∀ S2 : mj_S, S2 = m_si S a0 2 ((m_gi S a0 2) + (1 : Int32)) → V_X5_peek_0 l G a0 S2 Q))))) : V_X5_peek_0 l G a0 S Q := by
  refine mj_aload_n dX5_peek_0 rfl rfl ?_
  refine mj_getI dX5_peek_1 fl_X5_19_6 hk_a0 rfl ?_
  refine mj_aload_n dX5_peek_4 rfl rfl ?_
  refine mj_getI dX5_peek_5 fl_X5_15_6 hk_a0 rfl ?_
  refine mj_icmp_ge (tgt := 38) dX5_peek_8 (by decide) ⟨fun hc => ?_, fun hc => ?_⟩
  · replace h := h.1 hc
    exact h
  · replace h := h.2 hc
    refine mj_aload_n dX5_peek_11 rfl rfl ?_
    obtain ⟨b1, eb1, h⟩ := h
    refine mj_getP dX5_peek_12 fl_X5_9_6 hk_a0 rfl ⟨b1, eb1, fun hk_b1 => ?_⟩
    refine mj_aload_n dX5_peek_15 rfl rfl ?_
    refine mj_getI dX5_peek_16 fl_X5_19_6 hk_a0 rfl ?_
    refine mj_iald dX5_peek_19 (Or.inl hk_b1) ⟨h.1, ?_⟩
    replace h := h.2
    refine mj_bipush (v := 32) dX5_peek_20 (by decide) ?_
    refine mj_icmp_ne (tgt := 38) dX5_peek_22 (by decide) ⟨fun hc => ?_, fun hc => ?_⟩
    · replace h := h.1 hc
      exact h
    · replace h := h.2 hc
      refine mj_aload_n dX5_peek_25 rfl rfl ?_
      refine mj_dup dX5_peek_26 rfl ?_
      refine mj_getI dX5_peek_27 fl_X5_19_6 hk_a0 rfl ?_
      refine mj_iconst (v := 1) dX5_peek_30 (by decide) ?_
      refine mj_iadd dX5_peek_31 ?_
      refine mj_putI dX5_peek_32 fl_X5_19_6 hk_a0 (Or.inl rfl) rfl rfl rfl ?_
      obtain ⟨S2, eS2⟩ : ∃ z, z = m_si S a0 2 ((m_gi S a0 2) + (1 : Int32)) := ⟨_, rfl⟩
      rw [← eS2]
      replace h := h S2 eS2
      have hk_a0 : m_kd S2 a0 = 6 := by rw [eS2]; exact hk_a0
      have hk_b1 : m_kd S2 b1 = 100 := by rw [eS2]; exact hk_b1
      refine mj_goto (tgt := 0) dX5_peek_35 (by decide) ?_
      exact h
set_option maxRecDepth 20000 in
set_option maxHeartbeats 1000000 in
theorem b_X5_peek_38_c6 {l : Launch} {G : mj_G} {a0 : Nat} {S : mj_S} {Q : mj_S → Int32 → Prop} (hk_a0 : m_kd S a0 = 6) (h : (((m_gi S a0 1) ≤ (m_gi S a0 2)) → Q S (-1 : Int32)) ∧ ((¬ ((m_gi S a0 1) ≤ (m_gi S a0 2))) → ∃ b1, m_gp S a0 0 = some b1 ∧ (vp_in (m_gi S a0 2) (m_ln S b1) ∧ (Q S (m_gi S b1 ((m_gi S a0 2)).toNatClampNeg))))) : V_X5_peek_38 l G a0 S Q := by
  refine mj_aload_n dX5_peek_38 rfl rfl ?_
  refine mj_getI dX5_peek_39 fl_X5_19_6 hk_a0 rfl ?_
  refine mj_aload_n dX5_peek_42 rfl rfl ?_
  refine mj_getI dX5_peek_43 fl_X5_15_6 hk_a0 rfl ?_
  refine mj_icmp_ge (tgt := 61) dX5_peek_46 (by decide) ⟨fun hc => ?_, fun hc => ?_⟩
  · replace h := h.1 hc
    refine mj_iconst (v := (-1)) dX5_peek_61 (by decide) ?_
    exact mj_reti dX5_peek_62 rfl ⟨Nat.le_of_ble_eq_true rfl, Nat.le_of_ble_eq_true rfl⟩ h
  · replace h := h.2 hc
    refine mj_aload_n dX5_peek_49 rfl rfl ?_
    obtain ⟨b1, eb1, h⟩ := h
    refine mj_getP dX5_peek_50 fl_X5_9_6 hk_a0 rfl ⟨b1, eb1, fun hk_b1 => ?_⟩
    refine mj_aload_n dX5_peek_53 rfl rfl ?_
    refine mj_getI dX5_peek_54 fl_X5_19_6 hk_a0 rfl ?_
    refine mj_iald dX5_peek_57 (Or.inl hk_b1) ⟨h.1, ?_⟩
    replace h := h.2
    refine mj_goto (tgt := 62) dX5_peek_58 (by decide) ?_
    exact mj_reti dX5_peek_62 rfl ⟨Nat.le_of_ble_eq_true rfl, Nat.le_of_ble_eq_true rfl⟩ h
abbrev V_X5_isDigit_0 (l : Launch) (G : mj_G) (x0 : Int32) (S : mj_S) (Q : mj_S → Int32 → Prop) : Prop := mj_V l G (mj_room 1 0 0) RX5 cX5_isDigit 1 (some .boolean) false 0 [some (.int x0)] [] S 0 0 (mj_std G (some .boolean) (mj_room 1 0 0) (mj_qi Q))
theorem e_X5_isDigit {l : Launch} {G : mj_G} {x0 : Int32} {S : mj_S} {Q : mj_S → Int32 → Prop} (h : V_X5_isDigit_0 l G x0 S Q) : M_X5_isDigit l G x0 S Q := mj_enter (r := 0) (ini := false) (by decide +kernel) (fun h => by cases h) (fun _ => Nat.le_of_ble_eq_true rfl) rfl h
set_option maxRecDepth 20000 in
set_option maxHeartbeats 1000000 in
theorem b_X5_isDigit_0 {l : Launch} {G : mj_G} {x0 : Int32} {S : mj_S} {Q : mj_S → Int32 → Prop} (h : ((x0 < (48 : Int32)) → Q S (0 : Int32)) ∧ ((¬ (x0 < (48 : Int32))) → (((57 : Int32) < x0) → Q S (0 : Int32)) ∧ ((¬ ((57 : Int32) < x0)) → Q S (1 : Int32)))) : V_X5_isDigit_0 l G x0 S Q := by
  refine mj_iload_n dX5_isDigit_0 rfl rfl ?_
  refine mj_bipush (v := 48) dX5_isDigit_1 (by decide) ?_
  refine mj_icmp_lt (tgt := 16) dX5_isDigit_3 (by decide) ⟨fun hc => ?_, fun hc => ?_⟩
  · replace h := h.1 hc
    refine mj_iconst (v := 0) dX5_isDigit_16 (by decide) ?_
    exact mj_retz dX5_isDigit_17 rfl (rfl) ⟨Nat.le_of_ble_eq_true rfl, Nat.le_of_ble_eq_true rfl⟩ h
  · replace h := h.2 hc
    refine mj_iload_n dX5_isDigit_6 rfl rfl ?_
    refine mj_bipush (v := 57) dX5_isDigit_7 (by decide) ?_
    refine mj_icmp_gt (tgt := 16) dX5_isDigit_9 (by decide) ⟨fun hc => ?_, fun hc => ?_⟩
    · replace h := h.1 hc
      refine mj_iconst (v := 0) dX5_isDigit_16 (by decide) ?_
      exact mj_retz dX5_isDigit_17 rfl (rfl) ⟨Nat.le_of_ble_eq_true rfl, Nat.le_of_ble_eq_true rfl⟩ h
    · replace h := h.2 hc
      refine mj_iconst (v := 1) dX5_isDigit_12 (by decide) ?_
      refine mj_goto (tgt := 17) dX5_isDigit_13 (by decide) ?_
      exact mj_retz dX5_isDigit_17 rfl (rfl) ⟨Nat.le_of_ble_eq_true rfl, Nat.le_of_ble_eq_true rfl⟩ h
