abbrev V_X1_init_0 (l : Launch) (G : mj_G) (a0 : Nat) (S : mj_S) (Q : mj_S → Prop) : Prop := mj_V l G (mj_room 2 2 240) RX1 cX1_init 1 none true 0 [some (.ref a0)] [] S 0 0 (mj_std G none (mj_room 2 2 240) (mj_qv Q))
theorem e_X1_init {l : Launch} {G : mj_G} {a0 : Nat} {S : mj_S} {Q : mj_S → Prop} (h : V_X1_init_0 l G a0 S Q) : M_X1_init l G a0 S Q := mj_enter (r := 0) (ini := true) (by decide +kernel) (fun _ => rfl) (fun _ => Nat.le_of_ble_eq_true rfl) rfl h
set_option maxRecDepth 20000 in
set_option maxHeartbeats 1000000 in
theorem b_X1_init_0 {l : Launch} {G : mj_G} {a0 : Nat} {S : mj_S} {Q : mj_S → Prop} (hk_a0 : m_kd S a0 = 1) (h : M_X5_init l G a0 S (fun S1 => ∀ q2 : Nat, q2 = S1.1.length → ∀ S3 : mj_S, S3 = m_nw S1 100 240 → ∀ S4 : mj_S, S4 = m_sp S3 a0 3 (some q2) → ∀ S5 : mj_S, S5 = m_si S4 a0 4 (0 : Int32) → Q S5)) : V_X1_init_0 l G a0 S Q := by
  refine mj_aload_n dX1_init_0 rfl rfl ?_
  refine mj_callIN (st := []) dX1_init_1 cal_X5_init ln_X1_3 im_X5_init rfl h (Nat.le_of_ble_eq_true rfl) (by decide) ⟨Nat.le_of_ble_eq_true rfl, Nat.le_of_ble_eq_true rfl⟩ (fun S1 h hp => ?_)
  have hk_a0 : m_kd S1 a0 = 1 := m_kd_pre hp hk_a0 (by decide)
  refine mj_aload_n dX1_init_4 rfl rfl ?_
  refine mj_sipush (v := 240) dX1_init_5 (by decide) ?_
  refine mj_newI (N := 240) dX1_init_8 ar_int (by decide) (by decide) (by decide) (Nat.le_of_ble_eq_true rfl) (Nat.le_of_ble_eq_true rfl) ?_
  obtain ⟨q2, eq2⟩ : ∃ z, z = S1.1.length := ⟨_, rfl⟩
  rw [← eq2]
  obtain ⟨S3, eS3⟩ : ∃ z, z = m_nw S1 100 240 := ⟨_, rfl⟩
  rw [← eS3]
  replace h := h q2 eq2 S3 eS3
  have hp : S1.1 <+: S3.1 := by rw [eS3]; exact List.prefix_append _ _
  have hk_q2 : m_kd S3 q2 = 100 := by rw [eS3, eq2]; exact m_kd_nwl
  have hk_a0 : m_kd S3 a0 = 1 := m_kd_pre hp hk_a0 (by decide)
  refine mj_putP dX1_init_10 fl_X1_9_1 hk_a0 (Or.inr ⟨rfl, rfl⟩) rfl hk_q2 (fun _ => rfl) (fun _ => rfl) ?_
  obtain ⟨S4, eS4⟩ : ∃ z, z = m_sp S3 a0 3 (some q2) := ⟨_, rfl⟩
  rw [← eS4]
  replace h := h S4 eS4
  have hk_a0 : m_kd S4 a0 = 1 := by rw [eS4]; exact hk_a0
  have hk_q2 : m_kd S4 q2 = 100 := by rw [eS4]; exact hk_q2
  refine mj_aload_n dX1_init_13 rfl rfl ?_
  refine mj_iconst (v := 0) dX1_init_14 (by decide) ?_
  refine mj_putI dX1_init_15 fl_X1_15_1 hk_a0 (Or.inl rfl) rfl rfl rfl ?_
  obtain ⟨S5, eS5⟩ : ∃ z, z = m_si S4 a0 4 (0 : Int32) := ⟨_, rfl⟩
  rw [← eS5]
  replace h := h S5 eS5
  have hk_a0 : m_kd S5 a0 = 1 := by rw [eS5]; exact hk_a0
  have hk_q2 : m_kd S5 q2 = 100 := by rw [eS5]; exact hk_q2
  exact mj_retv dX1_init_18 rfl ⟨Nat.le_of_ble_eq_true rfl, Nat.le_of_ble_eq_true rfl⟩ h
abbrev V_X1_read_0 (l : Launch) (G : mj_G) (a0 : Nat) (a1 : Nat) (x2 : Int32) (S : mj_S) (Q : mj_S → Int32 → Prop) : Prop := mj_V l G (mj_room 83 0 0) RX1 cX1_read 4 (some .int) false 0 [some (.ref a0), some (.ref a1), some (.int x2), none] [] S 0 0 (mj_std G (some .int) (mj_room 83 0 0) (mj_qi Q))
abbrev V_X1_read_13 (l : Launch) (G : mj_G) (a0 : Nat) (x3 : Int32) (S : mj_S) (Q : mj_S → Int32 → Prop) : Prop := mj_V l G (mj_room 83 0 0) RX1 cX1_read 4 (some .int) false 13 [some (.ref a0), none, none, some (.int x3)] [] S 0 0 (mj_std G (some .int) (mj_room 83 0 0) (mj_qi Q))
theorem e_X1_read {l : Launch} {G : mj_G} {a0 : Nat} {a1 : Nat} {x2 : Int32} {S : mj_S} {Q : mj_S → Int32 → Prop} (h : V_X1_read_0 l G a0 a1 x2 S Q) : M_X1_read l G a0 a1 x2 S Q := mj_enter (r := 1) (ini := false) (by decide +kernel) (fun h => by cases h) (fun _ => Nat.le_of_ble_eq_true rfl) rfl h
set_option maxRecDepth 20000 in
set_option maxHeartbeats 1000000 in
theorem b_X1_read_0 {l : Launch} {G : mj_G} {a0 : Nat} {a1 : Nat} {x2 : Int32} {S : mj_S} {Q : mj_S → Int32 → Prop} (hk_a0 : m_kd S a0 = 1) (hk_a1 : m_kd S a1 = 100) (h : M_X5_begin l G a0 a1 x2 S (fun S1 => ∀ S2 : mj_S, S2 = m_si S1 a0 4 (0 : Int32) → V_X1_read_13 l G a0 (0 : Int32) S2 Q)) : V_X1_read_0 l G a0 a1 x2 S Q := by
  refine mj_aload_n dX1_read_0 rfl rfl ?_
  refine mj_aload_n dX1_read_1 rfl rfl ?_
  refine mj_iload_n dX1_read_2 rfl rfl ?_
  refine mj_callUv (as := [.ref a1, .int x2]) (st := []) dX1_read_3 cal_X5_begin lu_X1_19 sa_X1_19 su_X1_19 im_X5_begin rfl (ci := 1) rfl (by decide) hk_a0 h rfl (Nat.le_of_ble_eq_true rfl) (by decide) ⟨Nat.le_of_ble_eq_true rfl, Nat.le_of_ble_eq_true rfl⟩ (fun S1 h hp => ?_)
  have hk_a0 : m_kd S1 a0 = 1 := m_kd_pre hp hk_a0 (by decide)
  have hk_a1 : m_kd S1 a1 = 100 := m_kd_pre hp hk_a1 (by decide)
  refine mj_aload_n dX1_read_6 rfl rfl ?_
  refine mj_iconst (v := 0) dX1_read_7 (by decide) ?_
  refine mj_putI dX1_read_8 fl_X1_15_1 hk_a0 (Or.inl rfl) rfl rfl rfl ?_
  obtain ⟨S2, eS2⟩ : ∃ z, z = m_si S1 a0 4 (0 : Int32) := ⟨_, rfl⟩
  rw [← eS2]
  replace h := h S2 eS2
  have hk_a0 : m_kd S2 a0 = 1 := by rw [eS2]; exact hk_a0
  have hk_a1 : m_kd S2 a1 = 100 := by rw [eS2]; exact hk_a1
  refine mj_iconst (v := 0) dX1_read_11 (by decide) ?_
  refine mj_istore_n dX1_read_12 rfl (by decide) rfl rfl ?_
  exact mj_lessm [true, false, false, true] rfl h
set_option maxRecDepth 20000 in
set_option maxHeartbeats 1000000 in
theorem b_X1_read_13 {l : Launch} {G : mj_G} {a0 : Nat} {x3 : Int32} {S : mj_S} {Q : mj_S → Int32 → Prop} (hk_a0 : m_kd S a0 = 1) (h : (((240 : Int32) ≤ x3) → Q S (m_gi S a0 2)) ∧ ((¬ ((240 : Int32) ≤ x3)) → M_X1_readClause l G a0 S (fun S1 r2 => ((¬ r2 = 0) → M_X5_peek l G a0 S1 (fun S3 r4 => ((¬ r4 = (-1 : Int32)) → M_X1_take l G a0 (59 : Int32) S3 (fun S5 r6 => ((¬ r6 = 0) → ∀ v7 : Int32, v7 = x3 + (1 : Int32) → V_X1_read_13 l G a0 v7 S5 Q) ∧ ((r6 = 0) → Q S5 (m_gi S5 a0 2)))) ∧ ((r4 = (-1 : Int32)) → Q S3 (-1 : Int32)))) ∧ ((r2 = 0) → Q S1 (m_gi S1 a0 2))))) : V_X1_read_13 l G a0 x3 S Q := by
  refine mj_iload_n dX1_read_13 rfl rfl ?_
  refine mj_sipush (v := 240) dX1_read_14 (by decide) ?_
  refine mj_icmp_ge (tgt := 62) dX1_read_17 (by decide) ⟨fun hc => ?_, fun hc => ?_⟩
  · replace h := h.1 hc
    refine mj_aload_n dX1_read_62 rfl rfl ?_
    refine mj_getI dX1_read_63 fl_X1_27_1 hk_a0 rfl ?_
    exact mj_reti dX1_read_66 rfl ⟨Nat.le_of_ble_eq_true rfl, Nat.le_of_ble_eq_true rfl⟩ h
  · replace h := h.2 hc
    refine mj_aload_n dX1_read_20 rfl rfl ?_
    refine mj_callVi (as := []) (st := []) dX1_read_21 cal_X1_readClause lk_X1_23 im_X1_readClause se_X1_readClause (ci := 1) rfl (by decide) hk_a0 h rfl (Nat.le_of_ble_eq_true rfl) (by decide) ⟨Nat.le_of_ble_eq_true rfl, Nat.le_of_ble_eq_true rfl⟩ (fun S1 r2 h hn_r2 hp => ?_)
    have hk_a0 : m_kd S1 a0 = 1 := m_kd_pre hp hk_a0 (by decide)
    refine mj_if_ne (tgt := 32) dX1_read_24 (by decide) ⟨fun hc => ?_, fun hc => ?_⟩
    · replace h := h.1 hc
      refine mj_aload_n dX1_read_32 rfl rfl ?_
      refine mj_callUi (as := []) (st := []) dX1_read_33 cal_X5_peek lu_X1_30 sa_X1_30 su_X1_30 im_X5_peek rfl (ci := 1) rfl (by decide) hk_a0 h rfl (Nat.le_of_ble_eq_true rfl) (by decide) ⟨Nat.le_of_ble_eq_true rfl, Nat.le_of_ble_eq_true rfl⟩ (fun S3 r4 h hn_r4 hp => ?_)
      have hk_a0 : m_kd S3 a0 = 1 := m_kd_pre hp hk_a0 (by decide)
      refine mj_iconst (v := (-1)) dX1_read_36 (by decide) ?_
      refine mj_icmp_ne (tgt := 42) dX1_read_37 (by decide) ⟨fun hc => ?_, fun hc => ?_⟩
      · replace h := h.1 hc
        refine mj_aload_n dX1_read_42 rfl rfl ?_
        refine mj_bipush (v := 59) dX1_read_43 (by decide) ?_
        refine mj_callVi (as := [.int (59 : Int32)]) (st := []) dX1_read_45 cal_X1_take lk_X1_34 im_X1_take se_X1_take (ci := 1) rfl (by decide) hk_a0 h rfl (Nat.le_of_ble_eq_true rfl) (by decide) ⟨Nat.le_of_ble_eq_true rfl, Nat.le_of_ble_eq_true rfl⟩ (fun S5 r6 h hn_r6 hp => ?_)
        have hk_a0 : m_kd S5 a0 = 1 := m_kd_pre hp hk_a0 (by decide)
        refine mj_if_ne (tgt := 56) dX1_read_48 (by decide) ⟨fun hc => ?_, fun hc => ?_⟩
        · replace h := h.1 hc
          obtain ⟨v7, ev7⟩ : ∃ z : Int32, z = x3 + (1 : Int32) := ⟨_, rfl⟩
          refine mj_iinc (v := v7) dX1_read_56 rfl (by rw [ev7]; rfl) (by decide) rfl rfl ?_
          replace h := h v7 ev7
          refine mj_goto (tgt := 13) dX1_read_59 (by decide) ?_
          exact h
        · replace h := h.2 hc
          refine mj_aload_n dX1_read_51 rfl rfl ?_
          refine mj_getI dX1_read_52 fl_X1_27_1 hk_a0 rfl ?_
          exact mj_reti dX1_read_55 rfl ⟨Nat.le_of_ble_eq_true rfl, Nat.le_of_ble_eq_true rfl⟩ h
      · replace h := h.2 hc
        refine mj_iconst (v := (-1)) dX1_read_40 (by decide) ?_
        exact mj_reti dX1_read_41 rfl ⟨Nat.le_of_ble_eq_true rfl, Nat.le_of_ble_eq_true rfl⟩ h
    · replace h := h.2 hc
      refine mj_aload_n dX1_read_27 rfl rfl ?_
      refine mj_getI dX1_read_28 fl_X1_27_1 hk_a0 rfl ?_
      exact mj_reti dX1_read_31 rfl ⟨Nat.le_of_ble_eq_true rfl, Nat.le_of_ble_eq_true rfl⟩ h
abbrev V_X1_take_0 (l : Launch) (G : mj_G) (a0 : Nat) (x1 : Int32) (S : mj_S) (Q : mj_S → Int32 → Prop) : Prop := mj_V l G (mj_room 2 0 0) RX1 cX1_take 2 (some .boolean) false 0 [some (.ref a0), some (.int x1)] [] S 0 0 (mj_std G (some .boolean) (mj_room 2 0 0) (mj_qi Q))
theorem e_X1_take {l : Launch} {G : mj_G} {a0 : Nat} {x1 : Int32} {S : mj_S} {Q : mj_S → Int32 → Prop} (h : V_X1_take_0 l G a0 x1 S Q) : M_X1_take l G a0 x1 S Q := mj_enter (r := 0) (ini := false) (by decide +kernel) (fun h => by cases h) (fun _ => Nat.le_of_ble_eq_true rfl) rfl h
set_option maxRecDepth 20000 in
set_option maxHeartbeats 1000000 in
theorem b_X1_take_0 {l : Launch} {G : mj_G} {a0 : Nat} {x1 : Int32} {S : mj_S} {Q : mj_S → Int32 → Prop} (hk_a0 : m_kd S a0 = 1) (h : M_X5_peek l G a0 S (fun S1 r2 => ((r2 = x1) → ∀ S3 : mj_S, S3 = m_si S1 a0 2 ((m_gi S1 a0 2) + (1 : Int32)) → Q S3 (1 : Int32)) ∧ ((¬ (r2 = x1)) → Q S1 (0 : Int32)))) : V_X1_take_0 l G a0 x1 S Q := by
  refine mj_aload_n dX1_take_0 rfl rfl ?_
  refine mj_callUi (as := []) (st := []) dX1_take_1 cal_X5_peek lu_X1_30 sa_X1_30 su_X1_30 im_X5_peek rfl (ci := 1) rfl (by decide) hk_a0 h rfl (Nat.le_of_ble_eq_true rfl) (by decide) ⟨Nat.le_of_ble_eq_true rfl, Nat.le_of_ble_eq_true rfl⟩ (fun S1 r2 h hn_r2 hp => ?_)
  have hk_a0 : m_kd S1 a0 = 1 := m_kd_pre hp hk_a0 (by decide)
  refine mj_iload_n dX1_take_4 rfl rfl ?_
  refine mj_icmp_eq (tgt := 10) dX1_take_5 (by decide) ⟨fun hc => ?_, fun hc => ?_⟩
  · replace h := h.1 hc
    refine mj_aload_n dX1_take_10 rfl rfl ?_
    refine mj_dup dX1_take_11 rfl ?_
    refine mj_getI dX1_take_12 fl_X1_27_1 hk_a0 rfl ?_
    refine mj_iconst (v := 1) dX1_take_15 (by decide) ?_
    refine mj_iadd dX1_take_16 ?_
    refine mj_putI dX1_take_17 fl_X1_27_1 hk_a0 (Or.inl rfl) rfl rfl rfl ?_
    obtain ⟨S3, eS3⟩ : ∃ z, z = m_si S1 a0 2 ((m_gi S1 a0 2) + (1 : Int32)) := ⟨_, rfl⟩
    rw [← eS3]
    replace h := h S3 eS3
    have hk_a0 : m_kd S3 a0 = 1 := by rw [eS3]; exact hk_a0
    refine mj_iconst (v := 1) dX1_take_20 (by decide) ?_
    exact mj_retz dX1_take_21 rfl (rfl) ⟨Nat.le_of_ble_eq_true rfl, Nat.le_of_ble_eq_true rfl⟩ h
  · replace h := h.2 hc
    refine mj_iconst (v := 0) dX1_take_8 (by decide) ?_
    exact mj_retz dX1_take_9 rfl (rfl) ⟨Nat.le_of_ble_eq_true rfl, Nat.le_of_ble_eq_true rfl⟩ h
abbrev V_X1_write_0 (l : Launch) (G : mj_G) (a0 : Nat) (x1 : Int32) (x2 : Int32) (S : mj_S) (Q : mj_S → Prop) : Prop := mj_V l G (mj_room 1 0 0) RX1 cX1_write 3 none false 0 [some (.ref a0), some (.int x1), some (.int x2)] [] S 0 0 (mj_std G none (mj_room 1 0 0) (mj_qv Q))
theorem e_X1_write {l : Launch} {G : mj_G} {a0 : Nat} {x1 : Int32} {x2 : Int32} {S : mj_S} {Q : mj_S → Prop} (h : V_X1_write_0 l G a0 x1 x2 S Q) : M_X1_write l G a0 x1 x2 S Q := mj_enter (r := 0) (ini := false) (by decide +kernel) (fun h => by cases h) (fun _ => Nat.le_of_ble_eq_true rfl) rfl h
set_option maxRecDepth 20000 in
set_option maxHeartbeats 1000000 in
theorem b_X1_write_0 {l : Launch} {G : mj_G} {a0 : Nat} {x1 : Int32} {x2 : Int32} {S : mj_S} {Q : mj_S → Prop} (hk_a0 : m_kd S a0 = 1) (h : (((240 : Int32) ≤ (m_gi S a0 4)) → Q S) ∧ ((¬ ((240 : Int32) ≤ (m_gi S a0 4))) → ∃ b1, m_gp S a0 3 = some b1 ∧ (vp_in (m_gi S a0 4) (m_ln S b1) ∧ (∀ S2 : mj_S, S2 = m_si S b1 ((m_gi S a0 4)).toNatClampNeg ((x1 <<< ((16 : Int32) &&& 31)) ||| x2) → ∀ S3 : mj_S, S3 = m_si S2 a0 4 ((m_gi S2 a0 4) + (1 : Int32)) → Q S3)))) : V_X1_write_0 l G a0 x1 x2 S Q := by
  refine mj_aload_n dX1_write_0 rfl rfl ?_
  refine mj_getI dX1_write_1 fl_X1_15_1 hk_a0 rfl ?_
  refine mj_sipush (v := 240) dX1_write_4 (by decide) ?_
  refine mj_icmp_ge (tgt := 35) dX1_write_7 (by decide) ⟨fun hc => ?_, fun hc => ?_⟩
  · replace h := h.1 hc
    exact mj_retv dX1_write_35 rfl ⟨Nat.le_of_ble_eq_true rfl, Nat.le_of_ble_eq_true rfl⟩ h
  · replace h := h.2 hc
    refine mj_aload_n dX1_write_10 rfl rfl ?_
    obtain ⟨b1, eb1, h⟩ := h
    refine mj_getP dX1_write_11 fl_X1_9_1 hk_a0 rfl ⟨b1, eb1, fun hk_b1 => ?_⟩
    refine mj_aload_n dX1_write_14 rfl rfl ?_
    refine mj_getI dX1_write_15 fl_X1_15_1 hk_a0 rfl ?_
    refine mj_iload_n dX1_write_18 rfl rfl ?_
    refine mj_bipush (v := 16) dX1_write_19 (by decide) ?_
    refine mj_ishl dX1_write_21 ?_
    refine mj_iload_n dX1_write_22 rfl rfl ?_
    refine mj_ior dX1_write_23 ?_
    refine mj_iast dX1_write_24 hk_b1 ⟨h.1, ?_⟩
    replace h := h.2
    obtain ⟨S2, eS2⟩ : ∃ z, z = m_si S b1 ((m_gi S a0 4)).toNatClampNeg ((x1 <<< ((16 : Int32) &&& 31)) ||| x2) := ⟨_, rfl⟩
    rw [← eS2]
    replace h := h S2 eS2
    have hk_a0 : m_kd S2 a0 = 1 := by rw [eS2]; exact hk_a0
    have hk_b1 : m_kd S2 b1 = 100 := by rw [eS2]; exact hk_b1
    refine mj_aload_n dX1_write_25 rfl rfl ?_
    refine mj_dup dX1_write_26 rfl ?_
    refine mj_getI dX1_write_27 fl_X1_15_1 hk_a0 rfl ?_
    refine mj_iconst (v := 1) dX1_write_30 (by decide) ?_
    refine mj_iadd dX1_write_31 ?_
    refine mj_putI dX1_write_32 fl_X1_15_1 hk_a0 (Or.inl rfl) rfl rfl rfl ?_
    obtain ⟨S3, eS3⟩ : ∃ z, z = m_si S2 a0 4 ((m_gi S2 a0 4) + (1 : Int32)) := ⟨_, rfl⟩
    rw [← eS3]
    replace h := h S3 eS3
    have hk_a0 : m_kd S3 a0 = 1 := by rw [eS3]; exact hk_a0
    have hk_b1 : m_kd S3 b1 = 100 := by rw [eS3]; exact hk_b1
    exact mj_retv dX1_write_35 rfl ⟨Nat.le_of_ble_eq_true rfl, Nat.le_of_ble_eq_true rfl⟩ h
abbrev V_X1_readClause_0 (l : Launch) (G : mj_G) (a0 : Nat) (S : mj_S) (Q : mj_S → Int32 → Prop) : Prop := mj_V l G (mj_room 82 0 0) RX1 cX1_readClause 3 (some .boolean) false 0 [some (.ref a0), none, none] [] S 0 0 (mj_std G (some .boolean) (mj_room 82 0 0) (mj_qi Q))
abbrev V_X1_readClause_69 (l : Launch) (G : mj_G) (a0 : Nat) (x2 : Int32) (S : mj_S) (Q : mj_S → Int32 → Prop) : Prop := mj_V l G (mj_room 82 0 0) RX1 cX1_readClause 3 (some .boolean) false 69 [some (.ref a0), none, some (.int x2)] [] S 0 0 (mj_std G (some .boolean) (mj_room 82 0 0) (mj_qi Q))
theorem e_X1_readClause {l : Launch} {G : mj_G} {a0 : Nat} {S : mj_S} {Q : mj_S → Int32 → Prop} (h : V_X1_readClause_0 l G a0 S Q) : M_X1_readClause l G a0 S Q := mj_enter (r := 2) (ini := false) (by decide +kernel) (fun h => by cases h) (fun _ => Nat.le_of_ble_eq_true rfl) rfl h
set_option maxRecDepth 20000 in
set_option maxHeartbeats 1000000 in
theorem b_X1_readClause_0 {l : Launch} {G : mj_G} {a0 : Nat} {S : mj_S} {Q : mj_S → Int32 → Prop} (hk_a0 : m_kd S a0 = 1) (h : M_X1_take l G a0 (121 : Int32) S (fun S1 r2 => ((r2 = 0) → Q S1 (0 : Int32)) ∧ ((¬ (r2 = 0)) → M_X1_take l G a0 (58 : Int32) S1 (fun S3 r4 => ((¬ r4 = 0) → M_X5_peek l G a0 S3 (fun S5 r6 => ((r6 = (33 : Int32)) → V_X1_readClause_69 l G a0 (0 : Int32) S5 Q) ∧ ((¬ (r6 = (33 : Int32))) → ((r6 = (40 : Int32)) → V_X1_readClause_69 l G a0 (0 : Int32) S5 Q) ∧ ((¬ (r6 = (40 : Int32))) → M_X1_readSum l G 80 a0 (0 : Int32) S5 (fun S7 r8 => ((¬ r8 = 0) → M_X5_peek l G a0 S7 (fun S9 r10 => M_X1_isComparison l G r10 S9 (fun S11 r12 => ((¬ r12 = 0) → V_X1_readClause_69 l G a0 (1 : Int32) S11 Q) ∧ ((r12 = 0) → M_X1_write l G a0 (4 : Int32) (0 : Int32) S11 (fun S13 => Q S13 (1 : Int32)))))) ∧ ((r8 = 0) → Q S7 (0 : Int32))))))) ∧ ((r4 = 0) → Q S3 (0 : Int32)))))) : V_X1_readClause_0 l G a0 S Q := by
  refine mj_aload_n dX1_readClause_0 rfl rfl ?_
  refine mj_bipush (v := 121) dX1_readClause_1 (by decide) ?_
  refine mj_callVi (as := [.int (121 : Int32)]) (st := []) dX1_readClause_3 cal_X1_take lk_X1_34 im_X1_take se_X1_take (ci := 1) rfl (by decide) hk_a0 h rfl (Nat.le_of_ble_eq_true rfl) (by decide) ⟨Nat.le_of_ble_eq_true rfl, Nat.le_of_ble_eq_true rfl⟩ (fun S1 r2 h hn_r2 hp => ?_)
  have hk_a0 : m_kd S1 a0 = 1 := m_kd_pre hp hk_a0 (by decide)
  refine mj_if_eq (tgt := 18) dX1_readClause_6 (by decide) ⟨fun hc => ?_, fun hc => ?_⟩
  · replace h := h.1 hc
    refine mj_iconst (v := 0) dX1_readClause_18 (by decide) ?_
    exact mj_retz dX1_readClause_19 rfl (rfl) ⟨Nat.le_of_ble_eq_true rfl, Nat.le_of_ble_eq_true rfl⟩ h
  · replace h := h.2 hc
    refine mj_aload_n dX1_readClause_9 rfl rfl ?_
    refine mj_bipush (v := 58) dX1_readClause_10 (by decide) ?_
    refine mj_callVi (as := [.int (58 : Int32)]) (st := []) dX1_readClause_12 cal_X1_take lk_X1_34 im_X1_take se_X1_take (ci := 1) rfl (by decide) hk_a0 h rfl (Nat.le_of_ble_eq_true rfl) (by decide) ⟨Nat.le_of_ble_eq_true rfl, Nat.le_of_ble_eq_true rfl⟩ (fun S3 r4 h hn_r4 hp => ?_)
    have hk_a0 : m_kd S3 a0 = 1 := m_kd_pre hp hk_a0 (by decide)
    refine mj_if_ne (tgt := 20) dX1_readClause_15 (by decide) ⟨fun hc => ?_, fun hc => ?_⟩
    · replace h := h.1 hc
      refine mj_aload_n dX1_readClause_20 rfl rfl ?_
      refine mj_callUi (as := []) (st := []) dX1_readClause_21 cal_X5_peek lu_X1_30 sa_X1_30 su_X1_30 im_X5_peek rfl (ci := 1) rfl (by decide) hk_a0 h rfl (Nat.le_of_ble_eq_true rfl) (by decide) ⟨Nat.le_of_ble_eq_true rfl, Nat.le_of_ble_eq_true rfl⟩ (fun S5 r6 h hn_r6 hp => ?_)
      have hk_a0 : m_kd S5 a0 = 1 := m_kd_pre hp hk_a0 (by decide)
      refine mj_istore_n dX1_readClause_24 rfl (by decide) rfl rfl ?_
      refine mj_iconst (v := 0) dX1_readClause_25 (by decide) ?_
      refine mj_istore_n dX1_readClause_26 rfl (by decide) rfl rfl ?_
      refine mj_iload_n dX1_readClause_27 rfl rfl ?_
      refine mj_bipush (v := 33) dX1_readClause_28 (by decide) ?_
      refine mj_icmp_eq (tgt := 69) dX1_readClause_30 (by decide) ⟨fun hc => ?_, fun hc => ?_⟩
      · replace h := h.1 hc
        exact mj_lessm [true, false, true] rfl h
      · replace h := h.2 hc
        refine mj_iload_n dX1_readClause_33 rfl rfl ?_
        refine mj_bipush (v := 40) dX1_readClause_34 (by decide) ?_
        refine mj_icmp_eq (tgt := 69) dX1_readClause_36 (by decide) ⟨fun hc => ?_, fun hc => ?_⟩
        · replace h := h.1 hc
          exact mj_lessm [true, false, true] rfl h
        · replace h := h.2 hc
          refine mj_aload_n dX1_readClause_39 rfl rfl ?_
          refine mj_iconst (v := 0) dX1_readClause_40 (by decide) ?_
          refine mj_callVi (as := [.int (0 : Int32)]) (st := []) dX1_readClause_41 cal_X1_readSum lk_X1_38 im_X1_readSum se_X1_readSum (ci := 1) rfl (by decide) hk_a0 h rfl (Nat.le_of_ble_eq_true rfl) (by decide) ⟨Nat.le_of_ble_eq_true rfl, Nat.le_of_ble_eq_true rfl⟩ (fun S7 r8 h hn_r8 hp => ?_)
          have hk_a0 : m_kd S7 a0 = 1 := m_kd_pre hp hk_a0 (by decide)
          refine mj_if_ne (tgt := 49) dX1_readClause_44 (by decide) ⟨fun hc => ?_, fun hc => ?_⟩
          · replace h := h.1 hc
            refine mj_aload_n dX1_readClause_49 rfl rfl ?_
            refine mj_callUi (as := []) (st := []) dX1_readClause_50 cal_X5_peek lu_X1_30 sa_X1_30 su_X1_30 im_X5_peek rfl (ci := 1) rfl (by decide) hk_a0 h rfl (Nat.le_of_ble_eq_true rfl) (by decide) ⟨Nat.le_of_ble_eq_true rfl, Nat.le_of_ble_eq_true rfl⟩ (fun S9 r10 h hn_r10 hp => ?_)
            have hk_a0 : m_kd S9 a0 = 1 := m_kd_pre hp hk_a0 (by decide)
            refine mj_callSi (as := [.int r10]) (st := []) dX1_readClause_53 cal_X1_isComparison lk_X1_41 sm_X1_isComparison h rfl (Nat.le_of_ble_eq_true rfl) (by decide) ⟨Nat.le_of_ble_eq_true rfl, Nat.le_of_ble_eq_true rfl⟩ (fun S11 r12 h hn_r12 hp => ?_)
            have hk_a0 : m_kd S11 a0 = 1 := m_kd_pre hp hk_a0 (by decide)
            refine mj_if_ne (tgt := 67) dX1_readClause_56 (by decide) ⟨fun hc => ?_, fun hc => ?_⟩
            · replace h := h.1 hc
              refine mj_iconst (v := 1) dX1_readClause_67 (by decide) ?_
              refine mj_istore_n dX1_readClause_68 rfl (by decide) rfl rfl ?_
              exact mj_lessm [true, false, true] rfl h
            · replace h := h.2 hc
              refine mj_aload_n dX1_readClause_59 rfl rfl ?_
              refine mj_iconst (v := 4) dX1_readClause_60 (by decide) ?_
              refine mj_iconst (v := 0) dX1_readClause_61 (by decide) ?_
              refine mj_callVv (as := [.int (4 : Int32), .int (0 : Int32)]) (st := []) dX1_readClause_62 cal_X1_write lk_X1_44 im_X1_write se_X1_write (ci := 1) rfl (by decide) hk_a0 h rfl (Nat.le_of_ble_eq_true rfl) (by decide) ⟨Nat.le_of_ble_eq_true rfl, Nat.le_of_ble_eq_true rfl⟩ (fun S13 h hp => ?_)
              have hk_a0 : m_kd S13 a0 = 1 := m_kd_pre hp hk_a0 (by decide)
              refine mj_iconst (v := 1) dX1_readClause_65 (by decide) ?_
              exact mj_retz dX1_readClause_66 rfl (rfl) ⟨Nat.le_of_ble_eq_true rfl, Nat.le_of_ble_eq_true rfl⟩ h
          · replace h := h.2 hc
            refine mj_iconst (v := 0) dX1_readClause_47 (by decide) ?_
            exact mj_retz dX1_readClause_48 rfl (rfl) ⟨Nat.le_of_ble_eq_true rfl, Nat.le_of_ble_eq_true rfl⟩ h
    · replace h := h.2 hc
      refine mj_iconst (v := 0) dX1_readClause_18 (by decide) ?_
      exact mj_retz dX1_readClause_19 rfl (rfl) ⟨Nat.le_of_ble_eq_true rfl, Nat.le_of_ble_eq_true rfl⟩ h
set_option maxRecDepth 20000 in
set_option maxHeartbeats 1000000 in
theorem b_X1_readClause_69 {l : Launch} {G : mj_G} {a0 : Nat} {x2 : Int32} {S : mj_S} {Q : mj_S → Int32 → Prop} (hk_a0 : m_kd S a0 = 1) (h : M_X1_readCondition l G 80 a0 (0 : Int32) x2 S (fun S1 r2 => ((r2 = 0) → Q S1 (0 : Int32)) ∧ ((¬ (r2 = 0)) → M_X1_readAnswer l G a0 S1 (fun S3 r4 => ((r4 = 0) → Q S3 (0 : Int32)) ∧ ((¬ (r4 = 0)) → Q S3 (1 : Int32)))))) : V_X1_readClause_69 l G a0 x2 S Q := by
  refine mj_aload_n dX1_readClause_69 rfl rfl ?_
  refine mj_iconst (v := 0) dX1_readClause_70 (by decide) ?_
  refine mj_iload_n dX1_readClause_71 rfl rfl ?_
  refine mj_callVi (as := [.int (0 : Int32), .int x2]) (st := []) dX1_readClause_72 cal_X1_readCondition lk_X1_48 im_X1_readCondition se_X1_readCondition (ci := 1) rfl (by decide) hk_a0 h rfl (Nat.le_of_ble_eq_true rfl) (by decide) ⟨Nat.le_of_ble_eq_true rfl, Nat.le_of_ble_eq_true rfl⟩ (fun S1 r2 h hn_r2 hp => ?_)
  have hk_a0 : m_kd S1 a0 = 1 := m_kd_pre hp hk_a0 (by decide)
  refine mj_if_eq (tgt := 89) dX1_readClause_75 (by decide) ⟨fun hc => ?_, fun hc => ?_⟩
  · replace h := h.1 hc
    refine mj_iconst (v := 0) dX1_readClause_89 (by decide) ?_
    exact mj_retz dX1_readClause_90 rfl (rfl) ⟨Nat.le_of_ble_eq_true rfl, Nat.le_of_ble_eq_true rfl⟩ h
  · replace h := h.2 hc
    refine mj_aload_n dX1_readClause_78 rfl rfl ?_
    refine mj_callVi (as := []) (st := []) dX1_readClause_79 cal_X1_readAnswer lk_X1_52 im_X1_readAnswer se_X1_readAnswer (ci := 1) rfl (by decide) hk_a0 h rfl (Nat.le_of_ble_eq_true rfl) (by decide) ⟨Nat.le_of_ble_eq_true rfl, Nat.le_of_ble_eq_true rfl⟩ (fun S3 r4 h hn_r4 hp => ?_)
    have hk_a0 : m_kd S3 a0 = 1 := m_kd_pre hp hk_a0 (by decide)
    refine mj_if_eq (tgt := 89) dX1_readClause_82 (by decide) ⟨fun hc => ?_, fun hc => ?_⟩
    · replace h := h.1 hc
      refine mj_iconst (v := 0) dX1_readClause_89 (by decide) ?_
      exact mj_retz dX1_readClause_90 rfl (rfl) ⟨Nat.le_of_ble_eq_true rfl, Nat.le_of_ble_eq_true rfl⟩ h
    · replace h := h.2 hc
      refine mj_iconst (v := 1) dX1_readClause_85 (by decide) ?_
      refine mj_goto (tgt := 90) dX1_readClause_86 (by decide) ?_
      exact mj_retz dX1_readClause_90 rfl (rfl) ⟨Nat.le_of_ble_eq_true rfl, Nat.le_of_ble_eq_true rfl⟩ h
abbrev V_X1_readAnswer_0 (l : Launch) (G : mj_G) (a0 : Nat) (S : mj_S) (Q : mj_S → Int32 → Prop) : Prop := mj_V l G (mj_room 81 0 0) RX1 cX1_readAnswer 2 (some .boolean) false 0 [some (.ref a0), none] [] S 0 0 (mj_std G (some .boolean) (mj_room 81 0 0) (mj_qi Q))
theorem e_X1_readAnswer {l : Launch} {G : mj_G} {a0 : Nat} {S : mj_S} {Q : mj_S → Int32 → Prop} (h : V_X1_readAnswer_0 l G a0 S Q) : M_X1_readAnswer l G a0 S Q := mj_enter (r := 1) (ini := false) (by decide +kernel) (fun h => by cases h) (fun _ => Nat.le_of_ble_eq_true rfl) rfl h
set_option maxRecDepth 20000 in
set_option maxHeartbeats 1000000 in
theorem b_X1_readAnswer_0 {l : Launch} {G : mj_G} {a0 : Nat} {S : mj_S} {Q : mj_S → Int32 → Prop} (hk_a0 : m_kd S a0 = 1) (h : M_X1_take l G a0 (63 : Int32) S (fun S1 r2 => ((¬ r2 = 0) → ∀ v3 : Int32, v3 = (m_gi S1 a0 4) → M_X1_write l G a0 (3 : Int32) (0 : Int32) S1 (fun S4 => M_X1_readSum l G 80 a0 (0 : Int32) S4 (fun S5 r6 => ((¬ r6 = 0) → M_X1_write l G a0 (4 : Int32) (0 : Int32) S5 (fun S7 => (((240 : Int32) ≤ v3) → Q S7 (1 : Int32)) ∧ ((¬ ((240 : Int32) ≤ v3)) → ∃ b8, m_gp S7 a0 3 = some b8 ∧ (vp_in v3 (m_ln S7 b8) ∧ (∀ S9 : mj_S, S9 = m_si S7 b8 (v3).toNatClampNeg ((196608 : Int32) ||| (m_gi S7 a0 4)) → Q S9 (1 : Int32)))))) ∧ ((r6 = 0) → Q S5 (0 : Int32))))) ∧ ((r2 = 0) → Q S1 (0 : Int32)))) : V_X1_readAnswer_0 l G a0 S Q := by
  refine mj_aload_n dX1_readAnswer_0 rfl rfl ?_
  refine mj_bipush (v := 63) dX1_readAnswer_1 (by decide) ?_
  refine mj_callVi (as := [.int (63 : Int32)]) (st := []) dX1_readAnswer_3 cal_X1_take lk_X1_34 im_X1_take se_X1_take (ci := 1) rfl (by decide) hk_a0 h rfl (Nat.le_of_ble_eq_true rfl) (by decide) ⟨Nat.le_of_ble_eq_true rfl, Nat.le_of_ble_eq_true rfl⟩ (fun S1 r2 h hn_r2 hp => ?_)
  have hk_a0 : m_kd S1 a0 = 1 := m_kd_pre hp hk_a0 (by decide)
  refine mj_if_ne (tgt := 11) dX1_readAnswer_6 (by decide) ⟨fun hc => ?_, fun hc => ?_⟩
  · replace h := h.1 hc
    refine mj_aload_n dX1_readAnswer_11 rfl rfl ?_
    refine mj_getI dX1_readAnswer_12 fl_X1_15_1 hk_a0 rfl ?_
    refine mj_nmi (fun v3 ev3 => ?_)
    replace h := h v3 ev3
    refine mj_istore_n dX1_readAnswer_15 rfl (by decide) rfl rfl ?_
    refine mj_aload_n dX1_readAnswer_16 rfl rfl ?_
    refine mj_iconst (v := 3) dX1_readAnswer_17 (by decide) ?_
    refine mj_iconst (v := 0) dX1_readAnswer_18 (by decide) ?_
    refine mj_callVv (as := [.int (3 : Int32), .int (0 : Int32)]) (st := []) dX1_readAnswer_19 cal_X1_write lk_X1_44 im_X1_write se_X1_write (ci := 1) rfl (by decide) hk_a0 h rfl (Nat.le_of_ble_eq_true rfl) (by decide) ⟨Nat.le_of_ble_eq_true rfl, Nat.le_of_ble_eq_true rfl⟩ (fun S4 h hp => ?_)
    have hk_a0 : m_kd S4 a0 = 1 := m_kd_pre hp hk_a0 (by decide)
    refine mj_aload_n dX1_readAnswer_22 rfl rfl ?_
    refine mj_iconst (v := 0) dX1_readAnswer_23 (by decide) ?_
    refine mj_callVi (as := [.int (0 : Int32)]) (st := []) dX1_readAnswer_24 cal_X1_readSum lk_X1_38 im_X1_readSum se_X1_readSum (ci := 1) rfl (by decide) hk_a0 h rfl (Nat.le_of_ble_eq_true rfl) (by decide) ⟨Nat.le_of_ble_eq_true rfl, Nat.le_of_ble_eq_true rfl⟩ (fun S5 r6 h hn_r6 hp => ?_)
    have hk_a0 : m_kd S5 a0 = 1 := m_kd_pre hp hk_a0 (by decide)
    refine mj_if_ne (tgt := 32) dX1_readAnswer_27 (by decide) ⟨fun hc => ?_, fun hc => ?_⟩
    · replace h := h.1 hc
      refine mj_aload_n dX1_readAnswer_32 rfl rfl ?_
      refine mj_iconst (v := 4) dX1_readAnswer_33 (by decide) ?_
      refine mj_iconst (v := 0) dX1_readAnswer_34 (by decide) ?_
      refine mj_callVv (as := [.int (4 : Int32), .int (0 : Int32)]) (st := []) dX1_readAnswer_35 cal_X1_write lk_X1_44 im_X1_write se_X1_write (ci := 1) rfl (by decide) hk_a0 h rfl (Nat.le_of_ble_eq_true rfl) (by decide) ⟨Nat.le_of_ble_eq_true rfl, Nat.le_of_ble_eq_true rfl⟩ (fun S7 h hp => ?_)
      have hk_a0 : m_kd S7 a0 = 1 := m_kd_pre hp hk_a0 (by decide)
      refine mj_iload_n dX1_readAnswer_38 rfl rfl ?_
      refine mj_sipush (v := 240) dX1_readAnswer_39 (by decide) ?_
      refine mj_icmp_ge (tgt := 58) dX1_readAnswer_42 (by decide) ⟨fun hc => ?_, fun hc => ?_⟩
      · replace h := h.1 hc
        refine mj_iconst (v := 1) dX1_readAnswer_58 (by decide) ?_
        exact mj_retz dX1_readAnswer_59 rfl (rfl) ⟨Nat.le_of_ble_eq_true rfl, Nat.le_of_ble_eq_true rfl⟩ h
      · replace h := h.2 hc
        refine mj_aload_n dX1_readAnswer_45 rfl rfl ?_
        obtain ⟨b8, eb8, h⟩ := h
        refine mj_getP dX1_readAnswer_46 fl_X1_9_1 hk_a0 rfl ⟨b8, eb8, fun hk_b8 => ?_⟩
        refine mj_iload_n dX1_readAnswer_49 rfl rfl ?_
        refine mj_ldc dX1_readAnswer_50 co_X1_55 ?_
        refine mj_aload_n dX1_readAnswer_52 rfl rfl ?_
        refine mj_getI dX1_readAnswer_53 fl_X1_15_1 hk_a0 rfl ?_
        refine mj_ior dX1_readAnswer_56 ?_
        refine mj_iast dX1_readAnswer_57 hk_b8 ⟨h.1, ?_⟩
        replace h := h.2
        obtain ⟨S9, eS9⟩ : ∃ z, z = m_si S7 b8 (v3).toNatClampNeg ((196608 : Int32) ||| (m_gi S7 a0 4)) := ⟨_, rfl⟩
        rw [← eS9]
        replace h := h S9 eS9
        have hk_a0 : m_kd S9 a0 = 1 := by rw [eS9]; exact hk_a0
        have hk_b8 : m_kd S9 b8 = 100 := by rw [eS9]; exact hk_b8
        refine mj_iconst (v := 1) dX1_readAnswer_58 (by decide) ?_
        exact mj_retz dX1_readAnswer_59 rfl (rfl) ⟨Nat.le_of_ble_eq_true rfl, Nat.le_of_ble_eq_true rfl⟩ h
    · replace h := h.2 hc
      refine mj_iconst (v := 0) dX1_readAnswer_30 (by decide) ?_
      exact mj_retz dX1_readAnswer_31 rfl (rfl) ⟨Nat.le_of_ble_eq_true rfl, Nat.le_of_ble_eq_true rfl⟩ h
  · replace h := h.2 hc
    refine mj_iconst (v := 0) dX1_readAnswer_9 (by decide) ?_
    exact mj_retz dX1_readAnswer_10 rfl (rfl) ⟨Nat.le_of_ble_eq_true rfl, Nat.le_of_ble_eq_true rfl⟩ h
abbrev V_X1_readCondition_0 (l : Launch) (G : mj_G) (D : Nat) (a0 : Nat) (x1 : Int32) (x2 : Int32) (S : mj_S) (Q : mj_S → Int32 → Prop) : Prop := mj_V l G (mj_room (D + 1) 0 0) RX1 cX1_readCondition 4 (some .boolean) false 0 [some (.ref a0), some (.int x1), some (.int x2), none] [] S 0 0 (mj_std G (some .boolean) (mj_room (D + 1) 0 0) (mj_qi Q))
abbrev V_X1_readCondition_13 (l : Launch) (G : mj_G) (D : Nat) (a0 : Nat) (x1 : Int32) (x3 : Int32) (S : mj_S) (Q : mj_S → Int32 → Prop) : Prop := mj_V l G (mj_room (D + 1) 0 0) RX1 cX1_readCondition 4 (some .boolean) false 13 [some (.ref a0), some (.int x1), none, some (.int x3)] [] S 0 0 (mj_std G (some .boolean) (mj_room (D + 1) 0 0) (mj_qi Q))
theorem e_X1_readCondition {l : Launch} {G : mj_G} {D : Nat} {a0 : Nat} {x1 : Int32} {x2 : Int32} {S : mj_S} {Q : mj_S → Int32 → Prop} (h : V_X1_readCondition_0 l G D a0 x1 x2 S Q) : M_X1_readCondition l G (D + 1) a0 x1 x2 S Q := mj_enter (r := 1) (ini := false) (by decide +kernel) (fun h => by cases h) (fun _ => Nat.le_of_ble_eq_true rfl) rfl h
set_option maxRecDepth 20000 in
set_option maxHeartbeats 1000000 in
theorem b_X1_readCondition_0 {l : Launch} {G : mj_G} {D : Nat} {a0 : Nat} {x1 : Int32} {x2 : Int32} {S : mj_S} {Q : mj_S → Int32 → Prop} (hD : 8 ≤ D) (hk_a0 : m_kd S a0 = 1) (h : M_X1_readTruth l G D a0 x1 x2 S (fun S1 r2 => ((¬ r2 = 0) → V_X1_readCondition_13 l G D a0 x1 (0 : Int32) S1 Q) ∧ ((r2 = 0) → Q S1 (0 : Int32)))) : V_X1_readCondition_0 l G D a0 x1 x2 S Q := by
  refine mj_aload_n dX1_readCondition_0 rfl rfl ?_
  refine mj_iload_n dX1_readCondition_1 rfl rfl ?_
  refine mj_iload_n dX1_readCondition_2 rfl rfl ?_
  refine mj_callVi (as := [.int x1, .int x2]) (st := []) dX1_readCondition_3 cal_X1_readTruth lk_X1_56 im_X1_readTruth se_X1_readTruth (ci := 1) rfl (by decide) hk_a0 h rfl (Nat.le_of_ble_eq_true rfl) (by omega) ⟨Nat.le_of_ble_eq_true rfl, Nat.le_of_ble_eq_true rfl⟩ (fun S1 r2 h hn_r2 hp => ?_)
  have hk_a0 : m_kd S1 a0 = 1 := m_kd_pre hp hk_a0 (by decide)
  refine mj_if_ne (tgt := 11) dX1_readCondition_6 (by decide) ⟨fun hc => ?_, fun hc => ?_⟩
  · replace h := h.1 hc
    refine mj_iconst (v := 0) dX1_readCondition_11 (by decide) ?_
    refine mj_istore_n dX1_readCondition_12 rfl (by decide) rfl rfl ?_
    exact mj_lessm [true, true, false, true] rfl h
  · replace h := h.2 hc
    refine mj_iconst (v := 0) dX1_readCondition_9 (by decide) ?_
    exact mj_retz dX1_readCondition_10 rfl (rfl) ⟨Nat.le_of_ble_eq_true rfl, Nat.le_of_ble_eq_true rfl⟩ h
set_option maxRecDepth 20000 in
set_option maxHeartbeats 1000000 in
theorem b_X1_readCondition_13 {l : Launch} {G : mj_G} {D : Nat} {a0 : Nat} {x1 : Int32} {x3 : Int32} {S : mj_S} {Q : mj_S → Int32 → Prop} (hD : 8 ≤ D) (hk_a0 : m_kd S a0 = 1) (h : (((240 : Int32) ≤ x3) → Q S (1 : Int32)) ∧ ((¬ ((240 : Int32) ≤ x3)) → M_X1_take l G a0 (124 : Int32) S (fun S1 r2 => ((r2 = 0) → Q S1 (1 : Int32)) ∧ ((¬ (r2 = 0)) → M_X1_readTruth l G D a0 x1 (0 : Int32) S1 (fun S3 r4 => ((¬ r4 = 0) → M_X1_write l G a0 (124 : Int32) (0 : Int32) S3 (fun S5 => ∀ v6 : Int32, v6 = x3 + (1 : Int32) → V_X1_readCondition_13 l G D a0 x1 v6 S5 Q)) ∧ ((r4 = 0) → Q S3 (0 : Int32))))))) : V_X1_readCondition_13 l G D a0 x1 x3 S Q := by
  refine mj_iload_n dX1_readCondition_13 rfl rfl ?_
  refine mj_sipush (v := 240) dX1_readCondition_14 (by decide) ?_
  refine mj_icmp_ge (tgt := 53) dX1_readCondition_17 (by decide) ⟨fun hc => ?_, fun hc => ?_⟩
  · replace h := h.1 hc
    refine mj_iconst (v := 1) dX1_readCondition_53 (by decide) ?_
    exact mj_retz dX1_readCondition_54 rfl (rfl) ⟨Nat.le_of_ble_eq_true rfl, Nat.le_of_ble_eq_true rfl⟩ h
  · replace h := h.2 hc
    refine mj_aload_n dX1_readCondition_20 rfl rfl ?_
    refine mj_bipush (v := 124) dX1_readCondition_21 (by decide) ?_
    refine mj_callVi (as := [.int (124 : Int32)]) (st := []) dX1_readCondition_23 cal_X1_take lk_X1_34 im_X1_take se_X1_take (ci := 1) rfl (by decide) hk_a0 h rfl (Nat.le_of_ble_eq_true rfl) (by omega) ⟨Nat.le_of_ble_eq_true rfl, Nat.le_of_ble_eq_true rfl⟩ (fun S1 r2 h hn_r2 hp => ?_)
    have hk_a0 : m_kd S1 a0 = 1 := m_kd_pre hp hk_a0 (by decide)
    refine mj_if_eq (tgt := 53) dX1_readCondition_26 (by decide) ⟨fun hc => ?_, fun hc => ?_⟩
    · replace h := h.1 hc
      refine mj_iconst (v := 1) dX1_readCondition_53 (by decide) ?_
      exact mj_retz dX1_readCondition_54 rfl (rfl) ⟨Nat.le_of_ble_eq_true rfl, Nat.le_of_ble_eq_true rfl⟩ h
    · replace h := h.2 hc
      refine mj_aload_n dX1_readCondition_29 rfl rfl ?_
      refine mj_iload_n dX1_readCondition_30 rfl rfl ?_
      refine mj_iconst (v := 0) dX1_readCondition_31 (by decide) ?_
      refine mj_callVi (as := [.int x1, .int (0 : Int32)]) (st := []) dX1_readCondition_32 cal_X1_readTruth lk_X1_56 im_X1_readTruth se_X1_readTruth (ci := 1) rfl (by decide) hk_a0 h rfl (Nat.le_of_ble_eq_true rfl) (by omega) ⟨Nat.le_of_ble_eq_true rfl, Nat.le_of_ble_eq_true rfl⟩ (fun S3 r4 h hn_r4 hp => ?_)
      have hk_a0 : m_kd S3 a0 = 1 := m_kd_pre hp hk_a0 (by decide)
      refine mj_if_ne (tgt := 40) dX1_readCondition_35 (by decide) ⟨fun hc => ?_, fun hc => ?_⟩
      · replace h := h.1 hc
        refine mj_aload_n dX1_readCondition_40 rfl rfl ?_
        refine mj_bipush (v := 124) dX1_readCondition_41 (by decide) ?_
        refine mj_iconst (v := 0) dX1_readCondition_43 (by decide) ?_
        refine mj_callVv (as := [.int (124 : Int32), .int (0 : Int32)]) (st := []) dX1_readCondition_44 cal_X1_write lk_X1_44 im_X1_write se_X1_write (ci := 1) rfl (by decide) hk_a0 h rfl (Nat.le_of_ble_eq_true rfl) (by omega) ⟨Nat.le_of_ble_eq_true rfl, Nat.le_of_ble_eq_true rfl⟩ (fun S5 h hp => ?_)
        have hk_a0 : m_kd S5 a0 = 1 := m_kd_pre hp hk_a0 (by decide)
        obtain ⟨v6, ev6⟩ : ∃ z : Int32, z = x3 + (1 : Int32) := ⟨_, rfl⟩
        refine mj_iinc (v := v6) dX1_readCondition_47 rfl (by rw [ev6]; rfl) (by decide) rfl rfl ?_
        replace h := h v6 ev6
        refine mj_goto (tgt := 13) dX1_readCondition_50 (by decide) ?_
        exact h
      · replace h := h.2 hc
        refine mj_iconst (v := 0) dX1_readCondition_38 (by decide) ?_
        exact mj_retz dX1_readCondition_39 rfl (rfl) ⟨Nat.le_of_ble_eq_true rfl, Nat.le_of_ble_eq_true rfl⟩ h
abbrev V_X1_readTruth_0 (l : Launch) (G : mj_G) (D : Nat) (a0 : Nat) (x1 : Int32) (x2 : Int32) (S : mj_S) (Q : mj_S → Int32 → Prop) : Prop := mj_V l G (mj_room (D + 1) 0 0) RX1 cX1_readTruth 4 (some .boolean) false 0 [some (.ref a0), some (.int x1), some (.int x2), none] [] S 0 0 (mj_std G (some .boolean) (mj_room (D + 1) 0 0) (mj_qi Q))
abbrev V_X1_readTruth_13 (l : Launch) (G : mj_G) (D : Nat) (a0 : Nat) (x1 : Int32) (x3 : Int32) (S : mj_S) (Q : mj_S → Int32 → Prop) : Prop := mj_V l G (mj_room (D + 1) 0 0) RX1 cX1_readTruth 4 (some .boolean) false 13 [some (.ref a0), some (.int x1), none, some (.int x3)] [] S 0 0 (mj_std G (some .boolean) (mj_room (D + 1) 0 0) (mj_qi Q))
theorem e_X1_readTruth {l : Launch} {G : mj_G} {D : Nat} {a0 : Nat} {x1 : Int32} {x2 : Int32} {S : mj_S} {Q : mj_S → Int32 → Prop} (h : V_X1_readTruth_0 l G D a0 x1 x2 S Q) : M_X1_readTruth l G (D + 1) a0 x1 x2 S Q := mj_enter (r := 1) (ini := false) (by decide +kernel) (fun h => by cases h) (fun _ => Nat.le_of_ble_eq_true rfl) rfl h
set_option maxRecDepth 20000 in
set_option maxHeartbeats 1000000 in
theorem b_X1_readTruth_0 {l : Launch} {G : mj_G} {D : Nat} {a0 : Nat} {x1 : Int32} {x2 : Int32} {S : mj_S} {Q : mj_S → Int32 → Prop} (hD : 8 ≤ D) (hk_a0 : m_kd S a0 = 1) (h : M_X1_readUnit l G D a0 x1 x2 S (fun S1 r2 => ((¬ r2 = 0) → V_X1_readTruth_13 l G D a0 x1 (0 : Int32) S1 Q) ∧ ((r2 = 0) → Q S1 (0 : Int32)))) : V_X1_readTruth_0 l G D a0 x1 x2 S Q := by
  refine mj_aload_n dX1_readTruth_0 rfl rfl ?_
  refine mj_iload_n dX1_readTruth_1 rfl rfl ?_
  refine mj_iload_n dX1_readTruth_2 rfl rfl ?_
  refine mj_callVi (as := [.int x1, .int x2]) (st := []) dX1_readTruth_3 cal_X1_readUnit lk_X1_59 im_X1_readUnit se_X1_readUnit (ci := 1) rfl (by decide) hk_a0 h rfl (Nat.le_of_ble_eq_true rfl) (by omega) ⟨Nat.le_of_ble_eq_true rfl, Nat.le_of_ble_eq_true rfl⟩ (fun S1 r2 h hn_r2 hp => ?_)
  have hk_a0 : m_kd S1 a0 = 1 := m_kd_pre hp hk_a0 (by decide)
  refine mj_if_ne (tgt := 11) dX1_readTruth_6 (by decide) ⟨fun hc => ?_, fun hc => ?_⟩
  · replace h := h.1 hc
    refine mj_iconst (v := 0) dX1_readTruth_11 (by decide) ?_
    refine mj_istore_n dX1_readTruth_12 rfl (by decide) rfl rfl ?_
    exact mj_lessm [true, true, false, true] rfl h
  · replace h := h.2 hc
    refine mj_iconst (v := 0) dX1_readTruth_9 (by decide) ?_
    exact mj_retz dX1_readTruth_10 rfl (rfl) ⟨Nat.le_of_ble_eq_true rfl, Nat.le_of_ble_eq_true rfl⟩ h
set_option maxRecDepth 20000 in
set_option maxHeartbeats 1000000 in
theorem b_X1_readTruth_13 {l : Launch} {G : mj_G} {D : Nat} {a0 : Nat} {x1 : Int32} {x3 : Int32} {S : mj_S} {Q : mj_S → Int32 → Prop} (hD : 8 ≤ D) (hk_a0 : m_kd S a0 = 1) (h : (((240 : Int32) ≤ x3) → Q S (1 : Int32)) ∧ ((¬ ((240 : Int32) ≤ x3)) → M_X1_take l G a0 (38 : Int32) S (fun S1 r2 => ((r2 = 0) → Q S1 (1 : Int32)) ∧ ((¬ (r2 = 0)) → M_X1_readUnit l G D a0 x1 (0 : Int32) S1 (fun S3 r4 => ((¬ r4 = 0) → M_X1_write l G a0 (38 : Int32) (0 : Int32) S3 (fun S5 => ∀ v6 : Int32, v6 = x3 + (1 : Int32) → V_X1_readTruth_13 l G D a0 x1 v6 S5 Q)) ∧ ((r4 = 0) → Q S3 (0 : Int32))))))) : V_X1_readTruth_13 l G D a0 x1 x3 S Q := by
  refine mj_iload_n dX1_readTruth_13 rfl rfl ?_
  refine mj_sipush (v := 240) dX1_readTruth_14 (by decide) ?_
  refine mj_icmp_ge (tgt := 53) dX1_readTruth_17 (by decide) ⟨fun hc => ?_, fun hc => ?_⟩
  · replace h := h.1 hc
    refine mj_iconst (v := 1) dX1_readTruth_53 (by decide) ?_
    exact mj_retz dX1_readTruth_54 rfl (rfl) ⟨Nat.le_of_ble_eq_true rfl, Nat.le_of_ble_eq_true rfl⟩ h
  · replace h := h.2 hc
    refine mj_aload_n dX1_readTruth_20 rfl rfl ?_
    refine mj_bipush (v := 38) dX1_readTruth_21 (by decide) ?_
    refine mj_callVi (as := [.int (38 : Int32)]) (st := []) dX1_readTruth_23 cal_X1_take lk_X1_34 im_X1_take se_X1_take (ci := 1) rfl (by decide) hk_a0 h rfl (Nat.le_of_ble_eq_true rfl) (by omega) ⟨Nat.le_of_ble_eq_true rfl, Nat.le_of_ble_eq_true rfl⟩ (fun S1 r2 h hn_r2 hp => ?_)
    have hk_a0 : m_kd S1 a0 = 1 := m_kd_pre hp hk_a0 (by decide)
    refine mj_if_eq (tgt := 53) dX1_readTruth_26 (by decide) ⟨fun hc => ?_, fun hc => ?_⟩
    · replace h := h.1 hc
      refine mj_iconst (v := 1) dX1_readTruth_53 (by decide) ?_
      exact mj_retz dX1_readTruth_54 rfl (rfl) ⟨Nat.le_of_ble_eq_true rfl, Nat.le_of_ble_eq_true rfl⟩ h
    · replace h := h.2 hc
      refine mj_aload_n dX1_readTruth_29 rfl rfl ?_
      refine mj_iload_n dX1_readTruth_30 rfl rfl ?_
      refine mj_iconst (v := 0) dX1_readTruth_31 (by decide) ?_
      refine mj_callVi (as := [.int x1, .int (0 : Int32)]) (st := []) dX1_readTruth_32 cal_X1_readUnit lk_X1_59 im_X1_readUnit se_X1_readUnit (ci := 1) rfl (by decide) hk_a0 h rfl (Nat.le_of_ble_eq_true rfl) (by omega) ⟨Nat.le_of_ble_eq_true rfl, Nat.le_of_ble_eq_true rfl⟩ (fun S3 r4 h hn_r4 hp => ?_)
      have hk_a0 : m_kd S3 a0 = 1 := m_kd_pre hp hk_a0 (by decide)
      refine mj_if_ne (tgt := 40) dX1_readTruth_35 (by decide) ⟨fun hc => ?_, fun hc => ?_⟩
      · replace h := h.1 hc
        refine mj_aload_n dX1_readTruth_40 rfl rfl ?_
        refine mj_bipush (v := 38) dX1_readTruth_41 (by decide) ?_
        refine mj_iconst (v := 0) dX1_readTruth_43 (by decide) ?_
        refine mj_callVv (as := [.int (38 : Int32), .int (0 : Int32)]) (st := []) dX1_readTruth_44 cal_X1_write lk_X1_44 im_X1_write se_X1_write (ci := 1) rfl (by decide) hk_a0 h rfl (Nat.le_of_ble_eq_true rfl) (by omega) ⟨Nat.le_of_ble_eq_true rfl, Nat.le_of_ble_eq_true rfl⟩ (fun S5 h hp => ?_)
        have hk_a0 : m_kd S5 a0 = 1 := m_kd_pre hp hk_a0 (by decide)
        obtain ⟨v6, ev6⟩ : ∃ z : Int32, z = x3 + (1 : Int32) := ⟨_, rfl⟩
        refine mj_iinc (v := v6) dX1_readTruth_47 rfl (by rw [ev6]; rfl) (by decide) rfl rfl ?_
        replace h := h v6 ev6
        refine mj_goto (tgt := 13) dX1_readTruth_50 (by decide) ?_
        exact h
      · replace h := h.2 hc
        refine mj_iconst (v := 0) dX1_readTruth_38 (by decide) ?_
        exact mj_retz dX1_readTruth_39 rfl (rfl) ⟨Nat.le_of_ble_eq_true rfl, Nat.le_of_ble_eq_true rfl⟩ h
abbrev V_X1_readUnit_0 (l : Launch) (G : mj_G) (D : Nat) (a0 : Nat) (x1 : Int32) (x2 : Int32) (S : mj_S) (Q : mj_S → Int32 → Prop) : Prop := mj_V l G (mj_room (D + 1) 0 0) RX1 cX1_readUnit 4 (some .boolean) false 0 [some (.ref a0), some (.int x1), some (.int x2), none] [] S 0 0 (mj_std G (some .boolean) (mj_room (D + 1) 0 0) (mj_qi Q))
abbrev V_X1_readUnit_49 (l : Launch) (G : mj_G) (D : Nat) (a0 : Nat) (x1 : Int32) (x3 : Int32) (S : mj_S) (Q : mj_S → Int32 → Prop) : Prop := mj_V l G (mj_room (D + 1) 0 0) RX1 cX1_readUnit 4 (some .boolean) false 49 [some (.ref a0), some (.int x1), none, some (.int x3)] [] S 0 0 (mj_std G (some .boolean) (mj_room (D + 1) 0 0) (mj_qi Q))
theorem e_X1_readUnit {l : Launch} {G : mj_G} {D : Nat} {a0 : Nat} {x1 : Int32} {x2 : Int32} {S : mj_S} {Q : mj_S → Int32 → Prop} (h : V_X1_readUnit_0 l G D a0 x1 x2 S Q) : M_X1_readUnit l G (D + 1) a0 x1 x2 S Q := mj_enter (r := 1) (ini := false) (by decide +kernel) (fun h => by cases h) (fun _ => Nat.le_of_ble_eq_true rfl) rfl h
set_option maxRecDepth 20000 in
set_option maxHeartbeats 1000000 in
theorem b_X1_readUnit_0 {l : Launch} {G : mj_G} {D : Nat} {a0 : Nat} {x1 : Int32} {x2 : Int32} {S : mj_S} {Q : mj_S → Int32 → Prop} (hD : 8 ≤ D) (hk_a0 : m_kd S a0 = 1) (h : ((x2 = 0) → M_X5_peek l G a0 S (fun S1 r2 => ((r2 = (33 : Int32)) → V_X1_readUnit_49 l G D a0 x1 r2 S1 Q) ∧ ((¬ (r2 = (33 : Int32))) → ((r2 = (40 : Int32)) → V_X1_readUnit_49 l G D a0 x1 r2 S1 Q) ∧ ((¬ (r2 = (40 : Int32))) → M_X1_readSum l G D a0 x1 S1 (fun S3 r4 => ((r4 = 0) → Q S3 (0 : Int32)) ∧ ((¬ (r4 = 0)) → M_X1_readComparison l G D a0 x1 S3 (fun S5 r6 => ((r6 = 0) → Q S5 (0 : Int32)) ∧ ((¬ (r6 = 0)) → Q S5 (1 : Int32))))))))) ∧ ((¬ (x2 = 0)) → M_X1_readComparison l G D a0 x1 S (fun S7 r8 => Q S7 r8))) : V_X1_readUnit_0 l G D a0 x1 x2 S Q := by
  refine mj_iload_n dX1_readUnit_0 rfl rfl ?_
  refine mj_if_eq (tgt := 10) dX1_readUnit_1 (by decide) ⟨fun hc => ?_, fun hc => ?_⟩
  · replace h := h.1 hc
    refine mj_aload_n dX1_readUnit_10 rfl rfl ?_
    refine mj_callUi (as := []) (st := []) dX1_readUnit_11 cal_X5_peek lu_X1_30 sa_X1_30 su_X1_30 im_X5_peek rfl (ci := 1) rfl (by decide) hk_a0 h rfl (Nat.le_of_ble_eq_true rfl) (by omega) ⟨Nat.le_of_ble_eq_true rfl, Nat.le_of_ble_eq_true rfl⟩ (fun S1 r2 h hn_r2 hp => ?_)
    have hk_a0 : m_kd S1 a0 = 1 := m_kd_pre hp hk_a0 (by decide)
    refine mj_istore_n dX1_readUnit_14 rfl (by decide) rfl rfl ?_
    refine mj_iload_n dX1_readUnit_15 rfl rfl ?_
    refine mj_bipush (v := 33) dX1_readUnit_16 (by decide) ?_
    refine mj_icmp_eq (tgt := 49) dX1_readUnit_18 (by decide) ⟨fun hc => ?_, fun hc => ?_⟩
    · replace h := h.1 hc
      exact mj_lessm [true, true, false, true] rfl h
    · replace h := h.2 hc
      refine mj_iload_n dX1_readUnit_21 rfl rfl ?_
      refine mj_bipush (v := 40) dX1_readUnit_22 (by decide) ?_
      refine mj_icmp_eq (tgt := 49) dX1_readUnit_24 (by decide) ⟨fun hc => ?_, fun hc => ?_⟩
      · replace h := h.1 hc
        exact mj_lessm [true, true, false, true] rfl h
      · replace h := h.2 hc
        refine mj_aload_n dX1_readUnit_27 rfl rfl ?_
        refine mj_iload_n dX1_readUnit_28 rfl rfl ?_
        refine mj_callVi (as := [.int x1]) (st := []) dX1_readUnit_29 cal_X1_readSum lk_X1_38 im_X1_readSum se_X1_readSum (ci := 1) rfl (by decide) hk_a0 h rfl (Nat.le_of_ble_eq_true rfl) (by omega) ⟨Nat.le_of_ble_eq_true rfl, Nat.le_of_ble_eq_true rfl⟩ (fun S3 r4 h hn_r4 hp => ?_)
        have hk_a0 : m_kd S3 a0 = 1 := m_kd_pre hp hk_a0 (by decide)
        refine mj_if_eq (tgt := 47) dX1_readUnit_32 (by decide) ⟨fun hc => ?_, fun hc => ?_⟩
        · replace h := h.1 hc
          refine mj_iconst (v := 0) dX1_readUnit_47 (by decide) ?_
          exact mj_retz dX1_readUnit_48 rfl (rfl) ⟨Nat.le_of_ble_eq_true rfl, Nat.le_of_ble_eq_true rfl⟩ h
        · replace h := h.2 hc
          refine mj_aload_n dX1_readUnit_35 rfl rfl ?_
          refine mj_iload_n dX1_readUnit_36 rfl rfl ?_
          refine mj_callVi (as := [.int x1]) (st := []) dX1_readUnit_37 cal_X1_readComparison lk_X1_62 im_X1_readComparison se_X1_readComparison (ci := 1) rfl (by decide) hk_a0 h rfl (Nat.le_of_ble_eq_true rfl) (by omega) ⟨Nat.le_of_ble_eq_true rfl, Nat.le_of_ble_eq_true rfl⟩ (fun S5 r6 h hn_r6 hp => ?_)
          have hk_a0 : m_kd S5 a0 = 1 := m_kd_pre hp hk_a0 (by decide)
          refine mj_if_eq (tgt := 47) dX1_readUnit_40 (by decide) ⟨fun hc => ?_, fun hc => ?_⟩
          · replace h := h.1 hc
            refine mj_iconst (v := 0) dX1_readUnit_47 (by decide) ?_
            exact mj_retz dX1_readUnit_48 rfl (rfl) ⟨Nat.le_of_ble_eq_true rfl, Nat.le_of_ble_eq_true rfl⟩ h
          · replace h := h.2 hc
            refine mj_iconst (v := 1) dX1_readUnit_43 (by decide) ?_
            refine mj_goto (tgt := 48) dX1_readUnit_44 (by decide) ?_
            exact mj_retz dX1_readUnit_48 rfl (rfl) ⟨Nat.le_of_ble_eq_true rfl, Nat.le_of_ble_eq_true rfl⟩ h
  · replace h := h.2 hc
    refine mj_aload_n dX1_readUnit_4 rfl rfl ?_
    refine mj_iload_n dX1_readUnit_5 rfl rfl ?_
    refine mj_callVi (as := [.int x1]) (st := []) dX1_readUnit_6 cal_X1_readComparison lk_X1_62 im_X1_readComparison se_X1_readComparison (ci := 1) rfl (by decide) hk_a0 h rfl (Nat.le_of_ble_eq_true rfl) (by omega) ⟨Nat.le_of_ble_eq_true rfl, Nat.le_of_ble_eq_true rfl⟩ (fun S7 r8 h hn_r8 hp => ?_)
    have hk_a0 : m_kd S7 a0 = 1 := m_kd_pre hp hk_a0 (by decide)
    exact mj_retz dX1_readUnit_9 rfl (hn_r8) ⟨Nat.le_of_ble_eq_true rfl, Nat.le_of_ble_eq_true rfl⟩ h
set_option maxRecDepth 20000 in
set_option maxHeartbeats 1000000 in
theorem b_X1_readUnit_49 {l : Launch} {G : mj_G} {D : Nat} {a0 : Nat} {x1 : Int32} {x3 : Int32} {S : mj_S} {Q : mj_S → Int32 → Prop} (hD : 8 ≤ D) (hk_a0 : m_kd S a0 = 1) (h : ((x1 < (6 : Int32)) → ∀ S1 : mj_S, S1 = m_si S a0 2 ((m_gi S a0 2) + (1 : Int32)) → ((¬ x3 = (40 : Int32)) → M_X1_readUnit l G D a0 (x1 + (1 : Int32)) (0 : Int32) S1 (fun S2 r3 => ((¬ r3 = 0) → M_X1_write l G a0 (33 : Int32) (0 : Int32) S2 (fun S4 => Q S4 (1 : Int32))) ∧ ((r3 = 0) → Q S2 (0 : Int32)))) ∧ ((x3 = (40 : Int32)) → M_X1_readCondition l G D a0 (x1 + (1 : Int32)) (0 : Int32) S1 (fun S5 r6 => ((r6 = 0) → Q S5 (0 : Int32)) ∧ ((¬ (r6 = 0)) → M_X1_take l G a0 (41 : Int32) S5 (fun S7 r8 => ((r8 = 0) → Q S7 (0 : Int32)) ∧ ((¬ (r8 = 0)) → Q S7 (1 : Int32))))))) ∧ ((¬ (x1 < (6 : Int32))) → Q S (0 : Int32))) : V_X1_readUnit_49 l G D a0 x1 x3 S Q := by
  refine mj_iload_n dX1_readUnit_49 rfl rfl ?_
  refine mj_bipush (v := 6) dX1_readUnit_50 (by decide) ?_
  refine mj_icmp_lt (tgt := 57) dX1_readUnit_52 (by decide) ⟨fun hc => ?_, fun hc => ?_⟩
  · replace h := h.1 hc
    refine mj_aload_n dX1_readUnit_57 rfl rfl ?_
    refine mj_dup dX1_readUnit_58 rfl ?_
    refine mj_getI dX1_readUnit_59 fl_X1_27_1 hk_a0 rfl ?_
    refine mj_iconst (v := 1) dX1_readUnit_62 (by decide) ?_
    refine mj_iadd dX1_readUnit_63 ?_
    refine mj_putI dX1_readUnit_64 fl_X1_27_1 hk_a0 (Or.inl rfl) rfl rfl rfl ?_
    obtain ⟨S1, eS1⟩ : ∃ z, z = m_si S a0 2 ((m_gi S a0 2) + (1 : Int32)) := ⟨_, rfl⟩
    rw [← eS1]
    replace h := h S1 eS1
    have hk_a0 : m_kd S1 a0 = 1 := by rw [eS1]; exact hk_a0
    refine mj_iload_n dX1_readUnit_67 rfl rfl ?_
    refine mj_bipush (v := 40) dX1_readUnit_68 (by decide) ?_
    refine mj_icmp_ne (tgt := 99) dX1_readUnit_70 (by decide) ⟨fun hc => ?_, fun hc => ?_⟩
    · replace h := h.1 hc
      refine mj_aload_n dX1_readUnit_99 rfl rfl ?_
      refine mj_iload_n dX1_readUnit_100 rfl rfl ?_
      refine mj_iconst (v := 1) dX1_readUnit_101 (by decide) ?_
      refine mj_iadd dX1_readUnit_102 ?_
      refine mj_iconst (v := 0) dX1_readUnit_103 (by decide) ?_
      refine mj_callVi (as := [.int (x1 + (1 : Int32)), .int (0 : Int32)]) (st := []) dX1_readUnit_104 cal_X1_readUnit lk_X1_59 im_X1_readUnit se_X1_readUnit (ci := 1) rfl (by decide) hk_a0 h rfl (Nat.le_of_ble_eq_true rfl) (by omega) ⟨Nat.le_of_ble_eq_true rfl, Nat.le_of_ble_eq_true rfl⟩ (fun S2 r3 h hn_r3 hp => ?_)
      have hk_a0 : m_kd S2 a0 = 1 := m_kd_pre hp hk_a0 (by decide)
      refine mj_if_ne (tgt := 112) dX1_readUnit_107 (by decide) ⟨fun hc => ?_, fun hc => ?_⟩
      · replace h := h.1 hc
        refine mj_aload_n dX1_readUnit_112 rfl rfl ?_
        refine mj_bipush (v := 33) dX1_readUnit_113 (by decide) ?_
        refine mj_iconst (v := 0) dX1_readUnit_115 (by decide) ?_
        refine mj_callVv (as := [.int (33 : Int32), .int (0 : Int32)]) (st := []) dX1_readUnit_116 cal_X1_write lk_X1_44 im_X1_write se_X1_write (ci := 1) rfl (by decide) hk_a0 h rfl (Nat.le_of_ble_eq_true rfl) (by omega) ⟨Nat.le_of_ble_eq_true rfl, Nat.le_of_ble_eq_true rfl⟩ (fun S4 h hp => ?_)
        have hk_a0 : m_kd S4 a0 = 1 := m_kd_pre hp hk_a0 (by decide)
        refine mj_iconst (v := 1) dX1_readUnit_119 (by decide) ?_
        exact mj_retz dX1_readUnit_120 rfl (rfl) ⟨Nat.le_of_ble_eq_true rfl, Nat.le_of_ble_eq_true rfl⟩ h
      · replace h := h.2 hc
        refine mj_iconst (v := 0) dX1_readUnit_110 (by decide) ?_
        exact mj_retz dX1_readUnit_111 rfl (rfl) ⟨Nat.le_of_ble_eq_true rfl, Nat.le_of_ble_eq_true rfl⟩ h
    · replace h := h.2 hc
      refine mj_aload_n dX1_readUnit_73 rfl rfl ?_
      refine mj_iload_n dX1_readUnit_74 rfl rfl ?_
      refine mj_iconst (v := 1) dX1_readUnit_75 (by decide) ?_
      refine mj_iadd dX1_readUnit_76 ?_
      refine mj_iconst (v := 0) dX1_readUnit_77 (by decide) ?_
      refine mj_callVi (as := [.int (x1 + (1 : Int32)), .int (0 : Int32)]) (st := []) dX1_readUnit_78 cal_X1_readCondition lk_X1_48 im_X1_readCondition se_X1_readCondition (ci := 1) rfl (by decide) hk_a0 h rfl (Nat.le_of_ble_eq_true rfl) (by omega) ⟨Nat.le_of_ble_eq_true rfl, Nat.le_of_ble_eq_true rfl⟩ (fun S5 r6 h hn_r6 hp => ?_)
      have hk_a0 : m_kd S5 a0 = 1 := m_kd_pre hp hk_a0 (by decide)
      refine mj_if_eq (tgt := 97) dX1_readUnit_81 (by decide) ⟨fun hc => ?_, fun hc => ?_⟩
      · replace h := h.1 hc
        refine mj_iconst (v := 0) dX1_readUnit_97 (by decide) ?_
        exact mj_retz dX1_readUnit_98 rfl (rfl) ⟨Nat.le_of_ble_eq_true rfl, Nat.le_of_ble_eq_true rfl⟩ h
      · replace h := h.2 hc
        refine mj_aload_n dX1_readUnit_84 rfl rfl ?_
        refine mj_bipush (v := 41) dX1_readUnit_85 (by decide) ?_
        refine mj_callVi (as := [.int (41 : Int32)]) (st := []) dX1_readUnit_87 cal_X1_take lk_X1_34 im_X1_take se_X1_take (ci := 1) rfl (by decide) hk_a0 h rfl (Nat.le_of_ble_eq_true rfl) (by omega) ⟨Nat.le_of_ble_eq_true rfl, Nat.le_of_ble_eq_true rfl⟩ (fun S7 r8 h hn_r8 hp => ?_)
        have hk_a0 : m_kd S7 a0 = 1 := m_kd_pre hp hk_a0 (by decide)
        refine mj_if_eq (tgt := 97) dX1_readUnit_90 (by decide) ⟨fun hc => ?_, fun hc => ?_⟩
        · replace h := h.1 hc
          refine mj_iconst (v := 0) dX1_readUnit_97 (by decide) ?_
          exact mj_retz dX1_readUnit_98 rfl (rfl) ⟨Nat.le_of_ble_eq_true rfl, Nat.le_of_ble_eq_true rfl⟩ h
        · replace h := h.2 hc
          refine mj_iconst (v := 1) dX1_readUnit_93 (by decide) ?_
          refine mj_goto (tgt := 98) dX1_readUnit_94 (by decide) ?_
          exact mj_retz dX1_readUnit_98 rfl (rfl) ⟨Nat.le_of_ble_eq_true rfl, Nat.le_of_ble_eq_true rfl⟩ h
  · replace h := h.2 hc
    refine mj_iconst (v := 0) dX1_readUnit_55 (by decide) ?_
    exact mj_retz dX1_readUnit_56 rfl (rfl) ⟨Nat.le_of_ble_eq_true rfl, Nat.le_of_ble_eq_true rfl⟩ h
abbrev V_X1_readComparison_0 (l : Launch) (G : mj_G) (D : Nat) (a0 : Nat) (x1 : Int32) (S : mj_S) (Q : mj_S → Int32 → Prop) : Prop := mj_V l G (mj_room (D + 1) 0 0) RX1 cX1_readComparison 3 (some .boolean) false 0 [some (.ref a0), some (.int x1), none] [] S 0 0 (mj_std G (some .boolean) (mj_room (D + 1) 0 0) (mj_qi Q))
theorem e_X1_readComparison {l : Launch} {G : mj_G} {D : Nat} {a0 : Nat} {x1 : Int32} {S : mj_S} {Q : mj_S → Int32 → Prop} (h : V_X1_readComparison_0 l G D a0 x1 S Q) : M_X1_readComparison l G (D + 1) a0 x1 S Q := mj_enter (r := 1) (ini := false) (by decide +kernel) (fun h => by cases h) (fun _ => Nat.le_of_ble_eq_true rfl) rfl h
set_option maxRecDepth 20000 in
set_option maxHeartbeats 1000000 in
theorem b_X1_readComparison_0 {l : Launch} {G : mj_G} {D : Nat} {a0 : Nat} {x1 : Int32} {S : mj_S} {Q : mj_S → Int32 → Prop} (hD : 8 ≤ D) (hk_a0 : m_kd S a0 = 1) (h : M_X5_peek l G a0 S (fun S1 r2 => M_X1_isComparison l G r2 S1 (fun S3 r4 => ((¬ r4 = 0) → ∀ S5 : mj_S, S5 = m_si S3 a0 2 ((m_gi S3 a0 2) + (1 : Int32)) → M_X1_readSum l G D a0 x1 S5 (fun S6 r7 => ((¬ r7 = 0) → M_X1_write l G a0 r2 (0 : Int32) S6 (fun S8 => Q S8 (1 : Int32))) ∧ ((r7 = 0) → Q S6 (0 : Int32)))) ∧ ((r4 = 0) → Q S3 (0 : Int32))))) : V_X1_readComparison_0 l G D a0 x1 S Q := by
  refine mj_aload_n dX1_readComparison_0 rfl rfl ?_
  refine mj_callUi (as := []) (st := []) dX1_readComparison_1 cal_X5_peek lu_X1_30 sa_X1_30 su_X1_30 im_X5_peek rfl (ci := 1) rfl (by decide) hk_a0 h rfl (Nat.le_of_ble_eq_true rfl) (by omega) ⟨Nat.le_of_ble_eq_true rfl, Nat.le_of_ble_eq_true rfl⟩ (fun S1 r2 h hn_r2 hp => ?_)
  have hk_a0 : m_kd S1 a0 = 1 := m_kd_pre hp hk_a0 (by decide)
  refine mj_istore_n dX1_readComparison_4 rfl (by decide) rfl rfl ?_
  refine mj_iload_n dX1_readComparison_5 rfl rfl ?_
  refine mj_callSi (as := [.int r2]) (st := []) dX1_readComparison_6 cal_X1_isComparison lk_X1_41 sm_X1_isComparison h rfl (Nat.le_of_ble_eq_true rfl) (by omega) ⟨Nat.le_of_ble_eq_true rfl, Nat.le_of_ble_eq_true rfl⟩ (fun S3 r4 h hn_r4 hp => ?_)
  have hk_a0 : m_kd S3 a0 = 1 := m_kd_pre hp hk_a0 (by decide)
  refine mj_if_ne (tgt := 14) dX1_readComparison_9 (by decide) ⟨fun hc => ?_, fun hc => ?_⟩
  · replace h := h.1 hc
    refine mj_aload_n dX1_readComparison_14 rfl rfl ?_
    refine mj_dup dX1_readComparison_15 rfl ?_
    refine mj_getI dX1_readComparison_16 fl_X1_27_1 hk_a0 rfl ?_
    refine mj_iconst (v := 1) dX1_readComparison_19 (by decide) ?_
    refine mj_iadd dX1_readComparison_20 ?_
    refine mj_putI dX1_readComparison_21 fl_X1_27_1 hk_a0 (Or.inl rfl) rfl rfl rfl ?_
    obtain ⟨S5, eS5⟩ : ∃ z, z = m_si S3 a0 2 ((m_gi S3 a0 2) + (1 : Int32)) := ⟨_, rfl⟩
    rw [← eS5]
    replace h := h S5 eS5
    have hk_a0 : m_kd S5 a0 = 1 := by rw [eS5]; exact hk_a0
    refine mj_aload_n dX1_readComparison_24 rfl rfl ?_
    refine mj_iload_n dX1_readComparison_25 rfl rfl ?_
    refine mj_callVi (as := [.int x1]) (st := []) dX1_readComparison_26 cal_X1_readSum lk_X1_38 im_X1_readSum se_X1_readSum (ci := 1) rfl (by decide) hk_a0 h rfl (Nat.le_of_ble_eq_true rfl) (by omega) ⟨Nat.le_of_ble_eq_true rfl, Nat.le_of_ble_eq_true rfl⟩ (fun S6 r7 h hn_r7 hp => ?_)
    have hk_a0 : m_kd S6 a0 = 1 := m_kd_pre hp hk_a0 (by decide)
    refine mj_if_ne (tgt := 34) dX1_readComparison_29 (by decide) ⟨fun hc => ?_, fun hc => ?_⟩
    · replace h := h.1 hc
      refine mj_aload_n dX1_readComparison_34 rfl rfl ?_
      refine mj_iload_n dX1_readComparison_35 rfl rfl ?_
      refine mj_iconst (v := 0) dX1_readComparison_36 (by decide) ?_
      refine mj_callVv (as := [.int r2, .int (0 : Int32)]) (st := []) dX1_readComparison_37 cal_X1_write lk_X1_44 im_X1_write se_X1_write (ci := 1) rfl (by decide) hk_a0 h rfl (Nat.le_of_ble_eq_true rfl) (by omega) ⟨Nat.le_of_ble_eq_true rfl, Nat.le_of_ble_eq_true rfl⟩ (fun S8 h hp => ?_)
      have hk_a0 : m_kd S8 a0 = 1 := m_kd_pre hp hk_a0 (by decide)
      refine mj_iconst (v := 1) dX1_readComparison_40 (by decide) ?_
      exact mj_retz dX1_readComparison_41 rfl (rfl) ⟨Nat.le_of_ble_eq_true rfl, Nat.le_of_ble_eq_true rfl⟩ h
    · replace h := h.2 hc
      refine mj_iconst (v := 0) dX1_readComparison_32 (by decide) ?_
      exact mj_retz dX1_readComparison_33 rfl (rfl) ⟨Nat.le_of_ble_eq_true rfl, Nat.le_of_ble_eq_true rfl⟩ h
  · replace h := h.2 hc
    refine mj_iconst (v := 0) dX1_readComparison_12 (by decide) ?_
    exact mj_retz dX1_readComparison_13 rfl (rfl) ⟨Nat.le_of_ble_eq_true rfl, Nat.le_of_ble_eq_true rfl⟩ h
abbrev V_X1_isComparison_0 (l : Launch) (G : mj_G) (x0 : Int32) (S : mj_S) (Q : mj_S → Int32 → Prop) : Prop := mj_V l G (mj_room 1 0 0) RX1 cX1_isComparison 1 (some .boolean) false 0 [some (.int x0)] [] S 0 0 (mj_std G (some .boolean) (mj_room 1 0 0) (mj_qi Q))
theorem e_X1_isComparison {l : Launch} {G : mj_G} {x0 : Int32} {S : mj_S} {Q : mj_S → Int32 → Prop} (h : V_X1_isComparison_0 l G x0 S Q) : M_X1_isComparison l G x0 S Q := mj_enter (r := 0) (ini := false) (by decide +kernel) (fun h => by cases h) (fun _ => Nat.le_of_ble_eq_true rfl) rfl h
set_option maxRecDepth 20000 in
set_option maxHeartbeats 1000000 in
theorem b_X1_isComparison_0 {l : Launch} {G : mj_G} {x0 : Int32} {S : mj_S} {Q : mj_S → Int32 → Prop} (h : ((x0 = (61 : Int32)) → Q S (1 : Int32)) ∧ ((¬ (x0 = (61 : Int32))) → ((x0 = (60 : Int32)) → Q S (1 : Int32)) ∧ ((¬ (x0 = (60 : Int32))) → ((¬ x0 = (62 : Int32)) → Q S (0 : Int32)) ∧ ((x0 = (62 : Int32)) → Q S (1 : Int32))))) : V_X1_isComparison_0 l G x0 S Q := by
  refine mj_iload_n dX1_isComparison_0 rfl rfl ?_
  refine mj_bipush (v := 61) dX1_isComparison_1 (by decide) ?_
  refine mj_icmp_eq (tgt := 18) dX1_isComparison_3 (by decide) ⟨fun hc => ?_, fun hc => ?_⟩
  · replace h := h.1 hc
    refine mj_iconst (v := 1) dX1_isComparison_18 (by decide) ?_
    refine mj_goto (tgt := 23) dX1_isComparison_19 (by decide) ?_
    exact mj_retz dX1_isComparison_23 rfl (rfl) ⟨Nat.le_of_ble_eq_true rfl, Nat.le_of_ble_eq_true rfl⟩ h
  · replace h := h.2 hc
    refine mj_iload_n dX1_isComparison_6 rfl rfl ?_
    refine mj_bipush (v := 60) dX1_isComparison_7 (by decide) ?_
    refine mj_icmp_eq (tgt := 18) dX1_isComparison_9 (by decide) ⟨fun hc => ?_, fun hc => ?_⟩
    · replace h := h.1 hc
      refine mj_iconst (v := 1) dX1_isComparison_18 (by decide) ?_
      refine mj_goto (tgt := 23) dX1_isComparison_19 (by decide) ?_
      exact mj_retz dX1_isComparison_23 rfl (rfl) ⟨Nat.le_of_ble_eq_true rfl, Nat.le_of_ble_eq_true rfl⟩ h
    · replace h := h.2 hc
      refine mj_iload_n dX1_isComparison_12 rfl rfl ?_
      refine mj_bipush (v := 62) dX1_isComparison_13 (by decide) ?_
      refine mj_icmp_ne (tgt := 22) dX1_isComparison_15 (by decide) ⟨fun hc => ?_, fun hc => ?_⟩
      · replace h := h.1 hc
        refine mj_iconst (v := 0) dX1_isComparison_22 (by decide) ?_
        exact mj_retz dX1_isComparison_23 rfl (rfl) ⟨Nat.le_of_ble_eq_true rfl, Nat.le_of_ble_eq_true rfl⟩ h
      · replace h := h.2 hc
        refine mj_iconst (v := 1) dX1_isComparison_18 (by decide) ?_
        refine mj_goto (tgt := 23) dX1_isComparison_19 (by decide) ?_
        exact mj_retz dX1_isComparison_23 rfl (rfl) ⟨Nat.le_of_ble_eq_true rfl, Nat.le_of_ble_eq_true rfl⟩ h
abbrev V_X1_readSum_0 (l : Launch) (G : mj_G) (D : Nat) (a0 : Nat) (x1 : Int32) (S : mj_S) (Q : mj_S → Int32 → Prop) : Prop := mj_V l G (mj_room (D + 1) 0 0) RX1 cX1_readSum 4 (some .boolean) false 0 [some (.ref a0), some (.int x1), none, none] [] S 0 0 (mj_std G (some .boolean) (mj_room (D + 1) 0 0) (mj_qi Q))
abbrev V_X1_readSum_12 (l : Launch) (G : mj_G) (D : Nat) (a0 : Nat) (x1 : Int32) (x2 : Int32) (S : mj_S) (Q : mj_S → Int32 → Prop) : Prop := mj_V l G (mj_room (D + 1) 0 0) RX1 cX1_readSum 4 (some .boolean) false 12 [some (.ref a0), some (.int x1), some (.int x2), none] [] S 0 0 (mj_std G (some .boolean) (mj_room (D + 1) 0 0) (mj_qi Q))
abbrev V_X1_readSum_39 (l : Launch) (G : mj_G) (D : Nat) (a0 : Nat) (x1 : Int32) (x2 : Int32) (x3 : Int32) (S : mj_S) (Q : mj_S → Int32 → Prop) : Prop := mj_V l G (mj_room (D + 1) 0 0) RX1 cX1_readSum 4 (some .boolean) false 39 [some (.ref a0), some (.int x1), some (.int x2), some (.int x3)] [] S 0 0 (mj_std G (some .boolean) (mj_room (D + 1) 0 0) (mj_qi Q))
theorem e_X1_readSum {l : Launch} {G : mj_G} {D : Nat} {a0 : Nat} {x1 : Int32} {S : mj_S} {Q : mj_S → Int32 → Prop} (h : V_X1_readSum_0 l G D a0 x1 S Q) : M_X1_readSum l G (D + 1) a0 x1 S Q := mj_enter (r := 2) (ini := false) (by decide +kernel) (fun h => by cases h) (fun _ => Nat.le_of_ble_eq_true rfl) rfl h
set_option maxRecDepth 20000 in
set_option maxHeartbeats 1000000 in
theorem b_X1_readSum_0 {l : Launch} {G : mj_G} {D : Nat} {a0 : Nat} {x1 : Int32} {S : mj_S} {Q : mj_S → Int32 → Prop} (hD : 8 ≤ D) (hk_a0 : m_kd S a0 = 1) (h : M_X1_readTerm l G D a0 x1 S (fun S1 r2 => ((¬ r2 = 0) → V_X1_readSum_12 l G D a0 x1 (0 : Int32) S1 Q) ∧ ((r2 = 0) → Q S1 (0 : Int32)))) : V_X1_readSum_0 l G D a0 x1 S Q := by
  refine mj_aload_n dX1_readSum_0 rfl rfl ?_
  refine mj_iload_n dX1_readSum_1 rfl rfl ?_
  refine mj_callVi (as := [.int x1]) (st := []) dX1_readSum_2 cal_X1_readTerm lk_X1_65 im_X1_readTerm se_X1_readTerm (ci := 1) rfl (by decide) hk_a0 h rfl (Nat.le_of_ble_eq_true rfl) (by omega) ⟨Nat.le_of_ble_eq_true rfl, Nat.le_of_ble_eq_true rfl⟩ (fun S1 r2 h hn_r2 hp => ?_)
  have hk_a0 : m_kd S1 a0 = 1 := m_kd_pre hp hk_a0 (by decide)
  refine mj_if_ne (tgt := 10) dX1_readSum_5 (by decide) ⟨fun hc => ?_, fun hc => ?_⟩
  · replace h := h.1 hc
    refine mj_iconst (v := 0) dX1_readSum_10 (by decide) ?_
    refine mj_istore_n dX1_readSum_11 rfl (by decide) rfl rfl ?_
    exact h
  · replace h := h.2 hc
    refine mj_iconst (v := 0) dX1_readSum_8 (by decide) ?_
    exact mj_retz dX1_readSum_9 rfl (rfl) ⟨Nat.le_of_ble_eq_true rfl, Nat.le_of_ble_eq_true rfl⟩ h
set_option maxRecDepth 20000 in
set_option maxHeartbeats 1000000 in
theorem b_X1_readSum_12 {l : Launch} {G : mj_G} {D : Nat} {a0 : Nat} {x1 : Int32} {x2 : Int32} {S : mj_S} {Q : mj_S → Int32 → Prop} (hD : 8 ≤ D) (hk_a0 : m_kd S a0 = 1) (h : (((240 : Int32) ≤ x2) → Q S (1 : Int32)) ∧ ((¬ ((240 : Int32) ≤ x2)) → M_X5_peek l G a0 S (fun S1 r2 => ((r2 = (43 : Int32)) → V_X1_readSum_39 l G D a0 x1 x2 r2 S1 Q) ∧ ((¬ (r2 = (43 : Int32))) → ((r2 = (45 : Int32)) → V_X1_readSum_39 l G D a0 x1 x2 r2 S1 Q) ∧ ((¬ (r2 = (45 : Int32))) → Q S1 (1 : Int32)))))) : V_X1_readSum_12 l G D a0 x1 x2 S Q := by
  refine mj_iload_n dX1_readSum_12 rfl rfl ?_
  refine mj_sipush (v := 240) dX1_readSum_13 (by decide) ?_
  refine mj_icmp_ge (tgt := 71) dX1_readSum_16 (by decide) ⟨fun hc => ?_, fun hc => ?_⟩
  · replace h := h.1 hc
    refine mj_iconst (v := 1) dX1_readSum_71 (by decide) ?_
    exact mj_retz dX1_readSum_72 rfl (rfl) ⟨Nat.le_of_ble_eq_true rfl, Nat.le_of_ble_eq_true rfl⟩ h
  · replace h := h.2 hc
    refine mj_aload_n dX1_readSum_19 rfl rfl ?_
    refine mj_callUi (as := []) (st := []) dX1_readSum_20 cal_X5_peek lu_X1_30 sa_X1_30 su_X1_30 im_X5_peek rfl (ci := 1) rfl (by decide) hk_a0 h rfl (Nat.le_of_ble_eq_true rfl) (by omega) ⟨Nat.le_of_ble_eq_true rfl, Nat.le_of_ble_eq_true rfl⟩ (fun S1 r2 h hn_r2 hp => ?_)
    have hk_a0 : m_kd S1 a0 = 1 := m_kd_pre hp hk_a0 (by decide)
    refine mj_istore_n dX1_readSum_23 rfl (by decide) rfl rfl ?_
    refine mj_iload_n dX1_readSum_24 rfl rfl ?_
    refine mj_bipush (v := 43) dX1_readSum_25 (by decide) ?_
    refine mj_icmp_eq (tgt := 39) dX1_readSum_27 (by decide) ⟨fun hc => ?_, fun hc => ?_⟩
    · replace h := h.1 hc
      exact h
    · replace h := h.2 hc
      refine mj_iload_n dX1_readSum_30 rfl rfl ?_
      refine mj_bipush (v := 45) dX1_readSum_31 (by decide) ?_
      refine mj_icmp_eq (tgt := 39) dX1_readSum_33 (by decide) ⟨fun hc => ?_, fun hc => ?_⟩
      · replace h := h.1 hc
        exact h
      · replace h := h.2 hc
        refine mj_goto (tgt := 71) dX1_readSum_36 (by decide) ?_
        refine mj_iconst (v := 1) dX1_readSum_71 (by decide) ?_
        exact mj_retz dX1_readSum_72 rfl (rfl) ⟨Nat.le_of_ble_eq_true rfl, Nat.le_of_ble_eq_true rfl⟩ h
set_option maxRecDepth 20000 in
set_option maxHeartbeats 1000000 in
theorem b_X1_readSum_39 {l : Launch} {G : mj_G} {D : Nat} {a0 : Nat} {x1 : Int32} {x2 : Int32} {x3 : Int32} {S : mj_S} {Q : mj_S → Int32 → Prop} (hD : 8 ≤ D) (hk_a0 : m_kd S a0 = 1) (h : ∀ S1 : mj_S, S1 = m_si S a0 2 ((m_gi S a0 2) + (1 : Int32)) → M_X1_readTerm l G D a0 x1 S1 (fun S2 r3 => ((¬ r3 = 0) → M_X1_write l G a0 x3 (0 : Int32) S2 (fun S4 => ∀ v5 : Int32, v5 = x2 + (1 : Int32) → V_X1_readSum_12 l G D a0 x1 v5 S4 Q)) ∧ ((r3 = 0) → Q S2 (0 : Int32)))) : V_X1_readSum_39 l G D a0 x1 x2 x3 S Q := by
  refine mj_aload_n dX1_readSum_39 rfl rfl ?_
  refine mj_dup dX1_readSum_40 rfl ?_
  refine mj_getI dX1_readSum_41 fl_X1_27_1 hk_a0 rfl ?_
  refine mj_iconst (v := 1) dX1_readSum_44 (by decide) ?_
  refine mj_iadd dX1_readSum_45 ?_
  refine mj_putI dX1_readSum_46 fl_X1_27_1 hk_a0 (Or.inl rfl) rfl rfl rfl ?_
  obtain ⟨S1, eS1⟩ : ∃ z, z = m_si S a0 2 ((m_gi S a0 2) + (1 : Int32)) := ⟨_, rfl⟩
  rw [← eS1]
  replace h := h S1 eS1
  have hk_a0 : m_kd S1 a0 = 1 := by rw [eS1]; exact hk_a0
  refine mj_aload_n dX1_readSum_49 rfl rfl ?_
  refine mj_iload_n dX1_readSum_50 rfl rfl ?_
  refine mj_callVi (as := [.int x1]) (st := []) dX1_readSum_51 cal_X1_readTerm lk_X1_65 im_X1_readTerm se_X1_readTerm (ci := 1) rfl (by decide) hk_a0 h rfl (Nat.le_of_ble_eq_true rfl) (by omega) ⟨Nat.le_of_ble_eq_true rfl, Nat.le_of_ble_eq_true rfl⟩ (fun S2 r3 h hn_r3 hp => ?_)
  have hk_a0 : m_kd S2 a0 = 1 := m_kd_pre hp hk_a0 (by decide)
  refine mj_if_ne (tgt := 59) dX1_readSum_54 (by decide) ⟨fun hc => ?_, fun hc => ?_⟩
  · replace h := h.1 hc
    refine mj_aload_n dX1_readSum_59 rfl rfl ?_
    refine mj_iload_n dX1_readSum_60 rfl rfl ?_
    refine mj_iconst (v := 0) dX1_readSum_61 (by decide) ?_
    refine mj_callVv (as := [.int x3, .int (0 : Int32)]) (st := []) dX1_readSum_62 cal_X1_write lk_X1_44 im_X1_write se_X1_write (ci := 1) rfl (by decide) hk_a0 h rfl (Nat.le_of_ble_eq_true rfl) (by omega) ⟨Nat.le_of_ble_eq_true rfl, Nat.le_of_ble_eq_true rfl⟩ (fun S4 h hp => ?_)
    have hk_a0 : m_kd S4 a0 = 1 := m_kd_pre hp hk_a0 (by decide)
    obtain ⟨v5, ev5⟩ : ∃ z : Int32, z = x2 + (1 : Int32) := ⟨_, rfl⟩
    refine mj_iinc (v := v5) dX1_readSum_65 rfl (by rw [ev5]; rfl) (by decide) rfl rfl ?_
    replace h := h v5 ev5
    refine mj_goto (tgt := 12) dX1_readSum_68 (by decide) ?_
    exact mj_lessm [true, true, true, false] rfl h
  · replace h := h.2 hc
    refine mj_iconst (v := 0) dX1_readSum_57 (by decide) ?_
    exact mj_retz dX1_readSum_58 rfl (rfl) ⟨Nat.le_of_ble_eq_true rfl, Nat.le_of_ble_eq_true rfl⟩ h
abbrev V_X1_readTerm_0 (l : Launch) (G : mj_G) (D : Nat) (a0 : Nat) (x1 : Int32) (S : mj_S) (Q : mj_S → Int32 → Prop) : Prop := mj_V l G (mj_room (D + 1) 0 0) RX1 cX1_readTerm 4 (some .boolean) false 0 [some (.ref a0), some (.int x1), none, none] [] S 0 0 (mj_std G (some .boolean) (mj_room (D + 1) 0 0) (mj_qi Q))
abbrev V_X1_readTerm_12 (l : Launch) (G : mj_G) (D : Nat) (a0 : Nat) (x1 : Int32) (x2 : Int32) (S : mj_S) (Q : mj_S → Int32 → Prop) : Prop := mj_V l G (mj_room (D + 1) 0 0) RX1 cX1_readTerm 4 (some .boolean) false 12 [some (.ref a0), some (.int x1), some (.int x2), none] [] S 0 0 (mj_std G (some .boolean) (mj_room (D + 1) 0 0) (mj_qi Q))
abbrev V_X1_readTerm_39 (l : Launch) (G : mj_G) (D : Nat) (a0 : Nat) (x1 : Int32) (x2 : Int32) (x3 : Int32) (S : mj_S) (Q : mj_S → Int32 → Prop) : Prop := mj_V l G (mj_room (D + 1) 0 0) RX1 cX1_readTerm 4 (some .boolean) false 39 [some (.ref a0), some (.int x1), some (.int x2), some (.int x3)] [] S 0 0 (mj_std G (some .boolean) (mj_room (D + 1) 0 0) (mj_qi Q))
theorem e_X1_readTerm {l : Launch} {G : mj_G} {D : Nat} {a0 : Nat} {x1 : Int32} {S : mj_S} {Q : mj_S → Int32 → Prop} (h : V_X1_readTerm_0 l G D a0 x1 S Q) : M_X1_readTerm l G (D + 1) a0 x1 S Q := mj_enter (r := 2) (ini := false) (by decide +kernel) (fun h => by cases h) (fun _ => Nat.le_of_ble_eq_true rfl) rfl h
set_option maxRecDepth 20000 in
set_option maxHeartbeats 1000000 in
theorem b_X1_readTerm_0 {l : Launch} {G : mj_G} {D : Nat} {a0 : Nat} {x1 : Int32} {S : mj_S} {Q : mj_S → Int32 → Prop} (hD : 8 ≤ D) (hk_a0 : m_kd S a0 = 1) (h : M_X1_readAtom l G D a0 x1 S (fun S1 r2 => ((¬ r2 = 0) → V_X1_readTerm_12 l G D a0 x1 (0 : Int32) S1 Q) ∧ ((r2 = 0) → Q S1 (0 : Int32)))) : V_X1_readTerm_0 l G D a0 x1 S Q := by
  refine mj_aload_n dX1_readTerm_0 rfl rfl ?_
  refine mj_iload_n dX1_readTerm_1 rfl rfl ?_
  refine mj_callVi (as := [.int x1]) (st := []) dX1_readTerm_2 cal_X1_readAtom lk_X1_68 im_X1_readAtom se_X1_readAtom (ci := 1) rfl (by decide) hk_a0 h rfl (Nat.le_of_ble_eq_true rfl) (by omega) ⟨Nat.le_of_ble_eq_true rfl, Nat.le_of_ble_eq_true rfl⟩ (fun S1 r2 h hn_r2 hp => ?_)
  have hk_a0 : m_kd S1 a0 = 1 := m_kd_pre hp hk_a0 (by decide)
  refine mj_if_ne (tgt := 10) dX1_readTerm_5 (by decide) ⟨fun hc => ?_, fun hc => ?_⟩
  · replace h := h.1 hc
    refine mj_iconst (v := 0) dX1_readTerm_10 (by decide) ?_
    refine mj_istore_n dX1_readTerm_11 rfl (by decide) rfl rfl ?_
    exact h
  · replace h := h.2 hc
    refine mj_iconst (v := 0) dX1_readTerm_8 (by decide) ?_
    exact mj_retz dX1_readTerm_9 rfl (rfl) ⟨Nat.le_of_ble_eq_true rfl, Nat.le_of_ble_eq_true rfl⟩ h
set_option maxRecDepth 20000 in
set_option maxHeartbeats 1000000 in
theorem b_X1_readTerm_12 {l : Launch} {G : mj_G} {D : Nat} {a0 : Nat} {x1 : Int32} {x2 : Int32} {S : mj_S} {Q : mj_S → Int32 → Prop} (hD : 8 ≤ D) (hk_a0 : m_kd S a0 = 1) (h : (((240 : Int32) ≤ x2) → Q S (1 : Int32)) ∧ ((¬ ((240 : Int32) ≤ x2)) → M_X5_peek l G a0 S (fun S1 r2 => ((r2 = (42 : Int32)) → V_X1_readTerm_39 l G D a0 x1 x2 r2 S1 Q) ∧ ((¬ (r2 = (42 : Int32))) → ((r2 = (47 : Int32)) → V_X1_readTerm_39 l G D a0 x1 x2 r2 S1 Q) ∧ ((¬ (r2 = (47 : Int32))) → Q S1 (1 : Int32)))))) : V_X1_readTerm_12 l G D a0 x1 x2 S Q := by
  refine mj_iload_n dX1_readTerm_12 rfl rfl ?_
  refine mj_sipush (v := 240) dX1_readTerm_13 (by decide) ?_
  refine mj_icmp_ge (tgt := 71) dX1_readTerm_16 (by decide) ⟨fun hc => ?_, fun hc => ?_⟩
  · replace h := h.1 hc
    refine mj_iconst (v := 1) dX1_readTerm_71 (by decide) ?_
    exact mj_retz dX1_readTerm_72 rfl (rfl) ⟨Nat.le_of_ble_eq_true rfl, Nat.le_of_ble_eq_true rfl⟩ h
  · replace h := h.2 hc
    refine mj_aload_n dX1_readTerm_19 rfl rfl ?_
    refine mj_callUi (as := []) (st := []) dX1_readTerm_20 cal_X5_peek lu_X1_30 sa_X1_30 su_X1_30 im_X5_peek rfl (ci := 1) rfl (by decide) hk_a0 h rfl (Nat.le_of_ble_eq_true rfl) (by omega) ⟨Nat.le_of_ble_eq_true rfl, Nat.le_of_ble_eq_true rfl⟩ (fun S1 r2 h hn_r2 hp => ?_)
    have hk_a0 : m_kd S1 a0 = 1 := m_kd_pre hp hk_a0 (by decide)
    refine mj_istore_n dX1_readTerm_23 rfl (by decide) rfl rfl ?_
    refine mj_iload_n dX1_readTerm_24 rfl rfl ?_
    refine mj_bipush (v := 42) dX1_readTerm_25 (by decide) ?_
    refine mj_icmp_eq (tgt := 39) dX1_readTerm_27 (by decide) ⟨fun hc => ?_, fun hc => ?_⟩
    · replace h := h.1 hc
      exact h
    · replace h := h.2 hc
      refine mj_iload_n dX1_readTerm_30 rfl rfl ?_
      refine mj_bipush (v := 47) dX1_readTerm_31 (by decide) ?_
      refine mj_icmp_eq (tgt := 39) dX1_readTerm_33 (by decide) ⟨fun hc => ?_, fun hc => ?_⟩
      · replace h := h.1 hc
        exact h
      · replace h := h.2 hc
        refine mj_goto (tgt := 71) dX1_readTerm_36 (by decide) ?_
        refine mj_iconst (v := 1) dX1_readTerm_71 (by decide) ?_
        exact mj_retz dX1_readTerm_72 rfl (rfl) ⟨Nat.le_of_ble_eq_true rfl, Nat.le_of_ble_eq_true rfl⟩ h
set_option maxRecDepth 20000 in
set_option maxHeartbeats 1000000 in
theorem b_X1_readTerm_39 {l : Launch} {G : mj_G} {D : Nat} {a0 : Nat} {x1 : Int32} {x2 : Int32} {x3 : Int32} {S : mj_S} {Q : mj_S → Int32 → Prop} (hD : 8 ≤ D) (hk_a0 : m_kd S a0 = 1) (h : ∀ S1 : mj_S, S1 = m_si S a0 2 ((m_gi S a0 2) + (1 : Int32)) → M_X1_readAtom l G D a0 x1 S1 (fun S2 r3 => ((¬ r3 = 0) → M_X1_write l G a0 x3 (0 : Int32) S2 (fun S4 => ∀ v5 : Int32, v5 = x2 + (1 : Int32) → V_X1_readTerm_12 l G D a0 x1 v5 S4 Q)) ∧ ((r3 = 0) → Q S2 (0 : Int32)))) : V_X1_readTerm_39 l G D a0 x1 x2 x3 S Q := by
  refine mj_aload_n dX1_readTerm_39 rfl rfl ?_
  refine mj_dup dX1_readTerm_40 rfl ?_
  refine mj_getI dX1_readTerm_41 fl_X1_27_1 hk_a0 rfl ?_
  refine mj_iconst (v := 1) dX1_readTerm_44 (by decide) ?_
  refine mj_iadd dX1_readTerm_45 ?_
  refine mj_putI dX1_readTerm_46 fl_X1_27_1 hk_a0 (Or.inl rfl) rfl rfl rfl ?_
  obtain ⟨S1, eS1⟩ : ∃ z, z = m_si S a0 2 ((m_gi S a0 2) + (1 : Int32)) := ⟨_, rfl⟩
  rw [← eS1]
  replace h := h S1 eS1
  have hk_a0 : m_kd S1 a0 = 1 := by rw [eS1]; exact hk_a0
  refine mj_aload_n dX1_readTerm_49 rfl rfl ?_
  refine mj_iload_n dX1_readTerm_50 rfl rfl ?_
  refine mj_callVi (as := [.int x1]) (st := []) dX1_readTerm_51 cal_X1_readAtom lk_X1_68 im_X1_readAtom se_X1_readAtom (ci := 1) rfl (by decide) hk_a0 h rfl (Nat.le_of_ble_eq_true rfl) (by omega) ⟨Nat.le_of_ble_eq_true rfl, Nat.le_of_ble_eq_true rfl⟩ (fun S2 r3 h hn_r3 hp => ?_)
  have hk_a0 : m_kd S2 a0 = 1 := m_kd_pre hp hk_a0 (by decide)
  refine mj_if_ne (tgt := 59) dX1_readTerm_54 (by decide) ⟨fun hc => ?_, fun hc => ?_⟩
  · replace h := h.1 hc
    refine mj_aload_n dX1_readTerm_59 rfl rfl ?_
    refine mj_iload_n dX1_readTerm_60 rfl rfl ?_
    refine mj_iconst (v := 0) dX1_readTerm_61 (by decide) ?_
    refine mj_callVv (as := [.int x3, .int (0 : Int32)]) (st := []) dX1_readTerm_62 cal_X1_write lk_X1_44 im_X1_write se_X1_write (ci := 1) rfl (by decide) hk_a0 h rfl (Nat.le_of_ble_eq_true rfl) (by omega) ⟨Nat.le_of_ble_eq_true rfl, Nat.le_of_ble_eq_true rfl⟩ (fun S4 h hp => ?_)
    have hk_a0 : m_kd S4 a0 = 1 := m_kd_pre hp hk_a0 (by decide)
    obtain ⟨v5, ev5⟩ : ∃ z : Int32, z = x2 + (1 : Int32) := ⟨_, rfl⟩
    refine mj_iinc (v := v5) dX1_readTerm_65 rfl (by rw [ev5]; rfl) (by decide) rfl rfl ?_
    replace h := h v5 ev5
    refine mj_goto (tgt := 12) dX1_readTerm_68 (by decide) ?_
    exact mj_lessm [true, true, true, false] rfl h
  · replace h := h.2 hc
    refine mj_iconst (v := 0) dX1_readTerm_57 (by decide) ?_
    exact mj_retz dX1_readTerm_58 rfl (rfl) ⟨Nat.le_of_ble_eq_true rfl, Nat.le_of_ble_eq_true rfl⟩ h
abbrev V_X1_readAtom_0 (l : Launch) (G : mj_G) (D : Nat) (a0 : Nat) (x1 : Int32) (S : mj_S) (Q : mj_S → Int32 → Prop) : Prop := mj_V l G (mj_room (D + 1) 0 0) RX1 cX1_readAtom 4 (some .boolean) false 0 [some (.ref a0), some (.int x1), none, none] [] S 0 0 (mj_std G (some .boolean) (mj_room (D + 1) 0 0) (mj_qi Q))
abbrev V_X1_readAtom_68 (l : Launch) (G : mj_G) (D : Nat) (a0 : Nat) (x2 : Int32) (x3 : Int32) (S : mj_S) (Q : mj_S → Int32 → Prop) : Prop := mj_V l G (mj_room (D + 1) 0 0) RX1 cX1_readAtom 4 (some .boolean) false 68 [some (.ref a0), none, some (.int x2), some (.int x3)] [] S 0 0 (mj_std G (some .boolean) (mj_room (D + 1) 0 0) (mj_qi Q))
theorem e_X1_readAtom {l : Launch} {G : mj_G} {D : Nat} {a0 : Nat} {x1 : Int32} {S : mj_S} {Q : mj_S → Int32 → Prop} (h : V_X1_readAtom_0 l G D a0 x1 S Q) : M_X1_readAtom l G (D + 1) a0 x1 S Q := mj_enter (r := 2) (ini := false) (by decide +kernel) (fun h => by cases h) (fun _ => Nat.le_of_ble_eq_true rfl) rfl h
set_option maxRecDepth 20000 in
set_option maxHeartbeats 1000000 in
theorem b_X1_readAtom_0 {l : Launch} {G : mj_G} {D : Nat} {a0 : Nat} {x1 : Int32} {S : mj_S} {Q : mj_S → Int32 → Prop} (hD : 8 ≤ D) (hk_a0 : m_kd S a0 = 1) (h : M_X5_peek l G a0 S (fun S1 r2 => M_X5_isDigit l G r2 S1 (fun S3 r4 => ((r4 = 0) → ((¬ r2 = (91 : Int32)) → V_X1_readAtom_68 l G D a0 r2 (0 : Int32) S3 Q) ∧ ((r2 = (91 : Int32)) → ((x1 < (6 : Int32)) → ∀ S5 : mj_S, S5 = m_si S3 a0 2 ((m_gi S3 a0 2) + (1 : Int32)) → M_X1_readSum l G D a0 (x1 + (1 : Int32)) S5 (fun S6 r7 => ((r7 = 0) → Q S6 (0 : Int32)) ∧ ((¬ (r7 = 0)) → M_X1_take l G a0 (93 : Int32) S6 (fun S8 r9 => ((r9 = 0) → Q S8 (0 : Int32)) ∧ ((¬ (r9 = 0)) → Q S8 (1 : Int32)))))) ∧ ((¬ (x1 < (6 : Int32))) → Q S3 (0 : Int32)))) ∧ ((¬ (r4 = 0)) → M_X1_readNumber l G a0 S3 (fun S10 r11 => Q S10 r11))))) : V_X1_readAtom_0 l G D a0 x1 S Q := by
  refine mj_aload_n dX1_readAtom_0 rfl rfl ?_
  refine mj_callUi (as := []) (st := []) dX1_readAtom_1 cal_X5_peek lu_X1_30 sa_X1_30 su_X1_30 im_X5_peek rfl (ci := 1) rfl (by decide) hk_a0 h rfl (Nat.le_of_ble_eq_true rfl) (by omega) ⟨Nat.le_of_ble_eq_true rfl, Nat.le_of_ble_eq_true rfl⟩ (fun S1 r2 h hn_r2 hp => ?_)
  have hk_a0 : m_kd S1 a0 = 1 := m_kd_pre hp hk_a0 (by decide)
  refine mj_istore_n dX1_readAtom_4 rfl (by decide) rfl rfl ?_
  refine mj_iload_n dX1_readAtom_5 rfl rfl ?_
  refine mj_callSUi (as := [.int r2]) (st := []) dX1_readAtom_6 cal_X5_isDigit lu_X1_71 sm_X5_isDigit sa_X1_71 rfl h rfl (Nat.le_of_ble_eq_true rfl) (by omega) ⟨Nat.le_of_ble_eq_true rfl, Nat.le_of_ble_eq_true rfl⟩ (fun S3 r4 h hn_r4 hp => ?_)
  have hk_a0 : m_kd S3 a0 = 1 := m_kd_pre hp hk_a0 (by decide)
  refine mj_if_eq (tgt := 17) dX1_readAtom_9 (by decide) ⟨fun hc => ?_, fun hc => ?_⟩
  · replace h := h.1 hc
    refine mj_iload_n dX1_readAtom_17 rfl rfl ?_
    refine mj_bipush (v := 91) dX1_readAtom_18 (by decide) ?_
    refine mj_icmp_ne (tgt := 66) dX1_readAtom_20 (by decide) ⟨fun hc => ?_, fun hc => ?_⟩
    · replace h := h.1 hc
      refine mj_iconst (v := 0) dX1_readAtom_66 (by decide) ?_
      refine mj_istore_n dX1_readAtom_67 rfl (by decide) rfl rfl ?_
      exact mj_lessm [true, false, true, true] rfl h
    · replace h := h.2 hc
      refine mj_iload_n dX1_readAtom_23 rfl rfl ?_
      refine mj_bipush (v := 6) dX1_readAtom_24 (by decide) ?_
      refine mj_icmp_lt (tgt := 31) dX1_readAtom_26 (by decide) ⟨fun hc => ?_, fun hc => ?_⟩
      · replace h := h.1 hc
        refine mj_aload_n dX1_readAtom_31 rfl rfl ?_
        refine mj_dup dX1_readAtom_32 rfl ?_
        refine mj_getI dX1_readAtom_33 fl_X1_27_1 hk_a0 rfl ?_
        refine mj_iconst (v := 1) dX1_readAtom_36 (by decide) ?_
        refine mj_iadd dX1_readAtom_37 ?_
        refine mj_putI dX1_readAtom_38 fl_X1_27_1 hk_a0 (Or.inl rfl) rfl rfl rfl ?_
        obtain ⟨S5, eS5⟩ : ∃ z, z = m_si S3 a0 2 ((m_gi S3 a0 2) + (1 : Int32)) := ⟨_, rfl⟩
        rw [← eS5]
        replace h := h S5 eS5
        have hk_a0 : m_kd S5 a0 = 1 := by rw [eS5]; exact hk_a0
        refine mj_aload_n dX1_readAtom_41 rfl rfl ?_
        refine mj_iload_n dX1_readAtom_42 rfl rfl ?_
        refine mj_iconst (v := 1) dX1_readAtom_43 (by decide) ?_
        refine mj_iadd dX1_readAtom_44 ?_
        refine mj_callVi (as := [.int (x1 + (1 : Int32))]) (st := []) dX1_readAtom_45 cal_X1_readSum lk_X1_38 im_X1_readSum se_X1_readSum (ci := 1) rfl (by decide) hk_a0 h rfl (Nat.le_of_ble_eq_true rfl) (by omega) ⟨Nat.le_of_ble_eq_true rfl, Nat.le_of_ble_eq_true rfl⟩ (fun S6 r7 h hn_r7 hp => ?_)
        have hk_a0 : m_kd S6 a0 = 1 := m_kd_pre hp hk_a0 (by decide)
        refine mj_if_eq (tgt := 64) dX1_readAtom_48 (by decide) ⟨fun hc => ?_, fun hc => ?_⟩
        · replace h := h.1 hc
          refine mj_iconst (v := 0) dX1_readAtom_64 (by decide) ?_
          exact mj_retz dX1_readAtom_65 rfl (rfl) ⟨Nat.le_of_ble_eq_true rfl, Nat.le_of_ble_eq_true rfl⟩ h
        · replace h := h.2 hc
          refine mj_aload_n dX1_readAtom_51 rfl rfl ?_
          refine mj_bipush (v := 93) dX1_readAtom_52 (by decide) ?_
          refine mj_callVi (as := [.int (93 : Int32)]) (st := []) dX1_readAtom_54 cal_X1_take lk_X1_34 im_X1_take se_X1_take (ci := 1) rfl (by decide) hk_a0 h rfl (Nat.le_of_ble_eq_true rfl) (by omega) ⟨Nat.le_of_ble_eq_true rfl, Nat.le_of_ble_eq_true rfl⟩ (fun S8 r9 h hn_r9 hp => ?_)
          have hk_a0 : m_kd S8 a0 = 1 := m_kd_pre hp hk_a0 (by decide)
          refine mj_if_eq (tgt := 64) dX1_readAtom_57 (by decide) ⟨fun hc => ?_, fun hc => ?_⟩
          · replace h := h.1 hc
            refine mj_iconst (v := 0) dX1_readAtom_64 (by decide) ?_
            exact mj_retz dX1_readAtom_65 rfl (rfl) ⟨Nat.le_of_ble_eq_true rfl, Nat.le_of_ble_eq_true rfl⟩ h
          · replace h := h.2 hc
            refine mj_iconst (v := 1) dX1_readAtom_60 (by decide) ?_
            refine mj_goto (tgt := 65) dX1_readAtom_61 (by decide) ?_
            exact mj_retz dX1_readAtom_65 rfl (rfl) ⟨Nat.le_of_ble_eq_true rfl, Nat.le_of_ble_eq_true rfl⟩ h
      · replace h := h.2 hc
        refine mj_iconst (v := 0) dX1_readAtom_29 (by decide) ?_
        exact mj_retz dX1_readAtom_30 rfl (rfl) ⟨Nat.le_of_ble_eq_true rfl, Nat.le_of_ble_eq_true rfl⟩ h
  · replace h := h.2 hc
    refine mj_aload_n dX1_readAtom_12 rfl rfl ?_
    refine mj_callVi (as := []) (st := []) dX1_readAtom_13 cal_X1_readNumber lk_X1_74 im_X1_readNumber se_X1_readNumber (ci := 1) rfl (by decide) hk_a0 h rfl (Nat.le_of_ble_eq_true rfl) (by omega) ⟨Nat.le_of_ble_eq_true rfl, Nat.le_of_ble_eq_true rfl⟩ (fun S10 r11 h hn_r11 hp => ?_)
    have hk_a0 : m_kd S10 a0 = 1 := m_kd_pre hp hk_a0 (by decide)
    exact mj_retz dX1_readAtom_16 rfl (hn_r11) ⟨Nat.le_of_ble_eq_true rfl, Nat.le_of_ble_eq_true rfl⟩ h
set_option maxRecDepth 20000 in
set_option maxHeartbeats 1000000 in
theorem b_X1_readAtom_68 {l : Launch} {G : mj_G} {D : Nat} {a0 : Nat} {x2 : Int32} {x3 : Int32} {S : mj_S} {Q : mj_S → Int32 → Prop} (hD : 8 ≤ D) (hk_a0 : m_kd S a0 = 1) (h : (((6 : Int32) ≤ x3) → Q S (0 : Int32)) ∧ ((¬ ((6 : Int32) ≤ x3)) → vp_in x3 (m_ln S 4) ∧ (((¬ (m_gi S 4 (x3).toNatClampNeg) = x2) → ∀ v1 : Int32, v1 = x3 + (1 : Int32) → V_X1_readAtom_68 l G D a0 x2 v1 S Q) ∧ (((m_gi S 4 (x3).toNatClampNeg) = x2) → ∀ S2 : mj_S, S2 = m_si S a0 2 ((m_gi S a0 2) + (1 : Int32)) → M_X1_write l G a0 (2 : Int32) x3 S2 (fun S3 => Q S3 (1 : Int32)))))) : V_X1_readAtom_68 l G D a0 x2 x3 S Q := by
  refine mj_iload_n dX1_readAtom_68 rfl rfl ?_
  refine mj_bipush (v := 6) dX1_readAtom_69 (by decide) ?_
  refine mj_icmp_ge (tgt := 107) dX1_readAtom_71 (by decide) ⟨fun hc => ?_, fun hc => ?_⟩
  · replace h := h.1 hc
    refine mj_iconst (v := 0) dX1_readAtom_107 (by decide) ?_
    exact mj_retz dX1_readAtom_108 rfl (rfl) ⟨Nat.le_of_ble_eq_true rfl, Nat.le_of_ble_eq_true rfl⟩ h
  · replace h := h.2 hc
    refine mj_gets (i := 4) (t := 111) dX1_readAtom_74 (by decide) rfl gs_X1_77 (fun _ => rfl) (fun hk_t4 _ => ?_)
    refine mj_iload_n dX1_readAtom_77 rfl rfl ?_
    refine mj_cald dX1_readAtom_78 hk_t4 ⟨h.1, ?_⟩
    replace h := h.2
    refine mj_iload_n dX1_readAtom_79 rfl rfl ?_
    refine mj_icmp_ne (tgt := 101) dX1_readAtom_80 (by decide) ⟨fun hc => ?_, fun hc => ?_⟩
    · replace h := h.1 hc
      obtain ⟨v1, ev1⟩ : ∃ z : Int32, z = x3 + (1 : Int32) := ⟨_, rfl⟩
      refine mj_iinc (v := v1) dX1_readAtom_101 rfl (by rw [ev1]; rfl) (by decide) rfl rfl ?_
      replace h := h v1 ev1
      refine mj_goto (tgt := 68) dX1_readAtom_104 (by decide) ?_
      exact h
    · replace h := h.2 hc
      refine mj_aload_n dX1_readAtom_83 rfl rfl ?_
      refine mj_dup dX1_readAtom_84 rfl ?_
      refine mj_getI dX1_readAtom_85 fl_X1_27_1 hk_a0 rfl ?_
      refine mj_iconst (v := 1) dX1_readAtom_88 (by decide) ?_
      refine mj_iadd dX1_readAtom_89 ?_
      refine mj_putI dX1_readAtom_90 fl_X1_27_1 hk_a0 (Or.inl rfl) rfl rfl rfl ?_
      obtain ⟨S2, eS2⟩ : ∃ z, z = m_si S a0 2 ((m_gi S a0 2) + (1 : Int32)) := ⟨_, rfl⟩
      rw [← eS2]
      replace h := h S2 eS2
      have hk_a0 : m_kd S2 a0 = 1 := by rw [eS2]; exact hk_a0
      have hk_t4 : m_kd S2 4 = 111 := by rw [eS2]; exact hk_t4
      refine mj_aload_n dX1_readAtom_93 rfl rfl ?_
      refine mj_iconst (v := 2) dX1_readAtom_94 (by decide) ?_
      refine mj_iload_n dX1_readAtom_95 rfl rfl ?_
      refine mj_callVv (as := [.int (2 : Int32), .int x3]) (st := []) dX1_readAtom_96 cal_X1_write lk_X1_44 im_X1_write se_X1_write (ci := 1) rfl (by decide) hk_a0 h rfl (Nat.le_of_ble_eq_true rfl) (by omega) ⟨Nat.le_of_ble_eq_true rfl, Nat.le_of_ble_eq_true rfl⟩ (fun S3 h hp => ?_)
      have hk_a0 : m_kd S3 a0 = 1 := m_kd_pre hp hk_a0 (by decide)
      have hk_t4 : m_kd S3 4 = 111 := m_kd_pre hp hk_t4 (by decide)
      refine mj_iconst (v := 1) dX1_readAtom_99 (by decide) ?_
      exact mj_retz dX1_readAtom_100 rfl (rfl) ⟨Nat.le_of_ble_eq_true rfl, Nat.le_of_ble_eq_true rfl⟩ h
abbrev V_X1_readNumber_0 (l : Launch) (G : mj_G) (a0 : Nat) (S : mj_S) (Q : mj_S → Int32 → Prop) : Prop := mj_V l G (mj_room 2 0 0) RX1 cX1_readNumber 3 (some .boolean) false 0 [some (.ref a0), none, none] [] S 0 0 (mj_std G (some .boolean) (mj_room 2 0 0) (mj_qi Q))
abbrev V_X1_readNumber_4 (l : Launch) (G : mj_G) (a0 : Nat) (x1 : Int32) (x2 : Int32) (S : mj_S) (Q : mj_S → Int32 → Prop) : Prop := mj_V l G (mj_room 2 0 0) RX1 cX1_readNumber 3 (some .boolean) false 4 [some (.ref a0), some (.int x1), some (.int x2)] [] S 0 0 (mj_std G (some .boolean) (mj_room 2 0 0) (mj_qi Q))
abbrev V_X1_readNumber_71 (l : Launch) (G : mj_G) (a0 : Nat) (x1 : Int32) (S : mj_S) (Q : mj_S → Int32 → Prop) : Prop := mj_V l G (mj_room 2 0 0) RX1 cX1_readNumber 3 (some .boolean) false 71 [some (.ref a0), some (.int x1), none] [] S 0 0 (mj_std G (some .boolean) (mj_room 2 0 0) (mj_qi Q))
theorem e_X1_readNumber {l : Launch} {G : mj_G} {a0 : Nat} {S : mj_S} {Q : mj_S → Int32 → Prop} (h : V_X1_readNumber_0 l G a0 S Q) : M_X1_readNumber l G a0 S Q := mj_enter (r := 2) (ini := false) (by decide +kernel) (fun h => by cases h) (fun _ => Nat.le_of_ble_eq_true rfl) rfl h
set_option maxRecDepth 20000 in
set_option maxHeartbeats 1000000 in
theorem b_X1_readNumber_0 {l : Launch} {G : mj_G} {a0 : Nat} {S : mj_S} {Q : mj_S → Int32 → Prop} (hk_a0 : m_kd S a0 = 1) (h : V_X1_readNumber_4 l G a0 (0 : Int32) (0 : Int32) S Q) : V_X1_readNumber_0 l G a0 S Q := by
  refine mj_iconst (v := 0) dX1_readNumber_0 (by decide) ?_
  refine mj_istore_n dX1_readNumber_1 rfl (by decide) rfl rfl ?_
  refine mj_iconst (v := 0) dX1_readNumber_2 (by decide) ?_
  refine mj_istore_n dX1_readNumber_3 rfl (by decide) rfl rfl ?_
  exact h
set_option maxRecDepth 20000 in
set_option maxHeartbeats 1000000 in
theorem b_X1_readNumber_4 {l : Launch} {G : mj_G} {a0 : Nat} {x1 : Int32} {x2 : Int32} {S : mj_S} {Q : mj_S → Int32 → Prop} (hk_a0 : m_kd S a0 = 1) (h : (((m_gi S a0 1) ≤ (m_gi S a0 2)) → V_X1_readNumber_71 l G a0 x1 S Q) ∧ ((¬ ((m_gi S a0 1) ≤ (m_gi S a0 2))) → ∃ b1, m_gp S a0 0 = some b1 ∧ (vp_in (m_gi S a0 2) (m_ln S b1) ∧ (M_X5_isDigit l G (m_gi S b1 ((m_gi S a0 2)).toNatClampNeg) S (fun S2 r3 => ((r3 = 0) → V_X1_readNumber_71 l G a0 x1 S2 Q) ∧ ((¬ (r3 = 0)) → ((¬ x2 = (4 : Int32)) → ∃ b4, m_gp S2 a0 0 = some b4 ∧ (vp_in (m_gi S2 a0 2) (m_ln S2 b4) ∧ (∀ v5 : Int32, v5 = (((x1 * (10 : Int32)) + (m_gi S2 b4 ((m_gi S2 a0 2)).toNatClampNeg)) - (48 : Int32)) → ∀ S6 : mj_S, S6 = m_si S2 a0 2 ((m_gi S2 a0 2) + (1 : Int32)) → ∀ v7 : Int32, v7 = x2 + (1 : Int32) → V_X1_readNumber_4 l G a0 v5 v7 S6 Q))) ∧ ((x2 = (4 : Int32)) → Q S2 (0 : Int32)))))))) : V_X1_readNumber_4 l G a0 x1 x2 S Q := by
  refine mj_aload_n dX1_readNumber_4 rfl rfl ?_
  refine mj_getI dX1_readNumber_5 fl_X1_27_1 hk_a0 rfl ?_
  refine mj_aload_n dX1_readNumber_8 rfl rfl ?_
  refine mj_getI dX1_readNumber_9 fl_X1_81_1 hk_a0 rfl ?_
  refine mj_icmp_ge (tgt := 71) dX1_readNumber_12 (by decide) ⟨fun hc => ?_, fun hc => ?_⟩
  · replace h := h.1 hc
    exact mj_lessm [true, true, false] rfl h
  · replace h := h.2 hc
    refine mj_aload_n dX1_readNumber_15 rfl rfl ?_
    obtain ⟨b1, eb1, h⟩ := h
    refine mj_getP dX1_readNumber_16 fl_X1_84_1 hk_a0 rfl ⟨b1, eb1, fun hk_b1 => ?_⟩
    refine mj_aload_n dX1_readNumber_19 rfl rfl ?_
    refine mj_getI dX1_readNumber_20 fl_X1_27_1 hk_a0 rfl ?_
    refine mj_iald dX1_readNumber_23 (Or.inl hk_b1) ⟨h.1, ?_⟩
    replace h := h.2
    refine mj_callSUi (as := [.int (m_gi S b1 ((m_gi S a0 2)).toNatClampNeg)]) (st := []) dX1_readNumber_24 cal_X5_isDigit lu_X1_71 sm_X5_isDigit sa_X1_71 rfl h rfl (Nat.le_of_ble_eq_true rfl) (by decide) ⟨Nat.le_of_ble_eq_true rfl, Nat.le_of_ble_eq_true rfl⟩ (fun S2 r3 h hn_r3 hp => ?_)
    have hk_a0 : m_kd S2 a0 = 1 := m_kd_pre hp hk_a0 (by decide)
    have hk_b1 : m_kd S2 b1 = 100 := m_kd_pre hp hk_b1 (by decide)
    refine mj_if_eq (tgt := 71) dX1_readNumber_27 (by decide) ⟨fun hc => ?_, fun hc => ?_⟩
    · replace h := h.1 hc
      exact mj_lessm [true, true, false] rfl h
    · replace h := h.2 hc
      refine mj_iload_n dX1_readNumber_30 rfl rfl ?_
      refine mj_iconst (v := 4) dX1_readNumber_31 (by decide) ?_
      refine mj_icmp_ne (tgt := 37) dX1_readNumber_32 (by decide) ⟨fun hc => ?_, fun hc => ?_⟩
      · replace h := h.1 hc
        refine mj_iload_n dX1_readNumber_37 rfl rfl ?_
        refine mj_bipush (v := 10) dX1_readNumber_38 (by decide) ?_
        refine mj_imul dX1_readNumber_40 ?_
        refine mj_aload_n dX1_readNumber_41 rfl rfl ?_
        obtain ⟨b4, eb4, h⟩ := h
        refine mj_getP dX1_readNumber_42 fl_X1_84_1 hk_a0 rfl ⟨b4, eb4, fun hk_b4 => ?_⟩
        refine mj_aload_n dX1_readNumber_45 rfl rfl ?_
        refine mj_getI dX1_readNumber_46 fl_X1_27_1 hk_a0 rfl ?_
        refine mj_iald dX1_readNumber_49 (Or.inl hk_b4) ⟨h.1, ?_⟩
        replace h := h.2
        refine mj_iadd dX1_readNumber_50 ?_
        refine mj_bipush (v := 48) dX1_readNumber_51 (by decide) ?_
        refine mj_isub dX1_readNumber_53 ?_
        refine mj_nmi (fun v5 ev5 => ?_)
        replace h := h v5 ev5
        refine mj_istore_n dX1_readNumber_54 rfl (by decide) rfl rfl ?_
        refine mj_aload_n dX1_readNumber_55 rfl rfl ?_
        refine mj_dup dX1_readNumber_56 rfl ?_
        refine mj_getI dX1_readNumber_57 fl_X1_27_1 hk_a0 rfl ?_
        refine mj_iconst (v := 1) dX1_readNumber_60 (by decide) ?_
        refine mj_iadd dX1_readNumber_61 ?_
        refine mj_putI dX1_readNumber_62 fl_X1_27_1 hk_a0 (Or.inl rfl) rfl rfl rfl ?_
        obtain ⟨S6, eS6⟩ : ∃ z, z = m_si S2 a0 2 ((m_gi S2 a0 2) + (1 : Int32)) := ⟨_, rfl⟩
        rw [← eS6]
        replace h := h S6 eS6
        have hk_a0 : m_kd S6 a0 = 1 := by rw [eS6]; exact hk_a0
        have hk_b1 : m_kd S6 b1 = 100 := by rw [eS6]; exact hk_b1
        have hk_b4 : m_kd S6 b4 = 100 := by rw [eS6]; exact hk_b4
        obtain ⟨v7, ev7⟩ : ∃ z : Int32, z = x2 + (1 : Int32) := ⟨_, rfl⟩
        refine mj_iinc (v := v7) dX1_readNumber_65 rfl (by rw [ev7]; rfl) (by decide) rfl rfl ?_
        replace h := h v7 ev7
        refine mj_goto (tgt := 4) dX1_readNumber_68 (by decide) ?_
        exact h
      · replace h := h.2 hc
        refine mj_iconst (v := 0) dX1_readNumber_35 (by decide) ?_
        exact mj_retz dX1_readNumber_36 rfl (rfl) ⟨Nat.le_of_ble_eq_true rfl, Nat.le_of_ble_eq_true rfl⟩ h
set_option maxRecDepth 20000 in
set_option maxHeartbeats 1000000 in
theorem b_X1_readNumber_71 {l : Launch} {G : mj_G} {a0 : Nat} {x1 : Int32} {S : mj_S} {Q : mj_S → Int32 → Prop} (hk_a0 : m_kd S a0 = 1) (h : M_X1_write l G a0 (1 : Int32) x1 S (fun S1 => Q S1 (1 : Int32))) : V_X1_readNumber_71 l G a0 x1 S Q := by
  refine mj_aload_n dX1_readNumber_71 rfl rfl ?_
  refine mj_iconst (v := 1) dX1_readNumber_72 (by decide) ?_
  refine mj_iload_n dX1_readNumber_73 rfl rfl ?_
  refine mj_callVv (as := [.int (1 : Int32), .int x1]) (st := []) dX1_readNumber_74 cal_X1_write lk_X1_44 im_X1_write se_X1_write (ci := 1) rfl (by decide) hk_a0 h rfl (Nat.le_of_ble_eq_true rfl) (by decide) ⟨Nat.le_of_ble_eq_true rfl, Nat.le_of_ble_eq_true rfl⟩ (fun S1 h hp => ?_)
  have hk_a0 : m_kd S1 a0 = 1 := m_kd_pre hp hk_a0 (by decide)
  refine mj_iconst (v := 1) dX1_readNumber_77 (by decide) ?_
  exact mj_retz dX1_readNumber_78 rfl (rfl) ⟨Nat.le_of_ble_eq_true rfl, Nat.le_of_ble_eq_true rfl⟩ h
