abbrev V_X0_init_0 (l : Launch) (G : mj_G) (a0 : Nat) (S : mj_S) (Q : mj_S → Prop) : Prop := mj_V l G (mj_room 1 0 0) RX0 cX0_init 1 none true 0 [some (.ref a0)] [] S 0 0 (mj_std G none (mj_room 1 0 0) (mj_qv Q))
theorem e_X0_init {l : Launch} {G : mj_G} {a0 : Nat} {S : mj_S} {Q : mj_S → Prop} (h : V_X0_init_0 l G a0 S Q) : M_X0_init l G a0 S Q := mj_enter (r := 0) (ini := true) (by decide +kernel) (fun _ => rfl) (fun _ => Nat.le_of_ble_eq_true rfl) rfl h
set_option maxRecDepth 20000 in
set_option maxHeartbeats 1000000 in
theorem b_X0_init_0 {l : Launch} {G : mj_G} {a0 : Nat} {S : mj_S} {Q : mj_S → Prop} (hk_a0 : m_kd S a0 = 0) (h : ∀ S1 : mj_S, S1 = m_si S a0 0 (0 : Int32) → ∀ S2 : mj_S, S2 = m_si S1 a0 1 (0 : Int32) → ∀ S3 : mj_S, S3 = m_si S2 a0 2 (0 : Int32) → Q S3) : V_X0_init_0 l G a0 S Q := by
  refine mj_aload_n dX0_init_0 rfl rfl ?_
  refine mj_objInit (st := []) dX0_init_1 oi_X0_3 oi_im oi_co (by decide) (Nat.le_of_ble_eq_true rfl) ?_
  refine mj_aload_n dX0_init_4 rfl rfl ?_
  refine mj_iconst (v := 0) dX0_init_5 (by decide) ?_
  refine mj_putI dX0_init_6 fl_X0_9_0 hk_a0 (Or.inl rfl) rfl rfl rfl ?_
  obtain ⟨S1, eS1⟩ : ∃ z, z = m_si S a0 0 (0 : Int32) := ⟨_, rfl⟩
  rw [← eS1]
  replace h := h S1 eS1
  have hk_a0 : m_kd S1 a0 = 0 := by rw [eS1]; exact hk_a0
  refine mj_aload_n dX0_init_9 rfl rfl ?_
  refine mj_iconst (v := 0) dX0_init_10 (by decide) ?_
  refine mj_putI dX0_init_11 fl_X0_15_0 hk_a0 (Or.inl rfl) rfl rfl rfl ?_
  obtain ⟨S2, eS2⟩ : ∃ z, z = m_si S1 a0 1 (0 : Int32) := ⟨_, rfl⟩
  rw [← eS2]
  replace h := h S2 eS2
  have hk_a0 : m_kd S2 a0 = 0 := by rw [eS2]; exact hk_a0
  refine mj_aload_n dX0_init_14 rfl rfl ?_
  refine mj_iconst (v := 0) dX0_init_15 (by decide) ?_
  refine mj_putI dX0_init_16 fl_X0_18_0 hk_a0 (Or.inl rfl) rfl rfl rfl ?_
  obtain ⟨S3, eS3⟩ : ∃ z, z = m_si S2 a0 2 (0 : Int32) := ⟨_, rfl⟩
  rw [← eS3]
  replace h := h S3 eS3
  have hk_a0 : m_kd S3 a0 = 0 := by rw [eS3]; exact hk_a0
  exact mj_retv dX0_init_19 rfl ⟨Nat.le_of_ble_eq_true rfl, Nat.le_of_ble_eq_true rfl⟩ h
abbrev V_X0_part_0 (l : Launch) (G : mj_G) (a0 : Nat) (a1 : Nat) (x2 : Int32) (S : mj_S) (Q : mj_S → Prop) : Prop := mj_V l G (mj_room 2 0 0) RX0 cX0_part 4 none false 0 [some (.ref a0), some (.ref a1), some (.int x2), none] [] S 0 0 (mj_std G none (mj_room 2 0 0) (mj_qv Q))
abbrev V_X0_part_26 (l : Launch) (G : mj_G) (a0 : Nat) (a1 : Nat) (x2 : Int32) (x3 : Int32) (S : mj_S) (Q : mj_S → Prop) : Prop := mj_V l G (mj_room 2 0 0) RX0 cX0_part 4 none false 26 [some (.ref a0), some (.ref a1), some (.int x2), some (.int x3)] [] S 0 0 (mj_std G none (mj_room 2 0 0) (mj_qv Q))
theorem e_X0_part {l : Launch} {G : mj_G} {a0 : Nat} {a1 : Nat} {x2 : Int32} {S : mj_S} {Q : mj_S → Prop} (h : V_X0_part_0 l G a0 a1 x2 S Q) : M_X0_part l G a0 a1 x2 S Q := mj_enter (r := 1) (ini := false) (by decide +kernel) (fun h => by cases h) (fun _ => Nat.le_of_ble_eq_true rfl) rfl h
set_option maxRecDepth 20000 in
set_option maxHeartbeats 1000000 in
theorem b_X0_part_0 {l : Launch} {G : mj_G} {a0 : Nat} {a1 : Nat} {x2 : Int32} {S : mj_S} {Q : mj_S → Prop} (hk_a0 : m_kd S a0 = 0) (hk_a1 : m_kd S a1 = 5) (h : ∀ S1 : mj_S, S1 = m_si S a0 0 (m_gi S a1 0) → ∀ S2 : mj_S, S2 = m_si S1 a0 1 (m_gi S1 a1 5) → ∀ S3 : mj_S, S3 = m_si S2 a0 2 (m_gi S2 a1 6) → V_X0_part_26 l G a0 a1 x2 (0 : Int32) S3 Q) : V_X0_part_0 l G a0 a1 x2 S Q := by
  refine mj_aload_n dX0_part_0 rfl rfl ?_
  refine mj_aload_n dX0_part_1 rfl rfl ?_
  refine mj_getI dX0_part_2 fl_X0_21_5 hk_a1 rfl ?_
  refine mj_putI dX0_part_5 fl_X0_9_0 hk_a0 (Or.inl rfl) rfl rfl rfl ?_
  obtain ⟨S1, eS1⟩ : ∃ z, z = m_si S a0 0 (m_gi S a1 0) := ⟨_, rfl⟩
  rw [← eS1]
  replace h := h S1 eS1
  have hk_a0 : m_kd S1 a0 = 0 := by rw [eS1]; exact hk_a0
  have hk_a1 : m_kd S1 a1 = 5 := by rw [eS1]; exact hk_a1
  refine mj_aload_n dX0_part_8 rfl rfl ?_
  refine mj_aload_n dX0_part_9 rfl rfl ?_
  refine mj_getI dX0_part_10 fl_X0_24_5 hk_a1 rfl ?_
  refine mj_putI dX0_part_13 fl_X0_15_0 hk_a0 (Or.inl rfl) rfl rfl rfl ?_
  obtain ⟨S2, eS2⟩ : ∃ z, z = m_si S1 a0 1 (m_gi S1 a1 5) := ⟨_, rfl⟩
  rw [← eS2]
  replace h := h S2 eS2
  have hk_a0 : m_kd S2 a0 = 0 := by rw [eS2]; exact hk_a0
  have hk_a1 : m_kd S2 a1 = 5 := by rw [eS2]; exact hk_a1
  refine mj_aload_n dX0_part_16 rfl rfl ?_
  refine mj_aload_n dX0_part_17 rfl rfl ?_
  refine mj_getI dX0_part_18 fl_X0_27_5 hk_a1 rfl ?_
  refine mj_putI dX0_part_21 fl_X0_18_0 hk_a0 (Or.inl rfl) rfl rfl rfl ?_
  obtain ⟨S3, eS3⟩ : ∃ z, z = m_si S2 a0 2 (m_gi S2 a1 6) := ⟨_, rfl⟩
  rw [← eS3]
  replace h := h S3 eS3
  have hk_a0 : m_kd S3 a0 = 0 := by rw [eS3]; exact hk_a0
  have hk_a1 : m_kd S3 a1 = 5 := by rw [eS3]; exact hk_a1
  refine mj_iconst (v := 0) dX0_part_24 (by decide) ?_
  refine mj_istore_n dX0_part_25 rfl (by decide) rfl rfl ?_
  exact h
set_option maxRecDepth 20000 in
set_option maxHeartbeats 1000000 in
theorem b_X0_part_26 {l : Launch} {G : mj_G} {a0 : Nat} {a1 : Nat} {x2 : Int32} {x3 : Int32} {S : mj_S} {Q : mj_S → Prop} (hk_a0 : m_kd S a0 = 0) (hk_a1 : m_kd S a1 = 5) (h : (((m_gi S a1 7) ≤ x3) → Q S) ∧ ((¬ ((m_gi S a1 7) ≤ x3)) → M_X10_has l G x2 x3 S (fun S1 r2 => ((¬ r2 = 0) → ∃ b3, m_gp S1 a1 10 = some b3 ∧ (vp_in x3 (m_ln S1 b3) ∧ (((¬ (m_gi S1 b3 (x3).toNatClampNeg) = 0) → ∃ b4, m_gp S1 a1 8 = some b4 ∧ (vp_in x3 (m_ln S1 b4) ∧ (∀ S5 : mj_S, S5 = m_si S1 a0 2 ((m_gi S1 a0 2) &&& (((1 : Int32) <<< ((m_gi S1 b4 (x3).toNatClampNeg) &&& 31)) ^^^ (-1 : Int32))) → ∀ v6 : Int32, v6 = x3 + (1 : Int32) → V_X0_part_26 l G a0 a1 x2 v6 S5 Q))) ∧ (((m_gi S1 b3 (x3).toNatClampNeg) = 0) → ∃ b7, m_gp S1 a1 8 = some b7 ∧ (vp_in x3 (m_ln S1 b7) ∧ (∀ S8 : mj_S, S8 = m_si S1 a0 1 ((m_gi S1 a0 1) &&& (((1 : Int32) <<< ((m_gi S1 b7 (x3).toNatClampNeg) &&& 31)) ^^^ (-1 : Int32))) → ∀ v9 : Int32, v9 = x3 + (1 : Int32) → V_X0_part_26 l G a0 a1 x2 v9 S8 Q)))))) ∧ ((r2 = 0) → ∀ v10 : Int32, v10 = x3 + (1 : Int32) → V_X0_part_26 l G a0 a1 x2 v10 S1 Q)))) : V_X0_part_26 l G a0 a1 x2 x3 S Q := by
  refine mj_iload_n dX0_part_26 rfl rfl ?_
  refine mj_aload_n dX0_part_27 rfl rfl ?_
  refine mj_getI dX0_part_28 fl_X0_30_5 hk_a1 rfl ?_
  refine mj_icmp_ge (tgt := 101) dX0_part_31 (by decide) ⟨fun hc => ?_, fun hc => ?_⟩
  · replace h := h.1 hc
    exact mj_retv dX0_part_101 rfl ⟨Nat.le_of_ble_eq_true rfl, Nat.le_of_ble_eq_true rfl⟩ h
  · replace h := h.2 hc
    refine mj_iload_n dX0_part_34 rfl rfl ?_
    refine mj_iload_n dX0_part_35 rfl rfl ?_
    refine mj_callNi (as := [.int x2, .int x3]) (st := []) dX0_part_36 cal_X10_has ln_X0_33 sm_X10_has h rfl (Nat.le_of_ble_eq_true rfl) (by decide) ⟨Nat.le_of_ble_eq_true rfl, Nat.le_of_ble_eq_true rfl⟩ (fun S1 r2 h hn_r2 hp => ?_)
    have hk_a0 : m_kd S1 a0 = 0 := m_kd_pre hp hk_a0 (by decide)
    have hk_a1 : m_kd S1 a1 = 5 := m_kd_pre hp hk_a1 (by decide)
    refine mj_if_ne (tgt := 45) dX0_part_39 (by decide) ⟨fun hc => ?_, fun hc => ?_⟩
    · replace h := h.1 hc
      refine mj_aload_n dX0_part_45 rfl rfl ?_
      obtain ⟨b3, eb3, h⟩ := h
      refine mj_getP dX0_part_46 fl_X0_37_5 hk_a1 rfl ⟨b3, eb3, fun hk_b3 => ?_⟩
      refine mj_iload_n dX0_part_49 rfl rfl ?_
      refine mj_iald dX0_part_50 (Or.inl hk_b3) ⟨h.1, ?_⟩
      replace h := h.2
      refine mj_if_ne (tgt := 76) dX0_part_51 (by decide) ⟨fun hc => ?_, fun hc => ?_⟩
      · replace h := h.1 hc
        refine mj_aload_n dX0_part_76 rfl rfl ?_
        refine mj_dup dX0_part_77 rfl ?_
        refine mj_getI dX0_part_78 fl_X0_18_0 hk_a0 rfl ?_
        refine mj_iconst (v := 1) dX0_part_81 (by decide) ?_
        refine mj_aload_n dX0_part_82 rfl rfl ?_
        obtain ⟨b4, eb4, h⟩ := h
        refine mj_getP dX0_part_83 fl_X0_41_5 hk_a1 rfl ⟨b4, eb4, fun hk_b4 => ?_⟩
        refine mj_iload_n dX0_part_86 rfl rfl ?_
        refine mj_iald dX0_part_87 (Or.inl hk_b4) ⟨h.1, ?_⟩
        replace h := h.2
        refine mj_ishl dX0_part_88 ?_
        refine mj_iconst (v := (-1)) dX0_part_89 (by decide) ?_
        refine mj_ixor dX0_part_90 ?_
        refine mj_iand dX0_part_91 ?_
        refine mj_putI dX0_part_92 fl_X0_18_0 hk_a0 (Or.inl rfl) rfl rfl rfl ?_
        obtain ⟨S5, eS5⟩ : ∃ z, z = m_si S1 a0 2 ((m_gi S1 a0 2) &&& (((1 : Int32) <<< ((m_gi S1 b4 (x3).toNatClampNeg) &&& 31)) ^^^ (-1 : Int32))) := ⟨_, rfl⟩
        rw [← eS5]
        replace h := h S5 eS5
        have hk_a0 : m_kd S5 a0 = 0 := by rw [eS5]; exact hk_a0
        have hk_a1 : m_kd S5 a1 = 5 := by rw [eS5]; exact hk_a1
        have hk_b3 : m_kd S5 b3 = 100 := by rw [eS5]; exact hk_b3
        have hk_b4 : m_kd S5 b4 = 100 := by rw [eS5]; exact hk_b4
        obtain ⟨v6, ev6⟩ : ∃ z : Int32, z = x3 + (1 : Int32) := ⟨_, rfl⟩
        refine mj_iinc (v := v6) dX0_part_95 rfl (by rw [ev6]; rfl) (by decide) rfl rfl ?_
        replace h := h v6 ev6
        refine mj_goto (tgt := 26) dX0_part_98 (by decide) ?_
        exact h
      · replace h := h.2 hc
        refine mj_aload_n dX0_part_54 rfl rfl ?_
        refine mj_dup dX0_part_55 rfl ?_
        refine mj_getI dX0_part_56 fl_X0_15_0 hk_a0 rfl ?_
        refine mj_iconst (v := 1) dX0_part_59 (by decide) ?_
        refine mj_aload_n dX0_part_60 rfl rfl ?_
        obtain ⟨b7, eb7, h⟩ := h
        refine mj_getP dX0_part_61 fl_X0_41_5 hk_a1 rfl ⟨b7, eb7, fun hk_b7 => ?_⟩
        refine mj_iload_n dX0_part_64 rfl rfl ?_
        refine mj_iald dX0_part_65 (Or.inl hk_b7) ⟨h.1, ?_⟩
        replace h := h.2
        refine mj_ishl dX0_part_66 ?_
        refine mj_iconst (v := (-1)) dX0_part_67 (by decide) ?_
        refine mj_ixor dX0_part_68 ?_
        refine mj_iand dX0_part_69 ?_
        refine mj_putI dX0_part_70 fl_X0_15_0 hk_a0 (Or.inl rfl) rfl rfl rfl ?_
        obtain ⟨S8, eS8⟩ : ∃ z, z = m_si S1 a0 1 ((m_gi S1 a0 1) &&& (((1 : Int32) <<< ((m_gi S1 b7 (x3).toNatClampNeg) &&& 31)) ^^^ (-1 : Int32))) := ⟨_, rfl⟩
        rw [← eS8]
        replace h := h S8 eS8
        have hk_a0 : m_kd S8 a0 = 0 := by rw [eS8]; exact hk_a0
        have hk_a1 : m_kd S8 a1 = 5 := by rw [eS8]; exact hk_a1
        have hk_b3 : m_kd S8 b3 = 100 := by rw [eS8]; exact hk_b3
        have hk_b7 : m_kd S8 b7 = 100 := by rw [eS8]; exact hk_b7
        refine mj_goto (tgt := 95) dX0_part_73 (by decide) ?_
        obtain ⟨v9, ev9⟩ : ∃ z : Int32, z = x3 + (1 : Int32) := ⟨_, rfl⟩
        refine mj_iinc (v := v9) dX0_part_95 rfl (by rw [ev9]; rfl) (by decide) rfl rfl ?_
        replace h := h v9 ev9
        refine mj_goto (tgt := 26) dX0_part_98 (by decide) ?_
        exact h
    · replace h := h.2 hc
      refine mj_goto (tgt := 95) dX0_part_42 (by decide) ?_
      obtain ⟨v10, ev10⟩ : ∃ z : Int32, z = x3 + (1 : Int32) := ⟨_, rfl⟩
      refine mj_iinc (v := v10) dX0_part_95 rfl (by rw [ev10]; rfl) (by decide) rfl rfl ?_
      replace h := h v10 ev10
      refine mj_goto (tgt := 26) dX0_part_98 (by decide) ?_
      exact h
abbrev V_X0_reach_0 (l : Launch) (G : mj_G) (a0 : Nat) (x1 : Int32) (S : mj_S) (Q : mj_S → Int32 → Prop) : Prop := mj_V l G (mj_room 1 0 0) RX0 cX0_reach 5 (some .int) false 0 [some (.ref a0), some (.int x1), none, none, none] [] S 0 0 (mj_std G (some .int) (mj_room 1 0 0) (mj_qi Q))
abbrev V_X0_reach_4 (l : Launch) (G : mj_G) (a0 : Nat) (x2 : Int32) (x3 : Int32) (S : mj_S) (Q : mj_S → Int32 → Prop) : Prop := mj_V l G (mj_room 1 0 0) RX0 cX0_reach 5 (some .int) false 4 [some (.ref a0), none, some (.int x2), some (.int x3), none] [] S 0 0 (mj_std G (some .int) (mj_room 1 0 0) (mj_qi Q))
theorem e_X0_reach {l : Launch} {G : mj_G} {a0 : Nat} {x1 : Int32} {S : mj_S} {Q : mj_S → Int32 → Prop} (h : V_X0_reach_0 l G a0 x1 S Q) : M_X0_reach l G a0 x1 S Q := mj_enter (r := 3) (ini := false) (by decide +kernel) (fun h => by cases h) (fun _ => Nat.le_of_ble_eq_true rfl) rfl h
set_option maxRecDepth 20000 in
set_option maxHeartbeats 1000000 in
theorem b_X0_reach_0 {l : Launch} {G : mj_G} {a0 : Nat} {x1 : Int32} {S : mj_S} {Q : mj_S → Int32 → Prop} (hk_a0 : m_kd S a0 = 0) (h : V_X0_reach_4 l G a0 x1 (0 : Int32) S Q) : V_X0_reach_0 l G a0 x1 S Q := by
  refine mj_iload_n dX0_reach_0 rfl rfl ?_
  refine mj_istore_n dX0_reach_1 rfl (by decide) rfl rfl ?_
  refine mj_iconst (v := 0) dX0_reach_2 (by decide) ?_
  refine mj_istore_n dX0_reach_3 rfl (by decide) rfl rfl ?_
  exact mj_lessm [true, false, true, true, false] rfl h
set_option maxRecDepth 20000 in
set_option maxHeartbeats 1000000 in
theorem b_X0_reach_4 {l : Launch} {G : mj_G} {a0 : Nat} {x2 : Int32} {x3 : Int32} {S : mj_S} {Q : mj_S → Int32 → Prop} (hk_a0 : m_kd S a0 = 0) (h : (((20 : Int32) ≤ x3) → Q S x2) ∧ ((¬ ((20 : Int32) ≤ x3)) → ∀ v1 : Int32, v1 = (x2 ||| (((x2 &&& (m_gi S a0 1)) <<< ((1 : Int32) &&& 31)) ||| ((x2 >>> ((1 : Int32) &&& 31)) &&& (m_gi S a0 1)))) → ∀ v2 : Int32, v2 = (v1 ||| (((x2 &&& (m_gi S a0 2)) <<< ((m_gi S a0 0) &&& 31)) ||| ((x2 >>> ((m_gi S a0 0) &&& 31)) &&& (m_gi S a0 2)))) → ((¬ v2 = x2) → ∀ v3 : Int32, v3 = x3 + (1 : Int32) → V_X0_reach_4 l G a0 v2 v3 S Q) ∧ ((v2 = x2) → Q S v2))) : V_X0_reach_4 l G a0 x2 x3 S Q := by
  refine mj_iload_n dX0_reach_4 rfl rfl ?_
  refine mj_bipush (v := 20) dX0_reach_5 (by decide) ?_
  refine mj_icmp_ge (tgt := 78) dX0_reach_7 (by decide) ⟨fun hc => ?_, fun hc => ?_⟩
  · replace h := h.1 hc
    refine mj_iload_n dX0_reach_78 rfl rfl ?_
    exact mj_reti dX0_reach_79 rfl ⟨Nat.le_of_ble_eq_true rfl, Nat.le_of_ble_eq_true rfl⟩ h
  · replace h := h.2 hc
    refine mj_iload_n dX0_reach_10 rfl rfl ?_
    refine mj_istore dX0_reach_11 (by decide) rfl rfl ?_
    refine mj_iload_n dX0_reach_13 rfl rfl ?_
    refine mj_iload dX0_reach_14 rfl ?_
    refine mj_aload_n dX0_reach_16 rfl rfl ?_
    refine mj_getI dX0_reach_17 fl_X0_15_0 hk_a0 rfl ?_
    refine mj_iand dX0_reach_20 ?_
    refine mj_iconst (v := 1) dX0_reach_21 (by decide) ?_
    refine mj_ishl dX0_reach_22 ?_
    refine mj_iload dX0_reach_23 rfl ?_
    refine mj_iconst (v := 1) dX0_reach_25 (by decide) ?_
    refine mj_ishr dX0_reach_26 ?_
    refine mj_aload_n dX0_reach_27 rfl rfl ?_
    refine mj_getI dX0_reach_28 fl_X0_15_0 hk_a0 rfl ?_
    refine mj_iand dX0_reach_31 ?_
    refine mj_ior dX0_reach_32 ?_
    refine mj_ior dX0_reach_33 ?_
    refine mj_nmi (fun v1 ev1 => ?_)
    replace h := h v1 ev1
    refine mj_istore_n dX0_reach_34 rfl (by decide) rfl rfl ?_
    refine mj_iload_n dX0_reach_35 rfl rfl ?_
    refine mj_iload dX0_reach_36 rfl ?_
    refine mj_aload_n dX0_reach_38 rfl rfl ?_
    refine mj_getI dX0_reach_39 fl_X0_18_0 hk_a0 rfl ?_
    refine mj_iand dX0_reach_42 ?_
    refine mj_aload_n dX0_reach_43 rfl rfl ?_
    refine mj_getI dX0_reach_44 fl_X0_9_0 hk_a0 rfl ?_
    refine mj_ishl dX0_reach_47 ?_
    refine mj_iload dX0_reach_48 rfl ?_
    refine mj_aload_n dX0_reach_50 rfl rfl ?_
    refine mj_getI dX0_reach_51 fl_X0_9_0 hk_a0 rfl ?_
    refine mj_ishr dX0_reach_54 ?_
    refine mj_aload_n dX0_reach_55 rfl rfl ?_
    refine mj_getI dX0_reach_56 fl_X0_18_0 hk_a0 rfl ?_
    refine mj_iand dX0_reach_59 ?_
    refine mj_ior dX0_reach_60 ?_
    refine mj_ior dX0_reach_61 ?_
    refine mj_nmi (fun v2 ev2 => ?_)
    replace h := h v2 ev2
    refine mj_istore_n dX0_reach_62 rfl (by decide) rfl rfl ?_
    refine mj_iload_n dX0_reach_63 rfl rfl ?_
    refine mj_iload dX0_reach_64 rfl ?_
    refine mj_icmp_ne (tgt := 72) dX0_reach_66 (by decide) ⟨fun hc => ?_, fun hc => ?_⟩
    · replace h := h.1 hc
      obtain ⟨v3, ev3⟩ : ∃ z : Int32, z = x3 + (1 : Int32) := ⟨_, rfl⟩
      refine mj_iinc (v := v3) dX0_reach_72 rfl (by rw [ev3]; rfl) (by decide) rfl rfl ?_
      replace h := h v3 ev3
      refine mj_goto (tgt := 4) dX0_reach_75 (by decide) ?_
      exact mj_lessm [true, false, true, true, false] rfl h
    · replace h := h.2 hc
      refine mj_goto (tgt := 78) dX0_reach_69 (by decide) ?_
      refine mj_iload_n dX0_reach_78 rfl rfl ?_
      exact mj_reti dX0_reach_79 rfl ⟨Nat.le_of_ble_eq_true rfl, Nat.le_of_ble_eq_true rfl⟩ h
abbrev V_X0_parts_0 (l : Launch) (G : mj_G) (a0 : Nat) (x1 : Int32) (S : mj_S) (Q : mj_S → Int32 → Prop) : Prop := mj_V l G (mj_room 2 0 0) RX0 cX0_parts 5 (some .int) false 0 [some (.ref a0), some (.int x1), none, none, none] [] S 0 0 (mj_std G (some .int) (mj_room 2 0 0) (mj_qi Q))
abbrev V_X0_parts_7 (l : Launch) (G : mj_G) (a0 : Nat) (x2 : Int32) (x3 : Int32) (x4 : Int32) (S : mj_S) (Q : mj_S → Int32 → Prop) : Prop := mj_V l G (mj_room 2 0 0) RX0 cX0_parts 5 (some .int) false 7 [some (.ref a0), none, some (.int x2), some (.int x3), some (.int x4)] [] S 0 0 (mj_std G (some .int) (mj_room 2 0 0) (mj_qi Q))
theorem e_X0_parts {l : Launch} {G : mj_G} {a0 : Nat} {x1 : Int32} {S : mj_S} {Q : mj_S → Int32 → Prop} (h : V_X0_parts_0 l G a0 x1 S Q) : M_X0_parts l G a0 x1 S Q := mj_enter (r := 3) (ini := false) (by decide +kernel) (fun h => by cases h) (fun _ => Nat.le_of_ble_eq_true rfl) rfl h
set_option maxRecDepth 20000 in
set_option maxHeartbeats 1000000 in
theorem b_X0_parts_0 {l : Launch} {G : mj_G} {a0 : Nat} {x1 : Int32} {S : mj_S} {Q : mj_S → Int32 → Prop} (hk_a0 : m_kd S a0 = 0) (h : V_X0_parts_7 l G a0 x1 (0 : Int32) (0 : Int32) S Q) : V_X0_parts_0 l G a0 x1 S Q := by
  refine mj_iload_n dX0_parts_0 rfl rfl ?_
  refine mj_istore_n dX0_parts_1 rfl (by decide) rfl rfl ?_
  refine mj_iconst (v := 0) dX0_parts_2 (by decide) ?_
  refine mj_istore_n dX0_parts_3 rfl (by decide) rfl rfl ?_
  refine mj_iconst (v := 0) dX0_parts_4 (by decide) ?_
  refine mj_istore dX0_parts_5 (by decide) rfl rfl ?_
  exact mj_lessm [true, false, true, true, true] rfl h
set_option maxRecDepth 20000 in
set_option maxHeartbeats 1000000 in
theorem b_X0_parts_7 {l : Launch} {G : mj_G} {a0 : Nat} {x2 : Int32} {x3 : Int32} {x4 : Int32} {S : mj_S} {Q : mj_S → Int32 → Prop} (hk_a0 : m_kd S a0 = 0) (h : (((20 : Int32) ≤ x4) → Q S x3) ∧ ((¬ ((20 : Int32) ≤ x4)) → ((x2 = 0) → Q S x3) ∧ ((¬ (x2 = 0)) → M_X0_reach l G a0 (x2 &&& (-x2)) S (fun S1 r2 => ∀ v3 : Int32, v3 = (x2 &&& (r2 ^^^ (-1 : Int32))) → ∀ v4 : Int32, v4 = x3 + (1 : Int32) → ∀ v5 : Int32, v5 = x4 + (1 : Int32) → V_X0_parts_7 l G a0 v3 v4 v5 S1 Q)))) : V_X0_parts_7 l G a0 x2 x3 x4 S Q := by
  refine mj_iload dX0_parts_7 rfl ?_
  refine mj_bipush (v := 20) dX0_parts_9 (by decide) ?_
  refine mj_icmp_ge (tgt := 40) dX0_parts_11 (by decide) ⟨fun hc => ?_, fun hc => ?_⟩
  · replace h := h.1 hc
    refine mj_iload_n dX0_parts_40 rfl rfl ?_
    exact mj_reti dX0_parts_41 rfl ⟨Nat.le_of_ble_eq_true rfl, Nat.le_of_ble_eq_true rfl⟩ h
  · replace h := h.2 hc
    refine mj_iload_n dX0_parts_14 rfl rfl ?_
    refine mj_if_eq (tgt := 40) dX0_parts_15 (by decide) ⟨fun hc => ?_, fun hc => ?_⟩
    · replace h := h.1 hc
      refine mj_iload_n dX0_parts_40 rfl rfl ?_
      exact mj_reti dX0_parts_41 rfl ⟨Nat.le_of_ble_eq_true rfl, Nat.le_of_ble_eq_true rfl⟩ h
    · replace h := h.2 hc
      refine mj_iload_n dX0_parts_18 rfl rfl ?_
      refine mj_aload_n dX0_parts_19 rfl rfl ?_
      refine mj_iload_n dX0_parts_20 rfl rfl ?_
      refine mj_iload_n dX0_parts_21 rfl rfl ?_
      refine mj_ineg dX0_parts_22 ?_
      refine mj_iand dX0_parts_23 ?_
      refine mj_callVi (as := [.int (x2 &&& (-x2))]) (st := [.int x2]) dX0_parts_24 cal_X0_reach lk_X0_44 im_X0_reach se_X0_reach (ci := 0) rfl (by decide) hk_a0 h rfl (Nat.le_of_ble_eq_true rfl) (by decide) ⟨Nat.le_of_ble_eq_true rfl, Nat.le_of_ble_eq_true rfl⟩ (fun S1 r2 h hn_r2 hp => ?_)
      have hk_a0 : m_kd S1 a0 = 0 := m_kd_pre hp hk_a0 (by decide)
      refine mj_iconst (v := (-1)) dX0_parts_27 (by decide) ?_
      refine mj_ixor dX0_parts_28 ?_
      refine mj_iand dX0_parts_29 ?_
      refine mj_nmi (fun v3 ev3 => ?_)
      replace h := h v3 ev3
      refine mj_istore_n dX0_parts_30 rfl (by decide) rfl rfl ?_
      obtain ⟨v4, ev4⟩ : ∃ z : Int32, z = x3 + (1 : Int32) := ⟨_, rfl⟩
      refine mj_iinc (v := v4) dX0_parts_31 rfl (by rw [ev4]; rfl) (by decide) rfl rfl ?_
      replace h := h v4 ev4
      obtain ⟨v5, ev5⟩ : ∃ z : Int32, z = x4 + (1 : Int32) := ⟨_, rfl⟩
      refine mj_iinc (v := v5) dX0_parts_34 rfl (by rw [ev5]; rfl) (by decide) rfl rfl ?_
      replace h := h v5 ev5
      refine mj_goto (tgt := 7) dX0_parts_37 (by decide) ?_
      exact h
