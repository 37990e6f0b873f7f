abbrev V_X11_fault_0 (l : Launch) (G : mj_G) (a0 : Nat) (x1 : Int32) (S : mj_S) (Q : mj_S → Int32 → Prop) : Prop := mj_V l G (mj_room 83 0 0) RX11 cX11_fault 2 (some .int) false 0 [some (.ref a0), some (.int x1)] [] S 0 0 (mj_std G (some .int) (mj_room 83 0 0) (mj_qi Q))
theorem e_X11_fault {l : Launch} {G : mj_G} {a0 : Nat} {x1 : Int32} {S : mj_S} {Q : mj_S → Int32 → Prop} (h : V_X11_fault_0 l G a0 x1 S Q) : M_X11_fault l G a0 x1 S Q := mj_enter (r := 0) (ini := false) (by decide +kernel) (fun h => by cases h) (fun _ => Nat.le_of_ble_eq_true rfl) rfl h
set_option maxRecDepth 20000 in
set_option maxHeartbeats 1000000 in
theorem b_X11_fault_0 {l : Launch} {G : mj_G} {a0 : Nat} {x1 : Int32} {S : mj_S} {Q : mj_S → Int32 → Prop} (hk_a0 : m_kd S a0 = 10) (h : ((¬ x1 = 0) → ((¬ x1 = (1 : Int32)) → Q S (-2 : Int32)) ∧ ((x1 = (1 : Int32)) → M_X11_readLaw l G a0 (4 : Int32) S (fun S1 r2 => Q S1 r2))) ∧ ((x1 = 0) → M_X11_readRoom l G a0 S (fun S3 r4 => Q S3 r4))) : V_X11_fault_0 l G a0 x1 S Q := by
  refine mj_iload_n dX11_fault_0 rfl rfl ?_
  refine mj_if_ne (tgt := 11) dX11_fault_1 (by decide) ⟨fun hc => ?_, fun hc => ?_⟩
  · replace h := h.1 hc
    refine mj_iload_n dX11_fault_11 rfl rfl ?_
    refine mj_iconst (v := 1) dX11_fault_12 (by decide) ?_
    refine mj_icmp_ne (tgt := 24) dX11_fault_13 (by decide) ⟨fun hc => ?_, fun hc => ?_⟩
    · replace h := h.1 hc
      refine mj_bipush (v := (-2)) dX11_fault_24 (by decide) ?_
      exact mj_reti dX11_fault_26 rfl ⟨Nat.le_of_ble_eq_true rfl, Nat.le_of_ble_eq_true rfl⟩ h
    · replace h := h.2 hc
      refine mj_aload_n dX11_fault_16 rfl rfl ?_
      refine mj_iconst (v := 4) dX11_fault_17 (by decide) ?_
      refine mj_callVi (as := [.int (4 : Int32)]) (st := []) dX11_fault_18 cal_X11_readLaw lk_X11_258 im_X11_readLaw se_X11_readLaw (ci := 10) rfl (by decide) hk_a0 h rfl (Nat.le_of_ble_eq_true rfl) (by decide) ⟨Nat.le_of_ble_eq_true rfl, Nat.le_of_ble_eq_true rfl⟩ (fun S1 r2 h hn_r2 hp => ?_)
      have hk_a0 : m_kd S1 a0 = 10 := m_kd_pre hp hk_a0 (by decide)
      refine mj_goto (tgt := 26) dX11_fault_21 (by decide) ?_
      exact mj_reti dX11_fault_26 rfl ⟨Nat.le_of_ble_eq_true rfl, Nat.le_of_ble_eq_true rfl⟩ h
  · replace h := h.2 hc
    refine mj_aload_n dX11_fault_4 rfl rfl ?_
    refine mj_callVi (as := []) (st := []) dX11_fault_5 cal_X11_readRoom lk_X11_255 im_X11_readRoom se_X11_readRoom (ci := 10) rfl (by decide) hk_a0 h rfl (Nat.le_of_ble_eq_true rfl) (by decide) ⟨Nat.le_of_ble_eq_true rfl, Nat.le_of_ble_eq_true rfl⟩ (fun S3 r4 h hn_r4 hp => ?_)
    have hk_a0 : m_kd S3 a0 = 10 := m_kd_pre hp hk_a0 (by decide)
    refine mj_goto (tgt := 26) dX11_fault_8 (by decide) ?_
    exact mj_reti dX11_fault_26 rfl ⟨Nat.le_of_ble_eq_true rfl, Nat.le_of_ble_eq_true rfl⟩ h
abbrev V_X11_takeRoom_0 (l : Launch) (G : mj_G) (a0 : Nat) (S : mj_S) (Q : mj_S → Int32 → Prop) : Prop := mj_V l G (mj_room 4 0 0) RX11 cX11_takeRoom 2 (some .int) false 0 [some (.ref a0), none] [] S 0 0 (mj_std G (some .int) (mj_room 4 0 0) (mj_qi Q))
abbrev V_X11_takeRoom_18 (l : Launch) (G : mj_G) (a0 : Nat) (x1 : Int32) (S : mj_S) (Q : mj_S → Int32 → Prop) : Prop := mj_V l G (mj_room 4 0 0) RX11 cX11_takeRoom 2 (some .int) false 18 [some (.ref a0), some (.int x1)] [] S 0 0 (mj_std G (some .int) (mj_room 4 0 0) (mj_qi Q))
abbrev V_X11_takeRoom_60 (l : Launch) (G : mj_G) (a0 : Nat) (x1 : Int32) (S : mj_S) (Q : mj_S → Int32 → Prop) : Prop := mj_V l G (mj_room 4 0 0) RX11 cX11_takeRoom 2 (some .int) false 60 [some (.ref a0), some (.int x1)] [] S 0 0 (mj_std G (some .int) (mj_room 4 0 0) (mj_qi Q))
abbrev V_X11_takeRoom_86 (l : Launch) (G : mj_G) (a0 : Nat) (x1 : Int32) (S : mj_S) (Q : mj_S → Int32 → Prop) : Prop := mj_V l G (mj_room 4 0 0) RX11 cX11_takeRoom 2 (some .int) false 86 [some (.ref a0), some (.int x1)] [] S 0 0 (mj_std G (some .int) (mj_room 4 0 0) (mj_qi Q))
abbrev V_X11_takeRoom_112 (l : Launch) (G : mj_G) (a0 : Nat) (x1 : Int32) (S : mj_S) (Q : mj_S → Int32 → Prop) : Prop := mj_V l G (mj_room 4 0 0) RX11 cX11_takeRoom 2 (some .int) false 112 [some (.ref a0), some (.int x1)] [] S 0 0 (mj_std G (some .int) (mj_room 4 0 0) (mj_qi Q))
abbrev V_X11_takeRoom_134 (l : Launch) (G : mj_G) (a0 : Nat) (x1 : Int32) (S : mj_S) (Q : mj_S → Int32 → Prop) : Prop := mj_V l G (mj_room 4 0 0) RX11 cX11_takeRoom 2 (some .int) false 134 [some (.ref a0), some (.int x1)] [] S 0 0 (mj_std G (some .int) (mj_room 4 0 0) (mj_qi Q))
abbrev V_X11_takeRoom_182 (l : Launch) (G : mj_G) (a0 : Nat) (x1 : Int32) (S : mj_S) (Q : mj_S → Int32 → Prop) : Prop := mj_V l G (mj_room 4 0 0) RX11 cX11_takeRoom 2 (some .int) false 182 [some (.ref a0), some (.int x1)] [] S 0 0 (mj_std G (some .int) (mj_room 4 0 0) (mj_qi Q))
abbrev V_X11_takeRoom_215 (l : Launch) (G : mj_G) (a0 : Nat) (x1 : Int32) (S : mj_S) (Q : mj_S → Int32 → Prop) : Prop := mj_V l G (mj_room 4 0 0) RX11 cX11_takeRoom 2 (some .int) false 215 [some (.ref a0), some (.int x1)] [] S 0 0 (mj_std G (some .int) (mj_room 4 0 0) (mj_qi Q))
theorem e_X11_takeRoom {l : Launch} {G : mj_G} {a0 : Nat} {S : mj_S} {Q : mj_S → Int32 → Prop} (h : V_X11_takeRoom_0 l G a0 S Q) : M_X11_takeRoom l G a0 S Q := mj_enter (r := 1) (ini := false) (by decide +kernel) (fun h => by cases h) (fun _ => Nat.le_of_ble_eq_true rfl) rfl h
set_option maxRecDepth 20000 in
set_option maxHeartbeats 1000000 in
theorem b_X11_takeRoom_0 {l : Launch} {G : mj_G} {a0 : Nat} {S : mj_S} {Q : mj_S → Int32 → Prop} (hk_a0 : m_kd S a0 = 10) (h : ∀ S1 : mj_S, S1 = m_si S a0 26 (m_gi S a0 20) → ∀ S2 : mj_S, S2 = m_si S1 a0 27 (m_gi S1 a0 21) → V_X11_takeRoom_18 l G a0 (0 : Int32) S2 Q) : V_X11_takeRoom_0 l G a0 S Q := by
  refine mj_aload_n dX11_takeRoom_0 rfl rfl ?_
  refine mj_aload_n dX11_takeRoom_1 rfl rfl ?_
  refine mj_getI dX11_takeRoom_2 fl_X11_244_10 hk_a0 rfl ?_
  refine mj_putI dX11_takeRoom_5 fl_X11_261_10 hk_a0 (Or.inl rfl) rfl rfl rfl ?_
  obtain ⟨S1, eS1⟩ : ∃ z, z = m_si S a0 26 (m_gi S a0 20) := ⟨_, rfl⟩
  rw [← eS1]
  replace h := h S1 eS1
  have hk_a0 : m_kd S1 a0 = 10 := by rw [eS1]; exact hk_a0
  refine mj_aload_n dX11_takeRoom_8 rfl rfl ?_
  refine mj_aload_n dX11_takeRoom_9 rfl rfl ?_
  refine mj_getI dX11_takeRoom_10 fl_X11_241_10 hk_a0 rfl ?_
  refine mj_putI dX11_takeRoom_13 fl_X11_264_10 hk_a0 (Or.inl rfl) rfl rfl rfl ?_
  obtain ⟨S2, eS2⟩ : ∃ z, z = m_si S1 a0 27 (m_gi S1 a0 21) := ⟨_, rfl⟩
  rw [← eS2]
  replace h := h S2 eS2
  have hk_a0 : m_kd S2 a0 = 10 := by rw [eS2]; exact hk_a0
  refine mj_iconst (v := 0) dX11_takeRoom_16 (by decide) ?_
  refine mj_istore_n dX11_takeRoom_17 rfl (by decide) rfl rfl ?_
  exact h
set_option maxRecDepth 20000 in
set_option maxHeartbeats 1000000 in
theorem b_X11_takeRoom_18 {l : Launch} {G : mj_G} {a0 : Nat} {x1 : Int32} {S : mj_S} {Q : mj_S → Int32 → Prop} (hk_a0 : m_kd S a0 = 10) (h : (((4 : Int32) ≤ x1) → ∃ b1, m_gp S a0 22 = some b1 ∧ (vp_in (0 : Int32) (m_ln S b1) ∧ (∃ b2, m_gp S a0 22 = some b2 ∧ (vp_in (1 : Int32) (m_ln S b2) ∧ (∀ S3 : mj_S, S3 = m_si S a0 25 ((m_gi S b1 ((0 : Int32)).toNatClampNeg) * (m_gi S b2 ((1 : Int32)).toNatClampNeg)) → V_X11_takeRoom_60 l G a0 (0 : Int32) S3 Q))))) ∧ ((¬ ((4 : Int32) ≤ x1)) → ∃ b4, m_gp S a0 22 = some b4 ∧ (∃ b5, m_gp S a0 17 = some b5 ∧ (vp_in x1 (m_ln S b5) ∧ (vp_in x1 (m_ln S b4) ∧ (∀ S6 : mj_S, S6 = m_si S b4 (x1).toNatClampNeg (m_gi S b5 (x1).toNatClampNeg) → ∀ v7 : Int32, v7 = x1 + (1 : Int32) → V_X11_takeRoom_18 l G a0 v7 S6 Q)))))) : V_X11_takeRoom_18 l G a0 x1 S Q := by
  refine mj_iload_n dX11_takeRoom_18 rfl rfl ?_
  refine mj_iconst (v := 4) dX11_takeRoom_19 (by decide) ?_
  refine mj_icmp_ge (tgt := 41) dX11_takeRoom_20 (by decide) ⟨fun hc => ?_, fun hc => ?_⟩
  · replace h := h.1 hc
    refine mj_aload_n dX11_takeRoom_41 rfl rfl ?_
    refine mj_aload_n dX11_takeRoom_42 rfl rfl ?_
    obtain ⟨b1, eb1, h⟩ := h
    refine mj_getP dX11_takeRoom_43 fl_X11_49_10 hk_a0 rfl ⟨b1, eb1, fun hk_b1 => ?_⟩
    refine mj_iconst (v := 0) dX11_takeRoom_46 (by decide) ?_
    refine mj_iald dX11_takeRoom_47 (Or.inl hk_b1) ⟨h.1, ?_⟩
    replace h := h.2
    refine mj_aload_n dX11_takeRoom_48 rfl rfl ?_
    obtain ⟨b2, eb2, h⟩ := h
    refine mj_getP dX11_takeRoom_49 fl_X11_49_10 hk_a0 rfl ⟨b2, eb2, fun hk_b2 => ?_⟩
    refine mj_iconst (v := 1) dX11_takeRoom_52 (by decide) ?_
    refine mj_iald dX11_takeRoom_53 (Or.inl hk_b2) ⟨h.1, ?_⟩
    replace h := h.2
    refine mj_imul dX11_takeRoom_54 ?_
    refine mj_putI dX11_takeRoom_55 fl_X11_267_10 hk_a0 (Or.inl rfl) rfl rfl rfl ?_
    obtain ⟨S3, eS3⟩ : ∃ z, z = m_si S a0 25 ((m_gi S b1 ((0 : Int32)).toNatClampNeg) * (m_gi S b2 ((1 : Int32)).toNatClampNeg)) := ⟨_, rfl⟩
    rw [← eS3]
    replace h := h S3 eS3
    have hk_a0 : m_kd S3 a0 = 10 := by rw [eS3]; exact hk_a0
    have hk_b1 : m_kd S3 b1 = 100 := by rw [eS3]; exact hk_b1
    have hk_b2 : m_kd S3 b2 = 100 := by rw [eS3]; exact hk_b2
    refine mj_iconst (v := 0) dX11_takeRoom_58 (by decide) ?_
    refine mj_istore_n dX11_takeRoom_59 rfl (by decide) rfl rfl ?_
    exact h
  · replace h := h.2 hc
    refine mj_aload_n dX11_takeRoom_23 rfl rfl ?_
    obtain ⟨b4, eb4, h⟩ := h
    refine mj_getP dX11_takeRoom_24 fl_X11_49_10 hk_a0 rfl ⟨b4, eb4, fun hk_b4 => ?_⟩
    refine mj_iload_n dX11_takeRoom_27 rfl rfl ?_
    refine mj_aload_n dX11_takeRoom_28 rfl rfl ?_
    obtain ⟨b5, eb5, h⟩ := h
    refine mj_getP dX11_takeRoom_29 fl_X11_40_10 hk_a0 rfl ⟨b5, eb5, fun hk_b5 => ?_⟩
    refine mj_iload_n dX11_takeRoom_32 rfl rfl ?_
    refine mj_iald dX11_takeRoom_33 (Or.inl hk_b5) ⟨h.1, ?_⟩
    replace h := h.2
    refine mj_iast dX11_takeRoom_34 hk_b4 ⟨h.1, ?_⟩
    replace h := h.2
    obtain ⟨S6, eS6⟩ : ∃ z, z = m_si S b4 (x1).toNatClampNeg (m_gi S b5 (x1).toNatClampNeg) := ⟨_, rfl⟩
    rw [← eS6]
    replace h := h S6 eS6
    have hk_a0 : m_kd S6 a0 = 10 := by rw [eS6]; exact hk_a0
    have hk_b4 : m_kd S6 b4 = 100 := by rw [eS6]; exact hk_b4
    have hk_b5 : m_kd S6 b5 = 100 := by rw [eS6]; exact hk_b5
    obtain ⟨v7, ev7⟩ : ∃ z : Int32, z = x1 + (1 : Int32) := ⟨_, rfl⟩
    refine mj_iinc (v := v7) dX11_takeRoom_35 rfl (by rw [ev7]; rfl) (by decide) rfl rfl ?_
    replace h := h v7 ev7
    refine mj_goto (tgt := 18) dX11_takeRoom_38 (by decide) ?_
    exact h
set_option maxRecDepth 20000 in
set_option maxHeartbeats 1000000 in
theorem b_X11_takeRoom_60 {l : Launch} {G : mj_G} {a0 : Nat} {x1 : Int32} {S : mj_S} {Q : mj_S → Int32 → Prop} (hk_a0 : m_kd S a0 = 10) (h : (((60 : Int32) ≤ x1) → V_X11_takeRoom_86 l G a0 (0 : Int32) S Q) ∧ ((¬ ((60 : Int32) ≤ x1)) → ∃ b1, m_gp S a0 23 = some b1 ∧ (∃ b2, m_gp S a0 18 = some b2 ∧ (vp_in x1 (m_ln S b2) ∧ (vp_in x1 (m_ln S b1) ∧ (∀ S3 : mj_S, S3 = m_si S b1 (x1).toNatClampNeg (m_gi S b2 (x1).toNatClampNeg) → ∀ v4 : Int32, v4 = x1 + (1 : Int32) → V_X11_takeRoom_60 l G a0 v4 S3 Q)))))) : V_X11_takeRoom_60 l G a0 x1 S Q := by
  refine mj_iload_n dX11_takeRoom_60 rfl rfl ?_
  refine mj_bipush (v := 60) dX11_takeRoom_61 (by decide) ?_
  refine mj_icmp_ge (tgt := 84) dX11_takeRoom_63 (by decide) ⟨fun hc => ?_, fun hc => ?_⟩
  · replace h := h.1 hc
    refine mj_iconst (v := 0) dX11_takeRoom_84 (by decide) ?_
    refine mj_istore_n dX11_takeRoom_85 rfl (by decide) rfl rfl ?_
    exact h
  · replace h := h.2 hc
    refine mj_aload_n dX11_takeRoom_66 rfl rfl ?_
    obtain ⟨b1, eb1, h⟩ := h
    refine mj_getP dX11_takeRoom_67 fl_X11_52_10 hk_a0 rfl ⟨b1, eb1, fun hk_b1 => ?_⟩
    refine mj_iload_n dX11_takeRoom_70 rfl rfl ?_
    refine mj_aload_n dX11_takeRoom_71 rfl rfl ?_
    obtain ⟨b2, eb2, h⟩ := h
    refine mj_getP dX11_takeRoom_72 fl_X11_43_10 hk_a0 rfl ⟨b2, eb2, fun hk_b2 => ?_⟩
    refine mj_iload_n dX11_takeRoom_75 rfl rfl ?_
    refine mj_iald dX11_takeRoom_76 (Or.inl hk_b2) ⟨h.1, ?_⟩
    replace h := h.2
    refine mj_iast dX11_takeRoom_77 hk_b1 ⟨h.1, ?_⟩
    replace h := h.2
    obtain ⟨S3, eS3⟩ : ∃ z, z = m_si S b1 (x1).toNatClampNeg (m_gi S b2 (x1).toNatClampNeg) := ⟨_, rfl⟩
    rw [← eS3]
    replace h := h S3 eS3
    have hk_a0 : m_kd S3 a0 = 10 := by rw [eS3]; exact hk_a0
    have hk_b1 : m_kd S3 b1 = 100 := by rw [eS3]; exact hk_b1
    have hk_b2 : m_kd S3 b2 = 100 := by rw [eS3]; exact hk_b2
    obtain ⟨v4, ev4⟩ : ∃ z : Int32, z = x1 + (1 : Int32) := ⟨_, rfl⟩
    refine mj_iinc (v := v4) dX11_takeRoom_78 rfl (by rw [ev4]; rfl) (by decide) rfl rfl ?_
    replace h := h v4 ev4
    refine mj_goto (tgt := 60) dX11_takeRoom_81 (by decide) ?_
    exact h
set_option maxRecDepth 20000 in
set_option maxHeartbeats 1000000 in
theorem b_X11_takeRoom_86 {l : Launch} {G : mj_G} {a0 : Nat} {x1 : Int32} {S : mj_S} {Q : mj_S → Int32 → Prop} (hk_a0 : m_kd S a0 = 10) (h : (((12 : Int32) ≤ x1) → V_X11_takeRoom_112 l G a0 (0 : Int32) S Q) ∧ ((¬ ((12 : Int32) ≤ x1)) → ∃ b1, m_gp S a0 24 = some b1 ∧ (∃ b2, m_gp S a0 19 = some b2 ∧ (vp_in x1 (m_ln S b2) ∧ (vp_in x1 (m_ln S b1) ∧ (∀ S3 : mj_S, S3 = m_si S b1 (x1).toNatClampNeg (m_gi S b2 (x1).toNatClampNeg) → ∀ v4 : Int32, v4 = x1 + (1 : Int32) → V_X11_takeRoom_86 l G a0 v4 S3 Q)))))) : V_X11_takeRoom_86 l G a0 x1 S Q := by
  refine mj_iload_n dX11_takeRoom_86 rfl rfl ?_
  refine mj_bipush (v := 12) dX11_takeRoom_87 (by decide) ?_
  refine mj_icmp_ge (tgt := 110) dX11_takeRoom_89 (by decide) ⟨fun hc => ?_, fun hc => ?_⟩
  · replace h := h.1 hc
    refine mj_iconst (v := 0) dX11_takeRoom_110 (by decide) ?_
    refine mj_istore_n dX11_takeRoom_111 rfl (by decide) rfl rfl ?_
    exact h
  · replace h := h.2 hc
    refine mj_aload_n dX11_takeRoom_92 rfl rfl ?_
    obtain ⟨b1, eb1, h⟩ := h
    refine mj_getP dX11_takeRoom_93 fl_X11_55_10 hk_a0 rfl ⟨b1, eb1, fun hk_b1 => ?_⟩
    refine mj_iload_n dX11_takeRoom_96 rfl rfl ?_
    refine mj_aload_n dX11_takeRoom_97 rfl rfl ?_
    obtain ⟨b2, eb2, h⟩ := h
    refine mj_getP dX11_takeRoom_98 fl_X11_46_10 hk_a0 rfl ⟨b2, eb2, fun hk_b2 => ?_⟩
    refine mj_iload_n dX11_takeRoom_101 rfl rfl ?_
    refine mj_iald dX11_takeRoom_102 (Or.inl hk_b2) ⟨h.1, ?_⟩
    replace h := h.2
    refine mj_iast dX11_takeRoom_103 hk_b1 ⟨h.1, ?_⟩
    replace h := h.2
    obtain ⟨S3, eS3⟩ : ∃ z, z = m_si S b1 (x1).toNatClampNeg (m_gi S b2 (x1).toNatClampNeg) := ⟨_, rfl⟩
    rw [← eS3]
    replace h := h S3 eS3
    have hk_a0 : m_kd S3 a0 = 10 := by rw [eS3]; exact hk_a0
    have hk_b1 : m_kd S3 b1 = 100 := by rw [eS3]; exact hk_b1
    have hk_b2 : m_kd S3 b2 = 100 := by rw [eS3]; exact hk_b2
    obtain ⟨v4, ev4⟩ : ∃ z : Int32, z = x1 + (1 : Int32) := ⟨_, rfl⟩
    refine mj_iinc (v := v4) dX11_takeRoom_104 rfl (by rw [ev4]; rfl) (by decide) rfl rfl ?_
    replace h := h v4 ev4
    refine mj_goto (tgt := 86) dX11_takeRoom_107 (by decide) ?_
    exact h
set_option maxRecDepth 20000 in
set_option maxHeartbeats 1000000 in
theorem b_X11_takeRoom_112 {l : Launch} {G : mj_G} {a0 : Nat} {x1 : Int32} {S : mj_S} {Q : mj_S → Int32 → Prop} (hk_a0 : m_kd S a0 = 10) (h : (((199 : Int32) ≤ x1) → V_X11_takeRoom_134 l G a0 (0 : Int32) S Q) ∧ ((¬ ((199 : Int32) ≤ x1)) → ∃ b1, m_gp S a0 28 = some b1 ∧ (vp_in x1 (m_ln S b1) ∧ (∀ S2 : mj_S, S2 = m_si S b1 (x1).toNatClampNeg (0 : Int32) → ∀ v3 : Int32, v3 = x1 + (1 : Int32) → V_X11_takeRoom_112 l G a0 v3 S2 Q)))) : V_X11_takeRoom_112 l G a0 x1 S Q := by
  refine mj_iload_n dX11_takeRoom_112 rfl rfl ?_
  refine mj_sipush (v := 199) dX11_takeRoom_113 (by decide) ?_
  refine mj_icmp_ge (tgt := 132) dX11_takeRoom_116 (by decide) ⟨fun hc => ?_, fun hc => ?_⟩
  · replace h := h.1 hc
    refine mj_iconst (v := 0) dX11_takeRoom_132 (by decide) ?_
    refine mj_istore_n dX11_takeRoom_133 rfl (by decide) rfl rfl ?_
    exact h
  · replace h := h.2 hc
    refine mj_aload_n dX11_takeRoom_119 rfl rfl ?_
    obtain ⟨b1, eb1, h⟩ := h
    refine mj_getP dX11_takeRoom_120 fl_X11_58_10 hk_a0 rfl ⟨b1, eb1, fun hk_b1 => ?_⟩
    refine mj_iload_n dX11_takeRoom_123 rfl rfl ?_
    refine mj_iconst (v := 0) dX11_takeRoom_124 (by decide) ?_
    refine mj_iast dX11_takeRoom_125 hk_b1 ⟨h.1, ?_⟩
    replace h := h.2
    obtain ⟨S2, eS2⟩ : ∃ z, z = m_si S b1 (x1).toNatClampNeg (0 : Int32) := ⟨_, rfl⟩
    rw [← eS2]
    replace h := h S2 eS2
    have hk_a0 : m_kd S2 a0 = 10 := by rw [eS2]; exact hk_a0
    have hk_b1 : m_kd S2 b1 = 100 := by rw [eS2]; exact hk_b1
    obtain ⟨v3, ev3⟩ : ∃ z : Int32, z = x1 + (1 : Int32) := ⟨_, rfl⟩
    refine mj_iinc (v := v3) dX11_takeRoom_126 rfl (by rw [ev3]; rfl) (by decide) rfl rfl ?_
    replace h := h v3 ev3
    refine mj_goto (tgt := 112) dX11_takeRoom_129 (by decide) ?_
    exact h
set_option maxRecDepth 20000 in
set_option maxHeartbeats 1000000 in
theorem b_X11_takeRoom_134 {l : Launch} {G : mj_G} {a0 : Nat} {x1 : Int32} {S : mj_S} {Q : mj_S → Int32 → Prop} (hk_a0 : m_kd S a0 = 10) (h : (((m_gi S a0 26) ≤ x1) → V_X11_takeRoom_182 l G a0 (0 : Int32) S Q) ∧ ((¬ ((m_gi S a0 26) ≤ x1)) → ∃ b1, m_gp S a0 28 = some b1 ∧ (M_X11_of l G a0 x1 (3 : Int32) S (fun S2 r3 => vp_in ((0 : Int32) + x1) (m_ln S2 b1) ∧ (∀ S4 : mj_S, S4 = m_si S2 b1 (((0 : Int32) + x1)).toNatClampNeg r3 → ∃ b5, m_gp S4 a0 28 = some b5 ∧ (vp_in (10 : Int32) (m_ln S4 b5) ∧ (M_X11_of l G a0 x1 (5 : Int32) S4 (fun S6 r7 => vp_in (10 : Int32) (m_ln S6 b5) ∧ (∀ S8 : mj_S, S8 = m_si S6 b5 ((10 : Int32)).toNatClampNeg ((m_gi S4 b5 ((10 : Int32)).toNatClampNeg) ||| (r7 <<< (x1 &&& 31))) → ∀ v9 : Int32, v9 = x1 + (1 : Int32) → V_X11_takeRoom_134 l G a0 v9 S8 Q))))))))) : V_X11_takeRoom_134 l G a0 x1 S Q := by
  refine mj_iload_n dX11_takeRoom_134 rfl rfl ?_
  refine mj_aload_n dX11_takeRoom_135 rfl rfl ?_
  refine mj_getI dX11_takeRoom_136 fl_X11_261_10 hk_a0 rfl ?_
  refine mj_icmp_ge (tgt := 180) dX11_takeRoom_139 (by decide) ⟨fun hc => ?_, fun hc => ?_⟩
  · replace h := h.1 hc
    refine mj_iconst (v := 0) dX11_takeRoom_180 (by decide) ?_
    refine mj_istore_n dX11_takeRoom_181 rfl (by decide) rfl rfl ?_
    exact h
  · replace h := h.2 hc
    refine mj_aload_n dX11_takeRoom_142 rfl rfl ?_
    obtain ⟨b1, eb1, h⟩ := h
    refine mj_getP dX11_takeRoom_143 fl_X11_58_10 hk_a0 rfl ⟨b1, eb1, fun hk_b1 => ?_⟩
    refine mj_iconst (v := 0) dX11_takeRoom_146 (by decide) ?_
    refine mj_iload_n dX11_takeRoom_147 rfl rfl ?_
    refine mj_iadd dX11_takeRoom_148 ?_
    refine mj_aload_n dX11_takeRoom_149 rfl rfl ?_
    refine mj_iload_n dX11_takeRoom_150 rfl rfl ?_
    refine mj_iconst (v := 3) dX11_takeRoom_151 (by decide) ?_
    refine mj_callVi (as := [.int x1, .int (3 : Int32)]) (st := [.int ((0 : Int32) + x1), .ref b1]) dX11_takeRoom_152 cal_X11_of lk_X11_270 im_X11_of se_X11_of (ci := 10) rfl (by decide) hk_a0 h rfl (Nat.le_of_ble_eq_true rfl) (by decide) ⟨Nat.le_of_ble_eq_true rfl, Nat.le_of_ble_eq_true rfl⟩ (fun S2 r3 h hn_r3 hp => ?_)
    have hk_a0 : m_kd S2 a0 = 10 := m_kd_pre hp hk_a0 (by decide)
    have hk_b1 : m_kd S2 b1 = 100 := m_kd_pre hp hk_b1 (by decide)
    refine mj_iast dX11_takeRoom_155 hk_b1 ⟨h.1, ?_⟩
    replace h := h.2
    obtain ⟨S4, eS4⟩ : ∃ z, z = m_si S2 b1 (((0 : Int32) + x1)).toNatClampNeg r3 := ⟨_, rfl⟩
    rw [← eS4]
    replace h := h S4 eS4
    have hk_a0 : m_kd S4 a0 = 10 := by rw [eS4]; exact hk_a0
    have hk_b1 : m_kd S4 b1 = 100 := by rw [eS4]; exact hk_b1
    refine mj_aload_n dX11_takeRoom_156 rfl rfl ?_
    obtain ⟨b5, eb5, h⟩ := h
    refine mj_getP dX11_takeRoom_157 fl_X11_58_10 hk_a0 rfl ⟨b5, eb5, fun hk_b5 => ?_⟩
    refine mj_bipush (v := 10) dX11_takeRoom_160 (by decide) ?_
    refine mj_dup2 dX11_takeRoom_162 rfl rfl ?_
    refine mj_iald dX11_takeRoom_163 (Or.inl hk_b5) ⟨h.1, ?_⟩
    replace h := h.2
    refine mj_aload_n dX11_takeRoom_164 rfl rfl ?_
    refine mj_iload_n dX11_takeRoom_165 rfl rfl ?_
    refine mj_iconst (v := 5) dX11_takeRoom_166 (by decide) ?_
    refine mj_callVi (as := [.int x1, .int (5 : Int32)]) (st := [.int (m_gi S4 b5 ((10 : Int32)).toNatClampNeg), .int (10 : Int32), .ref b5]) dX11_takeRoom_167 cal_X11_of lk_X11_270 im_X11_of se_X11_of (ci := 10) rfl (by decide) hk_a0 h rfl (Nat.le_of_ble_eq_true rfl) (by decide) ⟨Nat.le_of_ble_eq_true rfl, Nat.le_of_ble_eq_true rfl⟩ (fun S6 r7 h hn_r7 hp => ?_)
    have hk_a0 : m_kd S6 a0 = 10 := m_kd_pre hp hk_a0 (by decide)
    have hk_b1 : m_kd S6 b1 = 100 := m_kd_pre hp hk_b1 (by decide)
    have hk_b5 : m_kd S6 b5 = 100 := m_kd_pre hp hk_b5 (by decide)
    refine mj_iload_n dX11_takeRoom_170 rfl rfl ?_
    refine mj_ishl dX11_takeRoom_171 ?_
    refine mj_ior dX11_takeRoom_172 ?_
    refine mj_iast dX11_takeRoom_173 hk_b5 ⟨h.1, ?_⟩
    replace h := h.2
    obtain ⟨S8, eS8⟩ : ∃ z, z = m_si S6 b5 ((10 : Int32)).toNatClampNeg ((m_gi S4 b5 ((10 : Int32)).toNatClampNeg) ||| (r7 <<< (x1 &&& 31))) := ⟨_, rfl⟩
    rw [← eS8]
    replace h := h S8 eS8
    have hk_a0 : m_kd S8 a0 = 10 := by rw [eS8]; exact hk_a0
    have hk_b1 : m_kd S8 b1 = 100 := by rw [eS8]; exact hk_b1
    have hk_b5 : m_kd S8 b5 = 100 := by rw [eS8]; exact hk_b5
    obtain ⟨v9, ev9⟩ : ∃ z : Int32, z = x1 + (1 : Int32) := ⟨_, rfl⟩
    refine mj_iinc (v := v9) dX11_takeRoom_174 rfl (by rw [ev9]; rfl) (by decide) rfl rfl ?_
    replace h := h v9 ev9
    refine mj_goto (tgt := 134) dX11_takeRoom_177 (by decide) ?_
    exact h
set_option maxRecDepth 20000 in
set_option maxHeartbeats 1000000 in
theorem b_X11_takeRoom_182 {l : Launch} {G : mj_G} {a0 : Nat} {x1 : Int32} {S : mj_S} {Q : mj_S → Int32 → Prop} (hk_a0 : m_kd S a0 = 10) (h : (((m_gi S a0 27) ≤ x1) → V_X11_takeRoom_215 l G a0 (0 : Int32) S Q) ∧ ((¬ ((m_gi S a0 27) ≤ x1)) → ∃ b1, m_gp S a0 28 = some b1 ∧ (∃ b2, m_gp S a0 24 = some b2 ∧ (vp_in ((2 : Int32) * x1) (m_ln S b2) ∧ (vp_in ((11 : Int32) + x1) (m_ln S b1) ∧ (∀ S3 : mj_S, S3 = m_si S b1 (((11 : Int32) + x1)).toNatClampNeg (m_gi S b2 (((2 : Int32) * x1)).toNatClampNeg) → ∀ v4 : Int32, v4 = x1 + (1 : Int32) → V_X11_takeRoom_182 l G a0 v4 S3 Q)))))) : V_X11_takeRoom_182 l G a0 x1 S Q := by
  refine mj_iload_n dX11_takeRoom_182 rfl rfl ?_
  refine mj_aload_n dX11_takeRoom_183 rfl rfl ?_
  refine mj_getI dX11_takeRoom_184 fl_X11_264_10 hk_a0 rfl ?_
  refine mj_icmp_ge (tgt := 213) dX11_takeRoom_187 (by decide) ⟨fun hc => ?_, fun hc => ?_⟩
  · replace h := h.1 hc
    refine mj_iconst (v := 0) dX11_takeRoom_213 (by decide) ?_
    refine mj_istore_n dX11_takeRoom_214 rfl (by decide) rfl rfl ?_
    exact h
  · replace h := h.2 hc
    refine mj_aload_n dX11_takeRoom_190 rfl rfl ?_
    obtain ⟨b1, eb1, h⟩ := h
    refine mj_getP dX11_takeRoom_191 fl_X11_58_10 hk_a0 rfl ⟨b1, eb1, fun hk_b1 => ?_⟩
    refine mj_bipush (v := 11) dX11_takeRoom_194 (by decide) ?_
    refine mj_iload_n dX11_takeRoom_196 rfl rfl ?_
    refine mj_iadd dX11_takeRoom_197 ?_
    refine mj_aload_n dX11_takeRoom_198 rfl rfl ?_
    obtain ⟨b2, eb2, h⟩ := h
    refine mj_getP dX11_takeRoom_199 fl_X11_55_10 hk_a0 rfl ⟨b2, eb2, fun hk_b2 => ?_⟩
    refine mj_iconst (v := 2) dX11_takeRoom_202 (by decide) ?_
    refine mj_iload_n dX11_takeRoom_203 rfl rfl ?_
    refine mj_imul dX11_takeRoom_204 ?_
    refine mj_iald dX11_takeRoom_205 (Or.inl hk_b2) ⟨h.1, ?_⟩
    replace h := h.2
    refine mj_iast dX11_takeRoom_206 hk_b1 ⟨h.1, ?_⟩
    replace h := h.2
    obtain ⟨S3, eS3⟩ : ∃ z, z = m_si S b1 (((11 : Int32) + x1)).toNatClampNeg (m_gi S b2 (((2 : Int32) * x1)).toNatClampNeg) := ⟨_, rfl⟩
    rw [← eS3]
    replace h := h S3 eS3
    have hk_a0 : m_kd S3 a0 = 10 := by rw [eS3]; exact hk_a0
    have hk_b1 : m_kd S3 b1 = 100 := by rw [eS3]; exact hk_b1
    have hk_b2 : m_kd S3 b2 = 100 := by rw [eS3]; exact hk_b2
    obtain ⟨v4, ev4⟩ : ∃ z : Int32, z = x1 + (1 : Int32) := ⟨_, rfl⟩
    refine mj_iinc (v := v4) dX11_takeRoom_207 rfl (by rw [ev4]; rfl) (by decide) rfl rfl ?_
    replace h := h v4 ev4
    refine mj_goto (tgt := 182) dX11_takeRoom_210 (by decide) ?_
    exact h
set_option maxRecDepth 20000 in
set_option maxHeartbeats 1000000 in
theorem b_X11_takeRoom_215 {l : Launch} {G : mj_G} {a0 : Nat} {x1 : Int32} {S : mj_S} {Q : mj_S → Int32 → Prop} (hk_a0 : m_kd S a0 = 10) (h : ((((4 : Int32) * (m_gi S a0 25)) ≤ x1) → ∀ S1 : mj_S, S1 = m_si S a0 44 (0 : Int32) → ∀ S2 : mj_S, S2 = m_si S1 a0 37 (0 : Int32) → ∀ S3 : mj_S, S3 = m_si S2 a0 46 (0 : Int32) → Q S3 (m_gi S3 a0 25)) ∧ ((¬ (((4 : Int32) * (m_gi S a0 25)) ≤ x1)) → ∃ b4, m_gp S a0 32 = some b4 ∧ (¬ (4 : Int32) = 0 ∧ (¬ (4 : Int32) = 0 ∧ (M_X11_beside l G a0 (x1 / (4 : Int32)) (x1 - x1 / (4 : Int32) * (4 : Int32)) S (fun S5 r6 => vp_in x1 (m_ln S5 b4) ∧ (∀ S7 : mj_S, S7 = m_si S5 b4 (x1).toNatClampNeg r6 → ∃ b8, m_gp S7 a0 33 = some b8 ∧ (∃ b9, m_gp S7 a0 32 = some b9 ∧ (vp_in x1 (m_ln S7 b9) ∧ (((¬ (m_gi S7 b9 (x1).toNatClampNeg) = (-1 : Int32)) → ¬ (4 : Int32) = 0 ∧ (∃ b10, m_gp S7 a0 32 = some b10 ∧ (vp_in x1 (m_ln S7 b10) ∧ (M_X11_between l G a0 (x1 / (4 : Int32)) (m_gi S7 b10 (x1).toNatClampNeg) S7 (fun S11 r12 => vp_in x1 (m_ln S11 b8) ∧ (∀ S13 : mj_S, S13 = m_si S11 b8 (x1).toNatClampNeg r12 → ∀ v14 : Int32, v14 = x1 + (1 : Int32) → V_X11_takeRoom_215 l G a0 v14 S13 Q)))))) ∧ (((m_gi S7 b9 (x1).toNatClampNeg) = (-1 : Int32)) → vp_in x1 (m_ln S7 b8) ∧ (∀ S15 : mj_S, S15 = m_si S7 b8 (x1).toNatClampNeg (-1 : Int32) → ∀ v16 : Int32, v16 = x1 + (1 : Int32) → V_X11_takeRoom_215 l G a0 v16 S15 Q)))))))))))) : V_X11_takeRoom_215 l G a0 x1 S Q := by
  refine mj_iload_n dX11_takeRoom_215 rfl rfl ?_
  refine mj_iconst (v := 4) dX11_takeRoom_216 (by decide) ?_
  refine mj_aload_n dX11_takeRoom_217 rfl rfl ?_
  refine mj_getI dX11_takeRoom_218 fl_X11_267_10 hk_a0 rfl ?_
  refine mj_imul dX11_takeRoom_221 ?_
  refine mj_icmp_ge (tgt := 280) dX11_takeRoom_222 (by decide) ⟨fun hc => ?_, fun hc => ?_⟩
  · replace h := h.1 hc
    refine mj_aload_n dX11_takeRoom_280 rfl rfl ?_
    refine mj_iconst (v := 0) dX11_takeRoom_281 (by decide) ?_
    refine mj_putI dX11_takeRoom_282 fl_X11_279_10 hk_a0 (Or.inl rfl) rfl rfl rfl ?_
    obtain ⟨S1, eS1⟩ : ∃ z, z = m_si S a0 44 (0 : Int32) := ⟨_, rfl⟩
    rw [← eS1]
    replace h := h S1 eS1
    have hk_a0 : m_kd S1 a0 = 10 := by rw [eS1]; exact hk_a0
    refine mj_aload_n dX11_takeRoom_285 rfl rfl ?_
    refine mj_iconst (v := 0) dX11_takeRoom_286 (by decide) ?_
    refine mj_putI dX11_takeRoom_287 fl_X11_282_10 hk_a0 (Or.inl rfl) rfl rfl rfl ?_
    obtain ⟨S2, eS2⟩ : ∃ z, z = m_si S1 a0 37 (0 : Int32) := ⟨_, rfl⟩
    rw [← eS2]
    replace h := h S2 eS2
    have hk_a0 : m_kd S2 a0 = 10 := by rw [eS2]; exact hk_a0
    refine mj_aload_n dX11_takeRoom_290 rfl rfl ?_
    refine mj_iconst (v := 0) dX11_takeRoom_291 (by decide) ?_
    refine mj_putI dX11_takeRoom_292 fl_X11_285_10 hk_a0 (Or.inl rfl) rfl rfl rfl ?_
    obtain ⟨S3, eS3⟩ : ∃ z, z = m_si S2 a0 46 (0 : Int32) := ⟨_, rfl⟩
    rw [← eS3]
    replace h := h S3 eS3
    have hk_a0 : m_kd S3 a0 = 10 := by rw [eS3]; exact hk_a0
    refine mj_aload_n dX11_takeRoom_295 rfl rfl ?_
    refine mj_getI dX11_takeRoom_296 fl_X11_267_10 hk_a0 rfl ?_
    exact mj_reti dX11_takeRoom_299 rfl ⟨Nat.le_of_ble_eq_true rfl, Nat.le_of_ble_eq_true rfl⟩ h
  · replace h := h.2 hc
    refine mj_aload_n dX11_takeRoom_225 rfl rfl ?_
    obtain ⟨b4, eb4, h⟩ := h
    refine mj_getP dX11_takeRoom_226 fl_X11_68_10 hk_a0 rfl ⟨b4, eb4, fun hk_b4 => ?_⟩
    refine mj_iload_n dX11_takeRoom_229 rfl rfl ?_
    refine mj_aload_n dX11_takeRoom_230 rfl rfl ?_
    refine mj_iload_n dX11_takeRoom_231 rfl rfl ?_
    refine mj_iconst (v := 4) dX11_takeRoom_232 (by decide) ?_
    refine mj_idiv dX11_takeRoom_233 h.1 ?_
    replace h := h.2
    refine mj_iload_n dX11_takeRoom_234 rfl rfl ?_
    refine mj_iconst (v := 4) dX11_takeRoom_235 (by decide) ?_
    refine mj_irem dX11_takeRoom_236 h.1 ?_
    replace h := h.2
    refine mj_callVi (as := [.int (x1 / (4 : Int32)), .int (x1 - x1 / (4 : Int32) * (4 : Int32))]) (st := [.int x1, .ref b4]) dX11_takeRoom_237 cal_X11_beside lk_X11_273 im_X11_beside se_X11_beside (ci := 10) rfl (by decide) hk_a0 h rfl (Nat.le_of_ble_eq_true rfl) (by decide) ⟨Nat.le_of_ble_eq_true rfl, Nat.le_of_ble_eq_true rfl⟩ (fun S5 r6 h hn_r6 hp => ?_)
    have hk_a0 : m_kd S5 a0 = 10 := m_kd_pre hp hk_a0 (by decide)
    have hk_b4 : m_kd S5 b4 = 100 := m_kd_pre hp hk_b4 (by decide)
    refine mj_iast dX11_takeRoom_240 hk_b4 ⟨h.1, ?_⟩
    replace h := h.2
    obtain ⟨S7, eS7⟩ : ∃ z, z = m_si S5 b4 (x1).toNatClampNeg r6 := ⟨_, rfl⟩
    rw [← eS7]
    replace h := h S7 eS7
    have hk_a0 : m_kd S7 a0 = 10 := by rw [eS7]; exact hk_a0
    have hk_b4 : m_kd S7 b4 = 100 := by rw [eS7]; exact hk_b4
    refine mj_aload_n dX11_takeRoom_241 rfl rfl ?_
    obtain ⟨b8, eb8, h⟩ := h
    refine mj_getP dX11_takeRoom_242 fl_X11_71_10 hk_a0 rfl ⟨b8, eb8, fun hk_b8 => ?_⟩
    refine mj_iload_n dX11_takeRoom_245 rfl rfl ?_
    refine mj_aload_n dX11_takeRoom_246 rfl rfl ?_
    obtain ⟨b9, eb9, h⟩ := h
    refine mj_getP dX11_takeRoom_247 fl_X11_68_10 hk_a0 rfl ⟨b9, eb9, fun hk_b9 => ?_⟩
    refine mj_iload_n dX11_takeRoom_250 rfl rfl ?_
    refine mj_iald dX11_takeRoom_251 (Or.inl hk_b9) ⟨h.1, ?_⟩
    replace h := h.2
    refine mj_iconst (v := (-1)) dX11_takeRoom_252 (by decide) ?_
    refine mj_icmp_ne (tgt := 260) dX11_takeRoom_253 (by decide) ⟨fun hc => ?_, fun hc => ?_⟩
    · replace h := h.1 hc
      refine mj_aload_n dX11_takeRoom_260 rfl rfl ?_
      refine mj_iload_n dX11_takeRoom_261 rfl rfl ?_
      refine mj_iconst (v := 4) dX11_takeRoom_262 (by decide) ?_
      refine mj_idiv dX11_takeRoom_263 h.1 ?_
      replace h := h.2
      refine mj_aload_n dX11_takeRoom_264 rfl rfl ?_
      obtain ⟨b10, eb10, h⟩ := h
      refine mj_getP dX11_takeRoom_265 fl_X11_68_10 hk_a0 rfl ⟨b10, eb10, fun hk_b10 => ?_⟩
      refine mj_iload_n dX11_takeRoom_268 rfl rfl ?_
      refine mj_iald dX11_takeRoom_269 (Or.inl hk_b10) ⟨h.1, ?_⟩
      replace h := h.2
      refine mj_callVi (as := [.int (x1 / (4 : Int32)), .int (m_gi S7 b10 (x1).toNatClampNeg)]) (st := [.int x1, .ref b8]) dX11_takeRoom_270 cal_X11_between lk_X11_276 im_X11_between se_X11_between (ci := 10) rfl (by decide) hk_a0 h rfl (Nat.le_of_ble_eq_true rfl) (by decide) ⟨Nat.le_of_ble_eq_true rfl, Nat.le_of_ble_eq_true rfl⟩ (fun S11 r12 h hn_r12 hp => ?_)
      have hk_a0 : m_kd S11 a0 = 10 := m_kd_pre hp hk_a0 (by decide)
      have hk_b4 : m_kd S11 b4 = 100 := m_kd_pre hp hk_b4 (by decide)
      have hk_b8 : m_kd S11 b8 = 100 := m_kd_pre hp hk_b8 (by decide)
      have hk_b9 : m_kd S11 b9 = 100 := m_kd_pre hp hk_b9 (by decide)
      have hk_b10 : m_kd S11 b10 = 100 := m_kd_pre hp hk_b10 (by decide)
      refine mj_iast dX11_takeRoom_273 hk_b8 ⟨h.1, ?_⟩
      replace h := h.2
      obtain ⟨S13, eS13⟩ : ∃ z, z = m_si S11 b8 (x1).toNatClampNeg r12 := ⟨_, rfl⟩
      rw [← eS13]
      replace h := h S13 eS13
      have hk_a0 : m_kd S13 a0 = 10 := by rw [eS13]; exact hk_a0
      have hk_b4 : m_kd S13 b4 = 100 := by rw [eS13]; exact hk_b4
      have hk_b8 : m_kd S13 b8 = 100 := by rw [eS13]; exact hk_b8
      have hk_b9 : m_kd S13 b9 = 100 := by rw [eS13]; exact hk_b9
      have hk_b10 : m_kd S13 b10 = 100 := by rw [eS13]; exact hk_b10
      obtain ⟨v14, ev14⟩ : ∃ z : Int32, z = x1 + (1 : Int32) := ⟨_, rfl⟩
      refine mj_iinc (v := v14) dX11_takeRoom_274 rfl (by rw [ev14]; rfl) (by decide) rfl rfl ?_
      replace h := h v14 ev14
      refine mj_goto (tgt := 215) dX11_takeRoom_277 (by decide) ?_
      exact h
    · replace h := h.2 hc
      refine mj_iconst (v := (-1)) dX11_takeRoom_256 (by decide) ?_
      refine mj_goto (tgt := 273) dX11_takeRoom_257 (by decide) ?_
      refine mj_iast dX11_takeRoom_273 hk_b8 ⟨h.1, ?_⟩
      replace h := h.2
      obtain ⟨S15, eS15⟩ : ∃ z, z = m_si S7 b8 (x1).toNatClampNeg (-1 : Int32) := ⟨_, rfl⟩
      rw [← eS15]
      replace h := h S15 eS15
      have hk_a0 : m_kd S15 a0 = 10 := by rw [eS15]; exact hk_a0
      have hk_b4 : m_kd S15 b4 = 100 := by rw [eS15]; exact hk_b4
      have hk_b8 : m_kd S15 b8 = 100 := by rw [eS15]; exact hk_b8
      have hk_b9 : m_kd S15 b9 = 100 := by rw [eS15]; exact hk_b9
      obtain ⟨v16, ev16⟩ : ∃ z : Int32, z = x1 + (1 : Int32) := ⟨_, rfl⟩
      refine mj_iinc (v := v16) dX11_takeRoom_274 rfl (by rw [ev16]; rfl) (by decide) rfl rfl ?_
      replace h := h v16 ev16
      refine mj_goto (tgt := 215) dX11_takeRoom_277 (by decide) ?_
      exact h
abbrev V_X11_text_0 (l : Launch) (G : mj_G) (a0 : Nat) (x1 : Int32) (S : mj_S) (Q : mj_S → Int32 → Prop) : Prop := mj_V l G (mj_room 83 0 0) RX11 cX11_text 2 (some .int) false 0 [some (.ref a0), some (.int x1)] [] S 0 0 (mj_std G (some .int) (mj_room 83 0 0) (mj_qi Q))
abbrev V_X11_text_22 (l : Launch) (G : mj_G) (a0 : Nat) (x1 : Int32) (S : mj_S) (Q : mj_S → Int32 → Prop) : Prop := mj_V l G (mj_room 83 0 0) RX11 cX11_text 2 (some .int) false 22 [some (.ref a0), some (.int x1)] [] S 0 0 (mj_std G (some .int) (mj_room 83 0 0) (mj_qi Q))
theorem e_X11_text {l : Launch} {G : mj_G} {a0 : Nat} {x1 : Int32} {S : mj_S} {Q : mj_S → Int32 → Prop} (h : V_X11_text_0 l G a0 x1 S Q) : M_X11_text l G a0 x1 S Q := mj_enter (r := 0) (ini := false) (by decide +kernel) (fun h => by cases h) (fun _ => Nat.le_of_ble_eq_true rfl) rfl h
set_option maxRecDepth 20000 in
set_option maxHeartbeats 1000000 in
theorem b_X11_text_0 {l : Launch} {G : mj_G} {a0 : Nat} {x1 : Int32} {S : mj_S} {Q : mj_S → Int32 → Prop} (hk_a0 : m_kd S a0 = 10) (h : ((¬ x1 = 0) → V_X11_text_22 l G a0 x1 S Q) ∧ ((x1 = 0) → M_X11_readRoom l G a0 S (fun S1 r2 => ((¬ r2 = (-1 : Int32)) → V_X11_text_22 l G a0 x1 S1 Q) ∧ ((r2 = (-1 : Int32)) → ∀ S3 : mj_S, S3 = m_si S1 a0 2 (0 : Int32) → M_X11_takeRoom l G a0 S3 (fun S4 r5 => Q S4 r5))))) : V_X11_text_0 l G a0 x1 S Q := by
  refine mj_iload_n dX11_text_0 rfl rfl ?_
  refine mj_if_ne (tgt := 22) dX11_text_1 (by decide) ⟨fun hc => ?_, fun hc => ?_⟩
  · replace h := h.1 hc
    exact h
  · replace h := h.2 hc
    refine mj_aload_n dX11_text_4 rfl rfl ?_
    refine mj_callVi (as := []) (st := []) dX11_text_5 cal_X11_readRoom lk_X11_255 im_X11_readRoom se_X11_readRoom (ci := 10) rfl (by decide) hk_a0 h rfl (Nat.le_of_ble_eq_true rfl) (by decide) ⟨Nat.le_of_ble_eq_true rfl, Nat.le_of_ble_eq_true rfl⟩ (fun S1 r2 h hn_r2 hp => ?_)
    have hk_a0 : m_kd S1 a0 = 10 := m_kd_pre hp hk_a0 (by decide)
    refine mj_iconst (v := (-1)) dX11_text_8 (by decide) ?_
    refine mj_icmp_ne (tgt := 22) dX11_text_9 (by decide) ⟨fun hc => ?_, fun hc => ?_⟩
    · replace h := h.1 hc
      exact h
    · replace h := h.2 hc
      refine mj_aload_n dX11_text_12 rfl rfl ?_
      refine mj_iconst (v := 0) dX11_text_13 (by decide) ?_
      refine mj_putI dX11_text_14 fl_X11_109_10 hk_a0 (Or.inl rfl) rfl rfl rfl ?_
      obtain ⟨S3, eS3⟩ : ∃ z, z = m_si S1 a0 2 (0 : Int32) := ⟨_, rfl⟩
      rw [← eS3]
      replace h := h S3 eS3
      have hk_a0 : m_kd S3 a0 = 10 := by rw [eS3]; exact hk_a0
      refine mj_aload_n dX11_text_17 rfl rfl ?_
      refine mj_callVi (as := []) (st := []) dX11_text_18 cal_X11_takeRoom lk_X11_289 im_X11_takeRoom se_X11_takeRoom (ci := 10) rfl (by decide) hk_a0 h rfl (Nat.le_of_ble_eq_true rfl) (by decide) ⟨Nat.le_of_ble_eq_true rfl, Nat.le_of_ble_eq_true rfl⟩ (fun S4 r5 h hn_r5 hp => ?_)
      have hk_a0 : m_kd S4 a0 = 10 := m_kd_pre hp hk_a0 (by decide)
      exact mj_reti dX11_text_21 rfl ⟨Nat.le_of_ble_eq_true rfl, Nat.le_of_ble_eq_true rfl⟩ h
set_option maxRecDepth 20000 in
set_option maxHeartbeats 1000000 in
theorem b_X11_text_22 {l : Launch} {G : mj_G} {a0 : Nat} {x1 : Int32} {S : mj_S} {Q : mj_S → Int32 → Prop} (hk_a0 : m_kd S a0 = 10) (h : ((¬ x1 = (1 : Int32)) → Q S (-1 : Int32)) ∧ ((x1 = (1 : Int32)) → (((4 : Int32) ≤ (m_gi S a0 13)) → Q S (-1 : Int32)) ∧ ((¬ ((4 : Int32) ≤ (m_gi S a0 13))) → M_X11_readLaw l G a0 (m_gi S a0 13) S (fun S1 r2 => ((¬ r2 = (-1 : Int32)) → Q S1 (-1 : Int32)) ∧ ((r2 = (-1 : Int32)) → ∀ S3 : mj_S, S3 = m_si S1 a0 2 (0 : Int32) → ∀ S4 : mj_S, S4 = m_si S3 a0 13 ((m_gi S3 a0 13) + (1 : Int32)) → Q S4 ((m_gi S4 a0 13) - (1 : Int32))))))) : V_X11_text_22 l G a0 x1 S Q := by
  refine mj_iload_n dX11_text_22 rfl rfl ?_
  refine mj_iconst (v := 1) dX11_text_23 (by decide) ?_
  refine mj_icmp_ne (tgt := 69) dX11_text_24 (by decide) ⟨fun hc => ?_, fun hc => ?_⟩
  · replace h := h.1 hc
    refine mj_iconst (v := (-1)) dX11_text_69 (by decide) ?_
    exact mj_reti dX11_text_70 rfl ⟨Nat.le_of_ble_eq_true rfl, Nat.le_of_ble_eq_true rfl⟩ h
  · replace h := h.2 hc
    refine mj_aload_n dX11_text_27 rfl rfl ?_
    refine mj_getI dX11_text_28 fl_X11_292_10 hk_a0 rfl ?_
    refine mj_iconst (v := 4) dX11_text_31 (by decide) ?_
    refine mj_icmp_ge (tgt := 69) dX11_text_32 (by decide) ⟨fun hc => ?_, fun hc => ?_⟩
    · replace h := h.1 hc
      refine mj_iconst (v := (-1)) dX11_text_69 (by decide) ?_
      exact mj_reti dX11_text_70 rfl ⟨Nat.le_of_ble_eq_true rfl, Nat.le_of_ble_eq_true rfl⟩ h
    · replace h := h.2 hc
      refine mj_aload_n dX11_text_35 rfl rfl ?_
      refine mj_aload_n dX11_text_36 rfl rfl ?_
      refine mj_getI dX11_text_37 fl_X11_292_10 hk_a0 rfl ?_
      refine mj_callVi (as := [.int (m_gi S a0 13)]) (st := []) dX11_text_40 cal_X11_readLaw lk_X11_258 im_X11_readLaw se_X11_readLaw (ci := 10) rfl (by decide) hk_a0 h rfl (Nat.le_of_ble_eq_true rfl) (by decide) ⟨Nat.le_of_ble_eq_true rfl, Nat.le_of_ble_eq_true rfl⟩ (fun S1 r2 h hn_r2 hp => ?_)
      have hk_a0 : m_kd S1 a0 = 10 := m_kd_pre hp hk_a0 (by decide)
      refine mj_iconst (v := (-1)) dX11_text_43 (by decide) ?_
      refine mj_icmp_ne (tgt := 69) dX11_text_44 (by decide) ⟨fun hc => ?_, fun hc => ?_⟩
      · replace h := h.1 hc
        refine mj_iconst (v := (-1)) dX11_text_69 (by decide) ?_
        exact mj_reti dX11_text_70 rfl ⟨Nat.le_of_ble_eq_true rfl, Nat.le_of_ble_eq_true rfl⟩ h
      · replace h := h.2 hc
        refine mj_aload_n dX11_text_47 rfl rfl ?_
        refine mj_iconst (v := 0) dX11_text_48 (by decide) ?_
        refine mj_putI dX11_text_49 fl_X11_109_10 hk_a0 (Or.inl rfl) rfl rfl rfl ?_
        obtain ⟨S3, eS3⟩ : ∃ z, z = m_si S1 a0 2 (0 : Int32) := ⟨_, rfl⟩
        rw [← eS3]
        replace h := h S3 eS3
        have hk_a0 : m_kd S3 a0 = 10 := by rw [eS3]; exact hk_a0
        refine mj_aload_n dX11_text_52 rfl rfl ?_
        refine mj_dup dX11_text_53 rfl ?_
        refine mj_getI dX11_text_54 fl_X11_292_10 hk_a0 rfl ?_
        refine mj_iconst (v := 1) dX11_text_57 (by decide) ?_
        refine mj_iadd dX11_text_58 ?_
        refine mj_putI dX11_text_59 fl_X11_292_10 hk_a0 (Or.inl rfl) rfl rfl rfl ?_
        obtain ⟨S4, eS4⟩ : ∃ z, z = m_si S3 a0 13 ((m_gi S3 a0 13) + (1 : Int32)) := ⟨_, rfl⟩
        rw [← eS4]
        replace h := h S4 eS4
        have hk_a0 : m_kd S4 a0 = 10 := by rw [eS4]; exact hk_a0
        refine mj_aload_n dX11_text_62 rfl rfl ?_
        refine mj_getI dX11_text_63 fl_X11_292_10 hk_a0 rfl ?_
        refine mj_iconst (v := 1) dX11_text_66 (by decide) ?_
        refine mj_isub dX11_text_67 ?_
        exact mj_reti dX11_text_68 rfl ⟨Nat.le_of_ble_eq_true rfl, Nat.le_of_ble_eq_true rfl⟩ h
abbrev V_X11_of_0 (l : Launch) (G : mj_G) (a0 : Nat) (x1 : Int32) (x2 : Int32) (S : mj_S) (Q : mj_S → Int32 → Prop) : Prop := mj_V l G (mj_room 1 0 0) RX11 cX11_of 3 (some .int) false 0 [some (.ref a0), some (.int x1), some (.int x2)] [] S 0 0 (mj_std G (some .int) (mj_room 1 0 0) (mj_qi Q))
theorem e_X11_of {l : Launch} {G : mj_G} {a0 : Nat} {x1 : Int32} {x2 : Int32} {S : mj_S} {Q : mj_S → Int32 → Prop} (h : V_X11_of_0 l G a0 x1 x2 S Q) : M_X11_of l G a0 x1 x2 S Q := mj_enter (r := 0) (ini := false) (by decide +kernel) (fun h => by cases h) (fun _ => Nat.le_of_ble_eq_true rfl) rfl h
set_option maxRecDepth 20000 in
set_option maxHeartbeats 1000000 in
theorem b_X11_of_0 {l : Launch} {G : mj_G} {a0 : Nat} {x1 : Int32} {x2 : Int32} {S : mj_S} {Q : mj_S → Int32 → Prop} (hk_a0 : m_kd S a0 = 10) (h : ∃ b1, m_gp S a0 23 = some b1 ∧ (vp_in (((6 : Int32) * x1) + x2) (m_ln S b1) ∧ (Q S (m_gi S b1 ((((6 : Int32) * x1) + x2)).toNatClampNeg)))) : V_X11_of_0 l G a0 x1 x2 S Q := by
  refine mj_aload_n dX11_of_0 rfl rfl ?_
  obtain ⟨b1, eb1, h⟩ := h
  refine mj_getP dX11_of_1 fl_X11_52_10 hk_a0 rfl ⟨b1, eb1, fun hk_b1 => ?_⟩
  refine mj_bipush (v := 6) dX11_of_4 (by decide) ?_
  refine mj_iload_n dX11_of_6 rfl rfl ?_
  refine mj_imul dX11_of_7 ?_
  refine mj_iload_n dX11_of_8 rfl rfl ?_
  refine mj_iadd dX11_of_9 ?_
  refine mj_iald dX11_of_10 (Or.inl hk_b1) ⟨h.1, ?_⟩
  replace h := h.2
  exact mj_reti dX11_of_11 rfl ⟨Nat.le_of_ble_eq_true rfl, Nat.le_of_ble_eq_true rfl⟩ h
abbrev V_X11_isSquare_0 (l : Launch) (G : mj_G) (a0 : Nat) (x1 : Int32) (S : mj_S) (Q : mj_S → Int32 → Prop) : Prop := mj_V l G (mj_room 2 0 0) RX11 cX11_isSquare 2 (some .boolean) false 0 [some (.ref a0), some (.int x1)] [] S 0 0 (mj_std G (some .boolean) (mj_room 2 0 0) (mj_qi Q))
theorem e_X11_isSquare {l : Launch} {G : mj_G} {a0 : Nat} {x1 : Int32} {S : mj_S} {Q : mj_S → Int32 → Prop} (h : V_X11_isSquare_0 l G a0 x1 S Q) : M_X11_isSquare l G a0 x1 S Q := mj_enter (r := 0) (ini := false) (by decide +kernel) (fun h => by cases h) (fun _ => Nat.le_of_ble_eq_true rfl) rfl h
set_option maxRecDepth 20000 in
set_option maxHeartbeats 1000000 in
theorem b_X11_isSquare_0 {l : Launch} {G : mj_G} {a0 : Nat} {x1 : Int32} {S : mj_S} {Q : mj_S → Int32 → Prop} (hk_a0 : m_kd S a0 = 10) (h : M_X11_in l G x1 (0 : Int32) ((m_gi S a0 25) - (1 : Int32)) S (fun S1 r2 => Q S1 r2)) : V_X11_isSquare_0 l G a0 x1 S Q := by
  refine mj_iload_n dX11_isSquare_0 rfl rfl ?_
  refine mj_iconst (v := 0) dX11_isSquare_1 (by decide) ?_
  refine mj_aload_n dX11_isSquare_2 rfl rfl ?_
  refine mj_getI dX11_isSquare_3 fl_X11_267_10 hk_a0 rfl ?_
  refine mj_iconst (v := 1) dX11_isSquare_6 (by decide) ?_
  refine mj_isub dX11_isSquare_7 ?_
  refine mj_callSi (as := [.int x1, .int (0 : Int32), .int ((m_gi S a0 25) - (1 : Int32))]) (st := []) dX11_isSquare_8 cal_X11_in lk_X11_217 sm_X11_in h rfl (Nat.le_of_ble_eq_true rfl) (by decide) ⟨Nat.le_of_ble_eq_true rfl, Nat.le_of_ble_eq_true rfl⟩ (fun S1 r2 h hn_r2 hp => ?_)
  have hk_a0 : m_kd S1 a0 = 10 := m_kd_pre hp hk_a0 (by decide)
  exact mj_retz dX11_isSquare_11 rfl (hn_r2) ⟨Nat.le_of_ble_eq_true rfl, Nat.le_of_ble_eq_true rfl⟩ h
abbrev V_X11_isCurtain_0 (l : Launch) (G : mj_G) (a0 : Nat) (x1 : Int32) (S : mj_S) (Q : mj_S → Int32 → Prop) : Prop := mj_V l G (mj_room 2 0 0) RX11 cX11_isCurtain 2 (some .boolean) false 0 [some (.ref a0), some (.int x1)] [] S 0 0 (mj_std G (some .boolean) (mj_room 2 0 0) (mj_qi Q))
theorem e_X11_isCurtain {l : Launch} {G : mj_G} {a0 : Nat} {x1 : Int32} {S : mj_S} {Q : mj_S → Int32 → Prop} (h : V_X11_isCurtain_0 l G a0 x1 S Q) : M_X11_isCurtain l G a0 x1 S Q := mj_enter (r := 0) (ini := false) (by decide +kernel) (fun h => by cases h) (fun _ => Nat.le_of_ble_eq_true rfl) rfl h
set_option maxRecDepth 20000 in
set_option maxHeartbeats 1000000 in
theorem b_X11_isCurtain_0 {l : Launch} {G : mj_G} {a0 : Nat} {x1 : Int32} {S : mj_S} {Q : mj_S → Int32 → Prop} (hk_a0 : m_kd S a0 = 10) (h : M_X11_in l G x1 (0 : Int32) ((m_gi S a0 26) - (1 : Int32)) S (fun S1 r2 => Q S1 r2)) : V_X11_isCurtain_0 l G a0 x1 S Q := by
  refine mj_iload_n dX11_isCurtain_0 rfl rfl ?_
  refine mj_iconst (v := 0) dX11_isCurtain_1 (by decide) ?_
  refine mj_aload_n dX11_isCurtain_2 rfl rfl ?_
  refine mj_getI dX11_isCurtain_3 fl_X11_261_10 hk_a0 rfl ?_
  refine mj_iconst (v := 1) dX11_isCurtain_6 (by decide) ?_
  refine mj_isub dX11_isCurtain_7 ?_
  refine mj_callSi (as := [.int x1, .int (0 : Int32), .int ((m_gi S a0 26) - (1 : Int32))]) (st := []) dX11_isCurtain_8 cal_X11_in lk_X11_217 sm_X11_in h rfl (Nat.le_of_ble_eq_true rfl) (by decide) ⟨Nat.le_of_ble_eq_true rfl, Nat.le_of_ble_eq_true rfl⟩ (fun S1 r2 h hn_r2 hp => ?_)
  have hk_a0 : m_kd S1 a0 = 10 := m_kd_pre hp hk_a0 (by decide)
  exact mj_retz dX11_isCurtain_11 rfl (hn_r2) ⟨Nat.le_of_ble_eq_true rfl, Nat.le_of_ble_eq_true rfl⟩ h
abbrev V_X11_isPerson_0 (l : Launch) (G : mj_G) (a0 : Nat) (x1 : Int32) (S : mj_S) (Q : mj_S → Int32 → Prop) : Prop := mj_V l G (mj_room 2 0 0) RX11 cX11_isPerson 2 (some .boolean) false 0 [some (.ref a0), some (.int x1)] [] S 0 0 (mj_std G (some .boolean) (mj_room 2 0 0) (mj_qi Q))
theorem e_X11_isPerson {l : Launch} {G : mj_G} {a0 : Nat} {x1 : Int32} {S : mj_S} {Q : mj_S → Int32 → Prop} (h : V_X11_isPerson_0 l G a0 x1 S Q) : M_X11_isPerson l G a0 x1 S Q := mj_enter (r := 0) (ini := false) (by decide +kernel) (fun h => by cases h) (fun _ => Nat.le_of_ble_eq_true rfl) rfl h
set_option maxRecDepth 20000 in
set_option maxHeartbeats 1000000 in
theorem b_X11_isPerson_0 {l : Launch} {G : mj_G} {a0 : Nat} {x1 : Int32} {S : mj_S} {Q : mj_S → Int32 → Prop} (hk_a0 : m_kd S a0 = 10) (h : M_X11_in l G x1 (0 : Int32) ((m_gi S a0 27) - (1 : Int32)) S (fun S1 r2 => Q S1 r2)) : V_X11_isPerson_0 l G a0 x1 S Q := by
  refine mj_iload_n dX11_isPerson_0 rfl rfl ?_
  refine mj_iconst (v := 0) dX11_isPerson_1 (by decide) ?_
  refine mj_aload_n dX11_isPerson_2 rfl rfl ?_
  refine mj_getI dX11_isPerson_3 fl_X11_264_10 hk_a0 rfl ?_
  refine mj_iconst (v := 1) dX11_isPerson_6 (by decide) ?_
  refine mj_isub dX11_isPerson_7 ?_
  refine mj_callSi (as := [.int x1, .int (0 : Int32), .int ((m_gi S a0 27) - (1 : Int32))]) (st := []) dX11_isPerson_8 cal_X11_in lk_X11_217 sm_X11_in h rfl (Nat.le_of_ble_eq_true rfl) (by decide) ⟨Nat.le_of_ble_eq_true rfl, Nat.le_of_ble_eq_true rfl⟩ (fun S1 r2 h hn_r2 hp => ?_)
  have hk_a0 : m_kd S1 a0 = 10 := m_kd_pre hp hk_a0 (by decide)
  exact mj_retz dX11_isPerson_11 rfl (hn_r2) ⟨Nat.le_of_ble_eq_true rfl, Nat.le_of_ble_eq_true rfl⟩ h
abbrev V_X11_isFallen_0 (l : Launch) (G : mj_G) (a0 : Nat) (x1 : Int32) (S : mj_S) (Q : mj_S → Int32 → Prop) : Prop := mj_V l G (mj_room 1 0 0) RX11 cX11_isFallen 2 (some .boolean) false 0 [some (.ref a0), some (.int x1)] [] S 0 0 (mj_std G (some .boolean) (mj_room 1 0 0) (mj_qi Q))
theorem e_X11_isFallen {l : Launch} {G : mj_G} {a0 : Nat} {x1 : Int32} {S : mj_S} {Q : mj_S → Int32 → Prop} (h : V_X11_isFallen_0 l G a0 x1 S Q) : M_X11_isFallen l G a0 x1 S Q := mj_enter (r := 0) (ini := false) (by decide +kernel) (fun h => by cases h) (fun _ => Nat.le_of_ble_eq_true rfl) rfl h
set_option maxRecDepth 20000 in
set_option maxHeartbeats 1000000 in
theorem b_X11_isFallen_0 {l : Launch} {G : mj_G} {a0 : Nat} {x1 : Int32} {S : mj_S} {Q : mj_S → Int32 → Prop} (hk_a0 : m_kd S a0 = 10) (h : ∃ b1, m_gp S a0 28 = some b1 ∧ (vp_in ((0 : Int32) + x1) (m_ln S b1) ∧ (((¬ (m_gi S b1 (((0 : Int32) + x1)).toNatClampNeg) = 0) → Q S (0 : Int32)) ∧ (((m_gi S b1 (((0 : Int32) + x1)).toNatClampNeg) = 0) → Q S (1 : Int32))))) : V_X11_isFallen_0 l G a0 x1 S Q := by
  refine mj_aload_n dX11_isFallen_0 rfl rfl ?_
  obtain ⟨b1, eb1, h⟩ := h
  refine mj_getP dX11_isFallen_1 fl_X11_58_10 hk_a0 rfl ⟨b1, eb1, fun hk_b1 => ?_⟩
  refine mj_iconst (v := 0) dX11_isFallen_4 (by decide) ?_
  refine mj_iload_n dX11_isFallen_5 rfl rfl ?_
  refine mj_iadd dX11_isFallen_6 ?_
  refine mj_iald dX11_isFallen_7 (Or.inl hk_b1) ⟨h.1, ?_⟩
  replace h := h.2
  refine mj_if_ne (tgt := 15) dX11_isFallen_8 (by decide) ⟨fun hc => ?_, fun hc => ?_⟩
  · replace h := h.1 hc
    refine mj_iconst (v := 0) dX11_isFallen_15 (by decide) ?_
    exact mj_retz dX11_isFallen_16 rfl (rfl) ⟨Nat.le_of_ble_eq_true rfl, Nat.le_of_ble_eq_true rfl⟩ h
  · replace h := h.2 hc
    refine mj_iconst (v := 1) dX11_isFallen_11 (by decide) ?_
    refine mj_goto (tgt := 16) dX11_isFallen_12 (by decide) ?_
    exact mj_retz dX11_isFallen_16 rfl (rfl) ⟨Nat.le_of_ble_eq_true rfl, Nat.le_of_ble_eq_true rfl⟩ h
abbrev V_X11_hangs_0 (l : Launch) (G : mj_G) (a0 : Nat) (x1 : Int32) (S : mj_S) (Q : mj_S → Int32 → Prop) : Prop := mj_V l G (mj_room 3 0 0) RX11 cX11_hangs 2 (some .boolean) false 0 [some (.ref a0), some (.int x1)] [] S 0 0 (mj_std G (some .boolean) (mj_room 3 0 0) (mj_qi Q))
theorem e_X11_hangs {l : Launch} {G : mj_G} {a0 : Nat} {x1 : Int32} {S : mj_S} {Q : mj_S → Int32 → Prop} (h : V_X11_hangs_0 l G a0 x1 S Q) : M_X11_hangs l G a0 x1 S Q := mj_enter (r := 0) (ini := false) (by decide +kernel) (fun h => by cases h) (fun _ => Nat.le_of_ble_eq_true rfl) rfl h
set_option maxRecDepth 20000 in
set_option maxHeartbeats 1000000 in
theorem b_X11_hangs_0 {l : Launch} {G : mj_G} {a0 : Nat} {x1 : Int32} {S : mj_S} {Q : mj_S → Int32 → Prop} (hk_a0 : m_kd S a0 = 10) (h : M_X11_isCurtain l G a0 x1 S (fun S1 r2 => ((r2 = 0) → Q S1 (0 : Int32)) ∧ ((¬ (r2 = 0)) → M_X11_isFallen l G a0 x1 S1 (fun S3 r4 => ((¬ r4 = 0) → Q S3 (0 : Int32)) ∧ ((r4 = 0) → ∃ b5, m_gp S3 a0 28 = some b5 ∧ (vp_in (10 : Int32) (m_ln S3 b5) ∧ (M_X11_has l G (m_gi S3 b5 ((10 : Int32)).toNatClampNeg) x1 S3 (fun S6 r7 => ((¬ r7 = 0) → Q S6 (0 : Int32)) ∧ ((r7 = 0) → Q S6 (1 : Int32)))))))))) : V_X11_hangs_0 l G a0 x1 S Q := by
  refine mj_aload_n dX11_hangs_0 rfl rfl ?_
  refine mj_iload_n dX11_hangs_1 rfl rfl ?_
  refine mj_callVi (as := [.int x1]) (st := []) dX11_hangs_2 cal_X11_isCurtain lk_X11_295 im_X11_isCurtain se_X11_isCurtain (ci := 10) rfl (by decide) hk_a0 h rfl (Nat.le_of_ble_eq_true rfl) (by decide) ⟨Nat.le_of_ble_eq_true rfl, Nat.le_of_ble_eq_true rfl⟩ (fun S1 r2 h hn_r2 hp => ?_)
  have hk_a0 : m_kd S1 a0 = 10 := m_kd_pre hp hk_a0 (by decide)
  refine mj_if_eq (tgt := 34) dX11_hangs_5 (by decide) ⟨fun hc => ?_, fun hc => ?_⟩
  · replace h := h.1 hc
    refine mj_iconst (v := 0) dX11_hangs_34 (by decide) ?_
    exact mj_retz dX11_hangs_35 rfl (rfl) ⟨Nat.le_of_ble_eq_true rfl, Nat.le_of_ble_eq_true rfl⟩ h
  · replace h := h.2 hc
    refine mj_aload_n dX11_hangs_8 rfl rfl ?_
    refine mj_iload_n dX11_hangs_9 rfl rfl ?_
    refine mj_callVi (as := [.int x1]) (st := []) dX11_hangs_10 cal_X11_isFallen lk_X11_298 im_X11_isFallen se_X11_isFallen (ci := 10) rfl (by decide) hk_a0 h rfl (Nat.le_of_ble_eq_true rfl) (by decide) ⟨Nat.le_of_ble_eq_true rfl, Nat.le_of_ble_eq_true rfl⟩ (fun S3 r4 h hn_r4 hp => ?_)
    have hk_a0 : m_kd S3 a0 = 10 := m_kd_pre hp hk_a0 (by decide)
    refine mj_if_ne (tgt := 34) dX11_hangs_13 (by decide) ⟨fun hc => ?_, fun hc => ?_⟩
    · replace h := h.1 hc
      refine mj_iconst (v := 0) dX11_hangs_34 (by decide) ?_
      exact mj_retz dX11_hangs_35 rfl (rfl) ⟨Nat.le_of_ble_eq_true rfl, Nat.le_of_ble_eq_true rfl⟩ h
    · replace h := h.2 hc
      refine mj_aload_n dX11_hangs_16 rfl rfl ?_
      obtain ⟨b5, eb5, h⟩ := h
      refine mj_getP dX11_hangs_17 fl_X11_58_10 hk_a0 rfl ⟨b5, eb5, fun hk_b5 => ?_⟩
      refine mj_bipush (v := 10) dX11_hangs_20 (by decide) ?_
      refine mj_iald dX11_hangs_22 (Or.inl hk_b5) ⟨h.1, ?_⟩
      replace h := h.2
      refine mj_iload_n dX11_hangs_23 rfl rfl ?_
      refine mj_callSi (as := [.int (m_gi S3 b5 ((10 : Int32)).toNatClampNeg), .int x1]) (st := []) dX11_hangs_24 cal_X11_has lk_X11_228 sm_X11_has h rfl (Nat.le_of_ble_eq_true rfl) (by decide) ⟨Nat.le_of_ble_eq_true rfl, Nat.le_of_ble_eq_true rfl⟩ (fun S6 r7 h hn_r7 hp => ?_)
      have hk_a0 : m_kd S6 a0 = 10 := m_kd_pre hp hk_a0 (by decide)
      have hk_b5 : m_kd S6 b5 = 100 := m_kd_pre hp hk_b5 (by decide)
      refine mj_if_ne (tgt := 34) dX11_hangs_27 (by decide) ⟨fun hc => ?_, fun hc => ?_⟩
      · replace h := h.1 hc
        refine mj_iconst (v := 0) dX11_hangs_34 (by decide) ?_
        exact mj_retz dX11_hangs_35 rfl (rfl) ⟨Nat.le_of_ble_eq_true rfl, Nat.le_of_ble_eq_true rfl⟩ h
      · replace h := h.2 hc
        refine mj_iconst (v := 1) dX11_hangs_30 (by decide) ?_
        refine mj_goto (tgt := 35) dX11_hangs_31 (by decide) ?_
        exact mj_retz dX11_hangs_35 rfl (rfl) ⟨Nat.le_of_ble_eq_true rfl, Nat.le_of_ble_eq_true rfl⟩ h
abbrev V_X11_firstSide_0 (l : Launch) (G : mj_G) (a0 : Nat) (x1 : Int32) (S : mj_S) (Q : mj_S → Int32 → Prop) : Prop := mj_V l G (mj_room 2 0 0) RX11 cX11_firstSide 2 (some .int) false 0 [some (.ref a0), some (.int x1)] [] S 0 0 (mj_std G (some .int) (mj_room 2 0 0) (mj_qi Q))
theorem e_X11_firstSide {l : Launch} {G : mj_G} {a0 : Nat} {x1 : Int32} {S : mj_S} {Q : mj_S → Int32 → Prop} (h : V_X11_firstSide_0 l G a0 x1 S Q) : M_X11_firstSide l G a0 x1 S Q := mj_enter (r := 0) (ini := false) (by decide +kernel) (fun h => by cases h) (fun _ => Nat.le_of_ble_eq_true rfl) rfl h
set_option maxRecDepth 20000 in
set_option maxHeartbeats 1000000 in
theorem b_X11_firstSide_0 {l : Launch} {G : mj_G} {a0 : Nat} {x1 : Int32} {S : mj_S} {Q : mj_S → Int32 → Prop} (hk_a0 : m_kd S a0 = 10) (h : M_X11_of l G a0 x1 (0 : Int32) S (fun S1 r2 => Q S1 r2)) : V_X11_firstSide_0 l G a0 x1 S Q := by
  refine mj_aload_n dX11_firstSide_0 rfl rfl ?_
  refine mj_iload_n dX11_firstSide_1 rfl rfl ?_
  refine mj_iconst (v := 0) dX11_firstSide_2 (by decide) ?_
  refine mj_callVi (as := [.int x1, .int (0 : Int32)]) (st := []) dX11_firstSide_3 cal_X11_of lk_X11_270 im_X11_of se_X11_of (ci := 10) rfl (by decide) hk_a0 h rfl (Nat.le_of_ble_eq_true rfl) (by decide) ⟨Nat.le_of_ble_eq_true rfl, Nat.le_of_ble_eq_true rfl⟩ (fun S1 r2 h hn_r2 hp => ?_)
  have hk_a0 : m_kd S1 a0 = 10 := m_kd_pre hp hk_a0 (by decide)
  exact mj_reti dX11_firstSide_6 rfl ⟨Nat.le_of_ble_eq_true rfl, Nat.le_of_ble_eq_true rfl⟩ h
abbrev V_X11_secondSide_0 (l : Launch) (G : mj_G) (a0 : Nat) (x1 : Int32) (S : mj_S) (Q : mj_S → Int32 → Prop) : Prop := mj_V l G (mj_room 2 0 0) RX11 cX11_secondSide 2 (some .int) false 0 [some (.ref a0), some (.int x1)] [] S 0 0 (mj_std G (some .int) (mj_room 2 0 0) (mj_qi Q))
theorem e_X11_secondSide {l : Launch} {G : mj_G} {a0 : Nat} {x1 : Int32} {S : mj_S} {Q : mj_S → Int32 → Prop} (h : V_X11_secondSide_0 l G a0 x1 S Q) : M_X11_secondSide l G a0 x1 S Q := mj_enter (r := 0) (ini := false) (by decide +kernel) (fun h => by cases h) (fun _ => Nat.le_of_ble_eq_true rfl) rfl h
set_option maxRecDepth 20000 in
set_option maxHeartbeats 1000000 in
theorem b_X11_secondSide_0 {l : Launch} {G : mj_G} {a0 : Nat} {x1 : Int32} {S : mj_S} {Q : mj_S → Int32 → Prop} (hk_a0 : m_kd S a0 = 10) (h : M_X11_of l G a0 x1 (0 : Int32) S (fun S1 r2 => M_X11_of l G a0 x1 (1 : Int32) S1 (fun S3 r4 => ((¬ r4 = 0) → ∃ b5, m_gp S3 a0 22 = some b5 ∧ (vp_in (0 : Int32) (m_ln S3 b5) ∧ (Q S3 (r2 + (m_gi S3 b5 ((0 : Int32)).toNatClampNeg))))) ∧ ((r4 = 0) → Q S3 (r2 + (1 : Int32)))))) : V_X11_secondSide_0 l G a0 x1 S Q := by
  refine mj_aload_n dX11_secondSide_0 rfl rfl ?_
  refine mj_iload_n dX11_secondSide_1 rfl rfl ?_
  refine mj_iconst (v := 0) dX11_secondSide_2 (by decide) ?_
  refine mj_callVi (as := [.int x1, .int (0 : Int32)]) (st := []) dX11_secondSide_3 cal_X11_of lk_X11_270 im_X11_of se_X11_of (ci := 10) rfl (by decide) hk_a0 h rfl (Nat.le_of_ble_eq_true rfl) (by decide) ⟨Nat.le_of_ble_eq_true rfl, Nat.le_of_ble_eq_true rfl⟩ (fun S1 r2 h hn_r2 hp => ?_)
  have hk_a0 : m_kd S1 a0 = 10 := m_kd_pre hp hk_a0 (by decide)
  refine mj_aload_n dX11_secondSide_6 rfl rfl ?_
  refine mj_iload_n dX11_secondSide_7 rfl rfl ?_
  refine mj_iconst (v := 1) dX11_secondSide_8 (by decide) ?_
  refine mj_callVi (as := [.int x1, .int (1 : Int32)]) (st := [.int r2]) dX11_secondSide_9 cal_X11_of lk_X11_270 im_X11_of se_X11_of (ci := 10) rfl (by decide) hk_a0 h rfl (Nat.le_of_ble_eq_true rfl) (by decide) ⟨Nat.le_of_ble_eq_true rfl, Nat.le_of_ble_eq_true rfl⟩ (fun S3 r4 h hn_r4 hp => ?_)
  have hk_a0 : m_kd S3 a0 = 10 := m_kd_pre hp hk_a0 (by decide)
  refine mj_if_ne (tgt := 19) dX11_secondSide_12 (by decide) ⟨fun hc => ?_, fun hc => ?_⟩
  · replace h := h.1 hc
    refine mj_aload_n dX11_secondSide_19 rfl rfl ?_
    obtain ⟨b5, eb5, h⟩ := h
    refine mj_getP dX11_secondSide_20 fl_X11_49_10 hk_a0 rfl ⟨b5, eb5, fun hk_b5 => ?_⟩
    refine mj_iconst (v := 0) dX11_secondSide_23 (by decide) ?_
    refine mj_iald dX11_secondSide_24 (Or.inl hk_b5) ⟨h.1, ?_⟩
    replace h := h.2
    refine mj_iadd dX11_secondSide_25 ?_
    exact mj_reti dX11_secondSide_26 rfl ⟨Nat.le_of_ble_eq_true rfl, Nat.le_of_ble_eq_true rfl⟩ h
  · replace h := h.2 hc
    refine mj_iconst (v := 1) dX11_secondSide_15 (by decide) ?_
    refine mj_goto (tgt := 25) dX11_secondSide_16 (by decide) ?_
    refine mj_iadd dX11_secondSide_25 ?_
    exact mj_reti dX11_secondSide_26 rfl ⟨Nat.le_of_ble_eq_true rfl, Nat.le_of_ble_eq_true rfl⟩ h
abbrev V_X11_isAt_0 (l : Launch) (G : mj_G) (a0 : Nat) (x1 : Int32) (x2 : Int32) (S : mj_S) (Q : mj_S → Int32 → Prop) : Prop := mj_V l G (mj_room 3 0 0) RX11 cX11_isAt 3 (some .boolean) false 0 [some (.ref a0), some (.int x1), some (.int x2)] [] S 0 0 (mj_std G (some .boolean) (mj_room 3 0 0) (mj_qi Q))
theorem e_X11_isAt {l : Launch} {G : mj_G} {a0 : Nat} {x1 : Int32} {x2 : Int32} {S : mj_S} {Q : mj_S → Int32 → Prop} (h : V_X11_isAt_0 l G a0 x1 x2 S Q) : M_X11_isAt l G a0 x1 x2 S Q := mj_enter (r := 0) (ini := false) (by decide +kernel) (fun h => by cases h) (fun _ => Nat.le_of_ble_eq_true rfl) rfl h
set_option maxRecDepth 20000 in
set_option maxHeartbeats 1000000 in
theorem b_X11_isAt_0 {l : Launch} {G : mj_G} {a0 : Nat} {x1 : Int32} {x2 : Int32} {S : mj_S} {Q : mj_S → Int32 → Prop} (hk_a0 : m_kd S a0 = 10) (h : M_X11_firstSide l G a0 x1 S (fun S1 r2 => ((r2 = x2) → Q S1 (1 : Int32)) ∧ ((¬ (r2 = x2)) → M_X11_secondSide l G a0 x1 S1 (fun S3 r4 => ((¬ r4 = x2) → Q S3 (0 : Int32)) ∧ ((r4 = x2) → Q S3 (1 : Int32)))))) : V_X11_isAt_0 l G a0 x1 x2 S Q := by
  refine mj_aload_n dX11_isAt_0 rfl rfl ?_
  refine mj_iload_n dX11_isAt_1 rfl rfl ?_
  refine mj_callVi (as := [.int x1]) (st := []) dX11_isAt_2 cal_X11_firstSide lk_X11_301 im_X11_firstSide se_X11_firstSide (ci := 10) rfl (by decide) hk_a0 h rfl (Nat.le_of_ble_eq_true rfl) (by decide) ⟨Nat.le_of_ble_eq_true rfl, Nat.le_of_ble_eq_true rfl⟩ (fun S1 r2 h hn_r2 hp => ?_)
  have hk_a0 : m_kd S1 a0 = 10 := m_kd_pre hp hk_a0 (by decide)
  refine mj_iload_n dX11_isAt_5 rfl rfl ?_
  refine mj_icmp_eq (tgt := 18) dX11_isAt_6 (by decide) ⟨fun hc => ?_, fun hc => ?_⟩
  · replace h := h.1 hc
    refine mj_iconst (v := 1) dX11_isAt_18 (by decide) ?_
    refine mj_goto (tgt := 23) dX11_isAt_19 (by decide) ?_
    exact mj_retz dX11_isAt_23 rfl (rfl) ⟨Nat.le_of_ble_eq_true rfl, Nat.le_of_ble_eq_true rfl⟩ h
  · replace h := h.2 hc
    refine mj_aload_n dX11_isAt_9 rfl rfl ?_
    refine mj_iload_n dX11_isAt_10 rfl rfl ?_
    refine mj_callVi (as := [.int x1]) (st := []) dX11_isAt_11 cal_X11_secondSide lk_X11_304 im_X11_secondSide se_X11_secondSide (ci := 10) rfl (by decide) hk_a0 h rfl (Nat.le_of_ble_eq_true rfl) (by decide) ⟨Nat.le_of_ble_eq_true rfl, Nat.le_of_ble_eq_true rfl⟩ (fun S3 r4 h hn_r4 hp => ?_)
    have hk_a0 : m_kd S3 a0 = 10 := m_kd_pre hp hk_a0 (by decide)
    refine mj_iload_n dX11_isAt_14 rfl rfl ?_
    refine mj_icmp_ne (tgt := 22) dX11_isAt_15 (by decide) ⟨fun hc => ?_, fun hc => ?_⟩
    · replace h := h.1 hc
      refine mj_iconst (v := 0) dX11_isAt_22 (by decide) ?_
      exact mj_retz dX11_isAt_23 rfl (rfl) ⟨Nat.le_of_ble_eq_true rfl, Nat.le_of_ble_eq_true rfl⟩ h
    · replace h := h.2 hc
      refine mj_iconst (v := 1) dX11_isAt_18 (by decide) ?_
      refine mj_goto (tgt := 23) dX11_isAt_19 (by decide) ?_
      exact mj_retz dX11_isAt_23 rfl (rfl) ⟨Nat.le_of_ble_eq_true rfl, Nat.le_of_ble_eq_true rfl⟩ h
abbrev V_X11_hanging_0 (l : Launch) (G : mj_G) (a0 : Nat) (S : mj_S) (Q : mj_S → Int32 → Prop) : Prop := mj_V l G (mj_room 4 0 0) RX11 cX11_hanging 3 (some .int) false 0 [some (.ref a0), none, none] [] S 0 0 (mj_std G (some .int) (mj_room 4 0 0) (mj_qi Q))
abbrev V_X11_hanging_4 (l : Launch) (G : mj_G) (a0 : Nat) (x1 : Int32) (x2 : Int32) (S : mj_S) (Q : mj_S → Int32 → Prop) : Prop := mj_V l G (mj_room 4 0 0) RX11 cX11_hanging 3 (some .int) false 4 [some (.ref a0), some (.int x1), some (.int x2)] [] S 0 0 (mj_std G (some .int) (mj_room 4 0 0) (mj_qi Q))
theorem e_X11_hanging {l : Launch} {G : mj_G} {a0 : Nat} {S : mj_S} {Q : mj_S → Int32 → Prop} (h : V_X11_hanging_0 l G a0 S Q) : M_X11_hanging l G a0 S Q := mj_enter (r := 2) (ini := false) (by decide +kernel) (fun h => by cases h) (fun _ => Nat.le_of_ble_eq_true rfl) rfl h
set_option maxRecDepth 20000 in
set_option maxHeartbeats 1000000 in
theorem b_X11_hanging_0 {l : Launch} {G : mj_G} {a0 : Nat} {S : mj_S} {Q : mj_S → Int32 → Prop} (hk_a0 : m_kd S a0 = 10) (h : V_X11_hanging_4 l G a0 (0 : Int32) (0 : Int32) S Q) : V_X11_hanging_0 l G a0 S Q := by
  refine mj_iconst (v := 0) dX11_hanging_0 (by decide) ?_
  refine mj_istore_n dX11_hanging_1 rfl (by decide) rfl rfl ?_
  refine mj_iconst (v := 0) dX11_hanging_2 (by decide) ?_
  refine mj_istore_n dX11_hanging_3 rfl (by decide) rfl rfl ?_
  exact h
set_option maxRecDepth 20000 in
set_option maxHeartbeats 1000000 in
theorem b_X11_hanging_4 {l : Launch} {G : mj_G} {a0 : Nat} {x1 : Int32} {x2 : Int32} {S : mj_S} {Q : mj_S → Int32 → Prop} (hk_a0 : m_kd S a0 = 10) (h : (((m_gi S a0 26) ≤ x2) → Q S x1) ∧ ((¬ ((m_gi S a0 26) ≤ x2)) → M_X11_hangs l G a0 x2 S (fun S1 r2 => ((r2 = 0) → ∀ v3 : Int32, v3 = (x1 ||| (0 : Int32)) → ∀ v4 : Int32, v4 = x2 + (1 : Int32) → V_X11_hanging_4 l G a0 v3 v4 S1 Q) ∧ ((¬ (r2 = 0)) → ∀ v5 : Int32, v5 = (x1 ||| ((1 : Int32) <<< (x2 &&& 31))) → ∀ v6 : Int32, v6 = x2 + (1 : Int32) → V_X11_hanging_4 l G a0 v5 v6 S1 Q)))) : V_X11_hanging_4 l G a0 x1 x2 S Q := by
  refine mj_iload_n dX11_hanging_4 rfl rfl ?_
  refine mj_aload_n dX11_hanging_5 rfl rfl ?_
  refine mj_getI dX11_hanging_6 fl_X11_261_10 hk_a0 rfl ?_
  refine mj_icmp_ge (tgt := 36) dX11_hanging_9 (by decide) ⟨fun hc => ?_, fun hc => ?_⟩
  · replace h := h.1 hc
    refine mj_iload_n dX11_hanging_36 rfl rfl ?_
    exact mj_reti dX11_hanging_37 rfl ⟨Nat.le_of_ble_eq_true rfl, Nat.le_of_ble_eq_true rfl⟩ h
  · replace h := h.2 hc
    refine mj_iload_n dX11_hanging_12 rfl rfl ?_
    refine mj_aload_n dX11_hanging_13 rfl rfl ?_
    refine mj_iload_n dX11_hanging_14 rfl rfl ?_
    refine mj_callVi (as := [.int x2]) (st := [.int x1]) dX11_hanging_15 cal_X11_hangs lk_X11_307 im_X11_hangs se_X11_hangs (ci := 10) rfl (by decide) hk_a0 h rfl (Nat.le_of_ble_eq_true rfl) (by decide) ⟨Nat.le_of_ble_eq_true rfl, Nat.le_of_ble_eq_true rfl⟩ (fun S1 r2 h hn_r2 hp => ?_)
    have hk_a0 : m_kd S1 a0 = 10 := m_kd_pre hp hk_a0 (by decide)
    refine mj_if_eq (tgt := 27) dX11_hanging_18 (by decide) ⟨fun hc => ?_, fun hc => ?_⟩
    · replace h := h.1 hc
      refine mj_iconst (v := 0) dX11_hanging_27 (by decide) ?_
      refine mj_ior dX11_hanging_28 ?_
      refine mj_nmi (fun v3 ev3 => ?_)
      replace h := h v3 ev3
      refine mj_istore_n dX11_hanging_29 rfl (by decide) rfl rfl ?_
      obtain ⟨v4, ev4⟩ : ∃ z : Int32, z = x2 + (1 : Int32) := ⟨_, rfl⟩
      refine mj_iinc (v := v4) dX11_hanging_30 rfl (by rw [ev4]; rfl) (by decide) rfl rfl ?_
      replace h := h v4 ev4
      refine mj_goto (tgt := 4) dX11_hanging_33 (by decide) ?_
      exact h
    · replace h := h.2 hc
      refine mj_iconst (v := 1) dX11_hanging_21 (by decide) ?_
      refine mj_iload_n dX11_hanging_22 rfl rfl ?_
      refine mj_ishl dX11_hanging_23 ?_
      refine mj_goto (tgt := 28) dX11_hanging_24 (by decide) ?_
      refine mj_ior dX11_hanging_28 ?_
      refine mj_nmi (fun v5 ev5 => ?_)
      replace h := h v5 ev5
      refine mj_istore_n dX11_hanging_29 rfl (by decide) rfl rfl ?_
      obtain ⟨v6, ev6⟩ : ∃ z : Int32, z = x2 + (1 : Int32) := ⟨_, rfl⟩
      refine mj_iinc (v := v6) dX11_hanging_30 rfl (by rw [ev6]; rfl) (by decide) rfl rfl ?_
      replace h := h v6 ev6
      refine mj_goto (tgt := 4) dX11_hanging_33 (by decide) ?_
      exact h
abbrev V_X11_fallen_0 (l : Launch) (G : mj_G) (a0 : Nat) (S : mj_S) (Q : mj_S → Int32 → Prop) : Prop := mj_V l G (mj_room 2 0 0) RX11 cX11_fallen 3 (some .int) false 0 [some (.ref a0), none, none] [] S 0 0 (mj_std G (some .int) (mj_room 2 0 0) (mj_qi Q))
abbrev V_X11_fallen_4 (l : Launch) (G : mj_G) (a0 : Nat) (x1 : Int32) (x2 : Int32) (S : mj_S) (Q : mj_S → Int32 → Prop) : Prop := mj_V l G (mj_room 2 0 0) RX11 cX11_fallen 3 (some .int) false 4 [some (.ref a0), some (.int x1), some (.int x2)] [] S 0 0 (mj_std G (some .int) (mj_room 2 0 0) (mj_qi Q))
theorem e_X11_fallen {l : Launch} {G : mj_G} {a0 : Nat} {S : mj_S} {Q : mj_S → Int32 → Prop} (h : V_X11_fallen_0 l G a0 S Q) : M_X11_fallen l G a0 S Q := mj_enter (r := 2) (ini := false) (by decide +kernel) (fun h => by cases h) (fun _ => Nat.le_of_ble_eq_true rfl) rfl h
set_option maxRecDepth 20000 in
set_option maxHeartbeats 1000000 in
theorem b_X11_fallen_0 {l : Launch} {G : mj_G} {a0 : Nat} {S : mj_S} {Q : mj_S → Int32 → Prop} (hk_a0 : m_kd S a0 = 10) (h : V_X11_fallen_4 l G a0 (0 : Int32) (0 : Int32) S Q) : V_X11_fallen_0 l G a0 S Q := by
  refine mj_iconst (v := 0) dX11_fallen_0 (by decide) ?_
  refine mj_istore_n dX11_fallen_1 rfl (by decide) rfl rfl ?_
  refine mj_iconst (v := 0) dX11_fallen_2 (by decide) ?_
  refine mj_istore_n dX11_fallen_3 rfl (by decide) rfl rfl ?_
  exact h
set_option maxRecDepth 20000 in
set_option maxHeartbeats 1000000 in
theorem b_X11_fallen_4 {l : Launch} {G : mj_G} {a0 : Nat} {x1 : Int32} {x2 : Int32} {S : mj_S} {Q : mj_S → Int32 → Prop} (hk_a0 : m_kd S a0 = 10) (h : (((m_gi S a0 26) ≤ x2) → Q S x1) ∧ ((¬ ((m_gi S a0 26) ≤ x2)) → M_X11_isFallen l G a0 x2 S (fun S1 r2 => ((r2 = 0) → ∀ v3 : Int32, v3 = (x1 ||| (0 : Int32)) → ∀ v4 : Int32, v4 = x2 + (1 : Int32) → V_X11_fallen_4 l G a0 v3 v4 S1 Q) ∧ ((¬ (r2 = 0)) → ∀ v5 : Int32, v5 = (x1 ||| ((1 : Int32) <<< (x2 &&& 31))) → ∀ v6 : Int32, v6 = x2 + (1 : Int32) → V_X11_fallen_4 l G a0 v5 v6 S1 Q)))) : V_X11_fallen_4 l G a0 x1 x2 S Q := by
  refine mj_iload_n dX11_fallen_4 rfl rfl ?_
  refine mj_aload_n dX11_fallen_5 rfl rfl ?_
  refine mj_getI dX11_fallen_6 fl_X11_261_10 hk_a0 rfl ?_
  refine mj_icmp_ge (tgt := 36) dX11_fallen_9 (by decide) ⟨fun hc => ?_, fun hc => ?_⟩
  · replace h := h.1 hc
    refine mj_iload_n dX11_fallen_36 rfl rfl ?_
    exact mj_reti dX11_fallen_37 rfl ⟨Nat.le_of_ble_eq_true rfl, Nat.le_of_ble_eq_true rfl⟩ h
  · replace h := h.2 hc
    refine mj_iload_n dX11_fallen_12 rfl rfl ?_
    refine mj_aload_n dX11_fallen_13 rfl rfl ?_
    refine mj_iload_n dX11_fallen_14 rfl rfl ?_
    refine mj_callVi (as := [.int x2]) (st := [.int x1]) dX11_fallen_15 cal_X11_isFallen lk_X11_298 im_X11_isFallen se_X11_isFallen (ci := 10) rfl (by decide) hk_a0 h rfl (Nat.le_of_ble_eq_true rfl) (by decide) ⟨Nat.le_of_ble_eq_true rfl, Nat.le_of_ble_eq_true rfl⟩ (fun S1 r2 h hn_r2 hp => ?_)
    have hk_a0 : m_kd S1 a0 = 10 := m_kd_pre hp hk_a0 (by decide)
    refine mj_if_eq (tgt := 27) dX11_fallen_18 (by decide) ⟨fun hc => ?_, fun hc => ?_⟩
    · replace h := h.1 hc
      refine mj_iconst (v := 0) dX11_fallen_27 (by decide) ?_
      refine mj_ior dX11_fallen_28 ?_
      refine mj_nmi (fun v3 ev3 => ?_)
      replace h := h v3 ev3
      refine mj_istore_n dX11_fallen_29 rfl (by decide) rfl rfl ?_
      obtain ⟨v4, ev4⟩ : ∃ z : Int32, z = x2 + (1 : Int32) := ⟨_, rfl⟩
      refine mj_iinc (v := v4) dX11_fallen_30 rfl (by rw [ev4]; rfl) (by decide) rfl rfl ?_
      replace h := h v4 ev4
      refine mj_goto (tgt := 4) dX11_fallen_33 (by decide) ?_
      exact h
    · replace h := h.2 hc
      refine mj_iconst (v := 1) dX11_fallen_21 (by decide) ?_
      refine mj_iload_n dX11_fallen_22 rfl rfl ?_
      refine mj_ishl dX11_fallen_23 ?_
      refine mj_goto (tgt := 28) dX11_fallen_24 (by decide) ?_
      refine mj_ior dX11_fallen_28 ?_
      refine mj_nmi (fun v5 ev5 => ?_)
      replace h := h v5 ev5
      refine mj_istore_n dX11_fallen_29 rfl (by decide) rfl rfl ?_
      obtain ⟨v6, ev6⟩ : ∃ z : Int32, z = x2 + (1 : Int32) := ⟨_, rfl⟩
      refine mj_iinc (v := v6) dX11_fallen_30 rfl (by rw [ev6]; rfl) (by decide) rfl rfl ?_
      replace h := h v6 ev6
      refine mj_goto (tgt := 4) dX11_fallen_33 (by decide) ?_
      exact h
abbrev V_X11_between_0 (l : Launch) (G : mj_G) (a0 : Nat) (x1 : Int32) (x2 : Int32) (S : mj_S) (Q : mj_S → Int32 → Prop) : Prop := mj_V l G (mj_room 3 0 0) RX11 cX11_between 4 (some .int) false 0 [some (.ref a0), some (.int x1), some (.int x2), none] [] S 0 0 (mj_std G (some .int) (mj_room 3 0 0) (mj_qi Q))
abbrev V_X11_between_2 (l : Launch) (G : mj_G) (a0 : Nat) (x1 : Int32) (x2 : Int32) (x3 : Int32) (S : mj_S) (Q : mj_S → Int32 → Prop) : Prop := mj_V l G (mj_room 3 0 0) RX11 cX11_between 4 (some .int) false 2 [some (.ref a0), some (.int x1), some (.int x2), some (.int x3)] [] S 0 0 (mj_std G (some .int) (mj_room 3 0 0) (mj_qi Q))
theorem e_X11_between {l : Launch} {G : mj_G} {a0 : Nat} {x1 : Int32} {x2 : Int32} {S : mj_S} {Q : mj_S → Int32 → Prop} (h : V_X11_between_0 l G a0 x1 x2 S Q) : M_X11_between l G a0 x1 x2 S Q := mj_enter (r := 1) (ini := false) (by decide +kernel) (fun h => by cases h) (fun _ => Nat.le_of_ble_eq_true rfl) rfl h
set_option maxRecDepth 20000 in
set_option maxHeartbeats 1000000 in
theorem b_X11_between_0 {l : Launch} {G : mj_G} {a0 : Nat} {x1 : Int32} {x2 : Int32} {S : mj_S} {Q : mj_S → Int32 → Prop} (hk_a0 : m_kd S a0 = 10) (h : V_X11_between_2 l G a0 x1 x2 (0 : Int32) S Q) : V_X11_between_0 l G a0 x1 x2 S Q := by
  refine mj_iconst (v := 0) dX11_between_0 (by decide) ?_
  refine mj_istore_n dX11_between_1 rfl (by decide) rfl rfl ?_
  exact h
set_option maxRecDepth 20000 in
set_option maxHeartbeats 1000000 in
theorem b_X11_between_2 {l : Launch} {G : mj_G} {a0 : Nat} {x1 : Int32} {x2 : Int32} {x3 : Int32} {S : mj_S} {Q : mj_S → Int32 → Prop} (hk_a0 : m_kd S a0 = 10) (h : (((m_gi S a0 26) ≤ x3) → Q S (-1 : Int32)) ∧ ((¬ ((m_gi S a0 26) ≤ x3)) → M_X11_firstSide l G a0 x3 S (fun S1 r2 => M_J9_min_7cf53 l G x1 x2 S1 (fun S3 r4 => ((¬ r2 = r4) → ∀ v5 : Int32, v5 = x3 + (1 : Int32) → V_X11_between_2 l G a0 x1 x2 v5 S3 Q) ∧ ((r2 = r4) → M_X11_secondSide l G a0 x3 S3 (fun S6 r7 => M_J9_max_7cf53 l G x1 x2 S6 (fun S8 r9 => ((¬ r7 = r9) → ∀ v10 : Int32, v10 = x3 + (1 : Int32) → V_X11_between_2 l G a0 x1 x2 v10 S8 Q) ∧ ((r7 = r9) → Q S8 x3)))))))) : V_X11_between_2 l G a0 x1 x2 x3 S Q := by
  refine mj_iload_n dX11_between_2 rfl rfl ?_
  refine mj_aload_n dX11_between_3 rfl rfl ?_
  refine mj_getI dX11_between_4 fl_X11_261_10 hk_a0 rfl ?_
  refine mj_icmp_ge (tgt := 44) dX11_between_7 (by decide) ⟨fun hc => ?_, fun hc => ?_⟩
  · replace h := h.1 hc
    refine mj_iconst (v := (-1)) dX11_between_44 (by decide) ?_
    exact mj_reti dX11_between_45 rfl ⟨Nat.le_of_ble_eq_true rfl, Nat.le_of_ble_eq_true rfl⟩ h
  · replace h := h.2 hc
    refine mj_aload_n dX11_between_10 rfl rfl ?_
    refine mj_iload_n dX11_between_11 rfl rfl ?_
    refine mj_callVi (as := [.int x3]) (st := []) dX11_between_12 cal_X11_firstSide lk_X11_301 im_X11_firstSide se_X11_firstSide (ci := 10) rfl (by decide) hk_a0 h rfl (Nat.le_of_ble_eq_true rfl) (by decide) ⟨Nat.le_of_ble_eq_true rfl, Nat.le_of_ble_eq_true rfl⟩ (fun S1 r2 h hn_r2 hp => ?_)
    have hk_a0 : m_kd S1 a0 = 10 := m_kd_pre hp hk_a0 (by decide)
    refine mj_iload_n dX11_between_15 rfl rfl ?_
    refine mj_iload_n dX11_between_16 rfl rfl ?_
    refine mj_callSi (as := [.int x1, .int x2]) (st := [.int r2]) dX11_between_17 cal_J9_min_7cf53 lk_X11_310 sm_J9_min_7cf53 h rfl (Nat.le_of_ble_eq_true rfl) (by decide) ⟨Nat.le_of_ble_eq_true rfl, Nat.le_of_ble_eq_true rfl⟩ (fun S3 r4 h hn_r4 hp => ?_)
    have hk_a0 : m_kd S3 a0 = 10 := m_kd_pre hp hk_a0 (by decide)
    refine mj_icmp_ne (tgt := 38) dX11_between_20 (by decide) ⟨fun hc => ?_, fun hc => ?_⟩
    · replace h := h.1 hc
      obtain ⟨v5, ev5⟩ : ∃ z : Int32, z = x3 + (1 : Int32) := ⟨_, rfl⟩
      refine mj_iinc (v := v5) dX11_between_38 rfl (by rw [ev5]; rfl) (by decide) rfl rfl ?_
      replace h := h v5 ev5
      refine mj_goto (tgt := 2) dX11_between_41 (by decide) ?_
      exact h
    · replace h := h.2 hc
      refine mj_aload_n dX11_between_23 rfl rfl ?_
      refine mj_iload_n dX11_between_24 rfl rfl ?_
      refine mj_callVi (as := [.int x3]) (st := []) dX11_between_25 cal_X11_secondSide lk_X11_304 im_X11_secondSide se_X11_secondSide (ci := 10) rfl (by decide) hk_a0 h rfl (Nat.le_of_ble_eq_true rfl) (by decide) ⟨Nat.le_of_ble_eq_true rfl, Nat.le_of_ble_eq_true rfl⟩ (fun S6 r7 h hn_r7 hp => ?_)
      have hk_a0 : m_kd S6 a0 = 10 := m_kd_pre hp hk_a0 (by decide)
      refine mj_iload_n dX11_between_28 rfl rfl ?_
      refine mj_iload_n dX11_between_29 rfl rfl ?_
      refine mj_callSi (as := [.int x1, .int x2]) (st := [.int r7]) dX11_between_30 cal_J9_max_7cf53 lk_X11_312 sm_J9_max_7cf53 h rfl (Nat.le_of_ble_eq_true rfl) (by decide) ⟨Nat.le_of_ble_eq_true rfl, Nat.le_of_ble_eq_true rfl⟩ (fun S8 r9 h hn_r9 hp => ?_)
      have hk_a0 : m_kd S8 a0 = 10 := m_kd_pre hp hk_a0 (by decide)
      refine mj_icmp_ne (tgt := 38) dX11_between_33 (by decide) ⟨fun hc => ?_, fun hc => ?_⟩
      · replace h := h.1 hc
        obtain ⟨v10, ev10⟩ : ∃ z : Int32, z = x3 + (1 : Int32) := ⟨_, rfl⟩
        refine mj_iinc (v := v10) dX11_between_38 rfl (by rw [ev10]; rfl) (by decide) rfl rfl ?_
        replace h := h v10 ev10
        refine mj_goto (tgt := 2) dX11_between_41 (by decide) ?_
        exact h
      · replace h := h.2 hc
        refine mj_iload_n dX11_between_36 rfl rfl ?_
        exact mj_reti dX11_between_37 rfl ⟨Nat.le_of_ble_eq_true rfl, Nat.le_of_ble_eq_true rfl⟩ h
abbrev V_X11_beside_0 (l : Launch) (G : mj_G) (a0 : Nat) (x1 : Int32) (x2 : Int32) (S : mj_S) (Q : mj_S → Int32 → Prop) : Prop := mj_V l G (mj_room 2 0 0) RX11 cX11_beside 5 (some .int) false 0 [some (.ref a0), some (.int x1), some (.int x2), none, none] [] S 0 0 (mj_std G (some .int) (mj_room 2 0 0) (mj_qi Q))
abbrev V_X11_beside_26 (l : Launch) (G : mj_G) (a0 : Nat) (x1 : Int32) (x2 : Int32) (s0 : Int32) (s1 : Int32) (S : mj_S) (Q : mj_S → Int32 → Prop) : Prop := mj_V l G (mj_room 2 0 0) RX11 cX11_beside 5 (some .int) false 26 [some (.ref a0), some (.int x1), some (.int x2), none, none] [.int s1, .int s0] S 0 0 (mj_std G (some .int) (mj_room 2 0 0) (mj_qi Q))
abbrev V_X11_beside_55 (l : Launch) (G : mj_G) (a0 : Nat) (x3 : Int32) (s0 : Int32) (s1 : Int32) (S : mj_S) (Q : mj_S → Int32 → Prop) : Prop := mj_V l G (mj_room 2 0 0) RX11 cX11_beside 5 (some .int) false 55 [some (.ref a0), none, none, some (.int x3), none] [.int s1, .int s0] S 0 0 (mj_std G (some .int) (mj_room 2 0 0) (mj_qi Q))
theorem e_X11_beside {l : Launch} {G : mj_G} {a0 : Nat} {x1 : Int32} {x2 : Int32} {S : mj_S} {Q : mj_S → Int32 → Prop} (h : V_X11_beside_0 l G a0 x1 x2 S Q) : M_X11_beside l G a0 x1 x2 S Q := mj_enter (r := 2) (ini := false) (by decide +kernel) (fun h => by cases h) (fun _ => Nat.le_of_ble_eq_true rfl) rfl h
set_option maxRecDepth 20000 in
set_option maxHeartbeats 1000000 in
theorem b_X11_beside_0 {l : Launch} {G : mj_G} {a0 : Nat} {x1 : Int32} {x2 : Int32} {S : mj_S} {Q : mj_S → Int32 → Prop} (hk_a0 : m_kd S a0 = 10) (h : ∃ b1, m_gp S a0 22 = some b1 ∧ (vp_in (0 : Int32) (m_ln S b1) ∧ (¬ (m_gi S b1 ((0 : Int32)).toNatClampNeg) = 0 ∧ (((¬ x2 = 0) → ((¬ x2 = (2 : Int32)) → V_X11_beside_26 l G a0 x1 x2 (x1 - x1 / (m_gi S b1 ((0 : Int32)).toNatClampNeg) * (m_gi S b1 ((0 : Int32)).toNatClampNeg)) (0 : Int32) S Q) ∧ ((x2 = (2 : Int32)) → V_X11_beside_26 l G a0 x1 x2 (x1 - x1 / (m_gi S b1 ((0 : Int32)).toNatClampNeg) * (m_gi S b1 ((0 : Int32)).toNatClampNeg)) (-1 : Int32) S Q)) ∧ ((x2 = 0) → V_X11_beside_26 l G a0 x1 x2 (x1 - x1 / (m_gi S b1 ((0 : Int32)).toNatClampNeg) * (m_gi S b1 ((0 : Int32)).toNatClampNeg)) (1 : Int32) S Q))))) : V_X11_beside_0 l G a0 x1 x2 S Q := by
  refine mj_iload_n dX11_beside_0 rfl rfl ?_
  refine mj_aload_n dX11_beside_1 rfl rfl ?_
  obtain ⟨b1, eb1, h⟩ := h
  refine mj_getP dX11_beside_2 fl_X11_49_10 hk_a0 rfl ⟨b1, eb1, fun hk_b1 => ?_⟩
  refine mj_iconst (v := 0) dX11_beside_5 (by decide) ?_
  refine mj_iald dX11_beside_6 (Or.inl hk_b1) ⟨h.1, ?_⟩
  replace h := h.2
  refine mj_irem dX11_beside_7 h.1 ?_
  replace h := h.2
  refine mj_iload_n dX11_beside_8 rfl rfl ?_
  refine mj_if_ne (tgt := 16) dX11_beside_9 (by decide) ⟨fun hc => ?_, fun hc => ?_⟩
  · replace h := h.1 hc
    refine mj_iload_n dX11_beside_16 rfl rfl ?_
    refine mj_iconst (v := 2) dX11_beside_17 (by decide) ?_
    refine mj_icmp_ne (tgt := 25) dX11_beside_18 (by decide) ⟨fun hc => ?_, fun hc => ?_⟩
    · replace h := h.1 hc
      refine mj_iconst (v := 0) dX11_beside_25 (by decide) ?_
      exact h
    · replace h := h.2 hc
      refine mj_iconst (v := (-1)) dX11_beside_21 (by decide) ?_
      refine mj_goto (tgt := 26) dX11_beside_22 (by decide) ?_
      exact h
  · replace h := h.2 hc
    refine mj_iconst (v := 1) dX11_beside_12 (by decide) ?_
    refine mj_goto (tgt := 26) dX11_beside_13 (by decide) ?_
    exact h
set_option maxRecDepth 20000 in
set_option maxHeartbeats 1000000 in
theorem b_X11_beside_26 {l : Launch} {G : mj_G} {a0 : Nat} {x1 : Int32} {x2 : Int32} {s0 : Int32} {s1 : Int32} {S : mj_S} {Q : mj_S → Int32 → Prop} (hk_a0 : m_kd S a0 = 10) (h : ∀ v1 : Int32, v1 = (s0 + s1) → ∃ b2, m_gp S a0 22 = some b2 ∧ (vp_in (0 : Int32) (m_ln S b2) ∧ (¬ (m_gi S b2 ((0 : Int32)).toNatClampNeg) = 0 ∧ (((¬ x2 = (1 : Int32)) → ((¬ x2 = (3 : Int32)) → V_X11_beside_55 l G a0 v1 (x1 / (m_gi S b2 ((0 : Int32)).toNatClampNeg)) (0 : Int32) S Q) ∧ ((x2 = (3 : Int32)) → V_X11_beside_55 l G a0 v1 (x1 / (m_gi S b2 ((0 : Int32)).toNatClampNeg)) (-1 : Int32) S Q)) ∧ ((x2 = (1 : Int32)) → V_X11_beside_55 l G a0 v1 (x1 / (m_gi S b2 ((0 : Int32)).toNatClampNeg)) (1 : Int32) S Q))))) : V_X11_beside_26 l G a0 x1 x2 s0 s1 S Q := by
  refine mj_iadd dX11_beside_26 ?_
  refine mj_nmi (fun v1 ev1 => ?_)
  replace h := h v1 ev1
  refine mj_istore_n dX11_beside_27 rfl (by decide) rfl rfl ?_
  refine mj_iload_n dX11_beside_28 rfl rfl ?_
  refine mj_aload_n dX11_beside_29 rfl rfl ?_
  obtain ⟨b2, eb2, h⟩ := h
  refine mj_getP dX11_beside_30 fl_X11_49_10 hk_a0 rfl ⟨b2, eb2, fun hk_b2 => ?_⟩
  refine mj_iconst (v := 0) dX11_beside_33 (by decide) ?_
  refine mj_iald dX11_beside_34 (Or.inl hk_b2) ⟨h.1, ?_⟩
  replace h := h.2
  refine mj_idiv dX11_beside_35 h.1 ?_
  replace h := h.2
  refine mj_iload_n dX11_beside_36 rfl rfl ?_
  refine mj_iconst (v := 1) dX11_beside_37 (by decide) ?_
  refine mj_icmp_ne (tgt := 45) dX11_beside_38 (by decide) ⟨fun hc => ?_, fun hc => ?_⟩
  · replace h := h.1 hc
    refine mj_iload_n dX11_beside_45 rfl rfl ?_
    refine mj_iconst (v := 3) dX11_beside_46 (by decide) ?_
    refine mj_icmp_ne (tgt := 54) dX11_beside_47 (by decide) ⟨fun hc => ?_, fun hc => ?_⟩
    · replace h := h.1 hc
      refine mj_iconst (v := 0) dX11_beside_54 (by decide) ?_
      exact mj_lessm [true, false, false, true, false] rfl h
    · replace h := h.2 hc
      refine mj_iconst (v := (-1)) dX11_beside_50 (by decide) ?_
      refine mj_goto (tgt := 55) dX11_beside_51 (by decide) ?_
      exact mj_lessm [true, false, false, true, false] rfl h
  · replace h := h.2 hc
    refine mj_iconst (v := 1) dX11_beside_41 (by decide) ?_
    refine mj_goto (tgt := 55) dX11_beside_42 (by decide) ?_
    exact mj_lessm [true, false, false, true, false] rfl h
set_option maxRecDepth 20000 in
set_option maxHeartbeats 1000000 in
theorem b_X11_beside_55 {l : Launch} {G : mj_G} {a0 : Nat} {x3 : Int32} {s0 : Int32} {s1 : Int32} {S : mj_S} {Q : mj_S → Int32 → Prop} (hk_a0 : m_kd S a0 = 10) (h : ∀ v1 : Int32, v1 = (s0 + s1) → ∃ b2, m_gp S a0 22 = some b2 ∧ (vp_in (0 : Int32) (m_ln S b2) ∧ (M_X11_in l G x3 (0 : Int32) ((m_gi S b2 ((0 : Int32)).toNatClampNeg) - (1 : Int32)) S (fun S3 r4 => ((r4 = 0) → Q S3 (-1 : Int32)) ∧ ((¬ (r4 = 0)) → ∃ b5, m_gp S3 a0 22 = some b5 ∧ (vp_in (1 : Int32) (m_ln S3 b5) ∧ (M_X11_in l G v1 (0 : Int32) ((m_gi S3 b5 ((1 : Int32)).toNatClampNeg) - (1 : Int32)) S3 (fun S6 r7 => ((r7 = 0) → Q S6 (-1 : Int32)) ∧ ((¬ (r7 = 0)) → ∃ b8, m_gp S6 a0 22 = some b8 ∧ (vp_in (0 : Int32) (m_ln S6 b8) ∧ (Q S6 ((v1 * (m_gi S6 b8 ((0 : Int32)).toNatClampNeg)) + x3)))))))))))) : V_X11_beside_55 l G a0 x3 s0 s1 S Q := by
  refine mj_iadd dX11_beside_55 ?_
  refine mj_nmi (fun v1 ev1 => ?_)
  replace h := h v1 ev1
  refine mj_istore dX11_beside_56 (by decide) rfl rfl ?_
  refine mj_iload_n dX11_beside_58 rfl rfl ?_
  refine mj_iconst (v := 0) dX11_beside_59 (by decide) ?_
  refine mj_aload_n dX11_beside_60 rfl rfl ?_
  obtain ⟨b2, eb2, h⟩ := h
  refine mj_getP dX11_beside_61 fl_X11_49_10 hk_a0 rfl ⟨b2, eb2, fun hk_b2 => ?_⟩
  refine mj_iconst (v := 0) dX11_beside_64 (by decide) ?_
  refine mj_iald dX11_beside_65 (Or.inl hk_b2) ⟨h.1, ?_⟩
  replace h := h.2
  refine mj_iconst (v := 1) dX11_beside_66 (by decide) ?_
  refine mj_isub dX11_beside_67 ?_
  refine mj_callSi (as := [.int x3, .int (0 : Int32), .int ((m_gi S b2 ((0 : Int32)).toNatClampNeg) - (1 : Int32))]) (st := []) dX11_beside_68 cal_X11_in lk_X11_217 sm_X11_in h rfl (Nat.le_of_ble_eq_true rfl) (by decide) ⟨Nat.le_of_ble_eq_true rfl, Nat.le_of_ble_eq_true rfl⟩ (fun S3 r4 h hn_r4 hp => ?_)
  have hk_a0 : m_kd S3 a0 = 10 := m_kd_pre hp hk_a0 (by decide)
  have hk_b2 : m_kd S3 b2 = 100 := m_kd_pre hp hk_b2 (by decide)
  refine mj_if_eq (tgt := 105) dX11_beside_71 (by decide) ⟨fun hc => ?_, fun hc => ?_⟩
  · replace h := h.1 hc
    refine mj_iconst (v := (-1)) dX11_beside_105 (by decide) ?_
    exact mj_reti dX11_beside_106 rfl ⟨Nat.le_of_ble_eq_true rfl, Nat.le_of_ble_eq_true rfl⟩ h
  · replace h := h.2 hc
    refine mj_iload dX11_beside_74 rfl ?_
    refine mj_iconst (v := 0) dX11_beside_76 (by decide) ?_
    refine mj_aload_n dX11_beside_77 rfl rfl ?_
    obtain ⟨b5, eb5, h⟩ := h
    refine mj_getP dX11_beside_78 fl_X11_49_10 hk_a0 rfl ⟨b5, eb5, fun hk_b5 => ?_⟩
    refine mj_iconst (v := 1) dX11_beside_81 (by decide) ?_
    refine mj_iald dX11_beside_82 (Or.inl hk_b5) ⟨h.1, ?_⟩
    replace h := h.2
    refine mj_iconst (v := 1) dX11_beside_83 (by decide) ?_
    refine mj_isub dX11_beside_84 ?_
    refine mj_callSi (as := [.int v1, .int (0 : Int32), .int ((m_gi S3 b5 ((1 : Int32)).toNatClampNeg) - (1 : Int32))]) (st := []) dX11_beside_85 cal_X11_in lk_X11_217 sm_X11_in h rfl (Nat.le_of_ble_eq_true rfl) (by decide) ⟨Nat.le_of_ble_eq_true rfl, Nat.le_of_ble_eq_true rfl⟩ (fun S6 r7 h hn_r7 hp => ?_)
    have hk_a0 : m_kd S6 a0 = 10 := m_kd_pre hp hk_a0 (by decide)
    have hk_b2 : m_kd S6 b2 = 100 := m_kd_pre hp hk_b2 (by decide)
    have hk_b5 : m_kd S6 b5 = 100 := m_kd_pre hp hk_b5 (by decide)
    refine mj_if_eq (tgt := 105) dX11_beside_88 (by decide) ⟨fun hc => ?_, fun hc => ?_⟩
    · replace h := h.1 hc
      refine mj_iconst (v := (-1)) dX11_beside_105 (by decide) ?_
      exact mj_reti dX11_beside_106 rfl ⟨Nat.le_of_ble_eq_true rfl, Nat.le_of_ble_eq_true rfl⟩ h
    · replace h := h.2 hc
      refine mj_iload dX11_beside_91 rfl ?_
      refine mj_aload_n dX11_beside_93 rfl rfl ?_
      obtain ⟨b8, eb8, h⟩ := h
      refine mj_getP dX11_beside_94 fl_X11_49_10 hk_a0 rfl ⟨b8, eb8, fun hk_b8 => ?_⟩
      refine mj_iconst (v := 0) dX11_beside_97 (by decide) ?_
      refine mj_iald dX11_beside_98 (Or.inl hk_b8) ⟨h.1, ?_⟩
      replace h := h.2
      refine mj_imul dX11_beside_99 ?_
      refine mj_iload_n dX11_beside_100 rfl rfl ?_
      refine mj_iadd dX11_beside_101 ?_
      refine mj_goto (tgt := 106) dX11_beside_102 (by decide) ?_
      exact mj_reti dX11_beside_106 rfl ⟨Nat.le_of_ble_eq_true rfl, Nat.le_of_ble_eq_true rfl⟩ h
abbrev V_X11_joinedBy_0 (l : Launch) (G : mj_G) (a0 : Nat) (x1 : Int32) (x2 : Int32) (S : mj_S) (Q : mj_S → Int32 → Prop) : Prop := mj_V l G (mj_room 2 0 0) RX11 cX11_joinedBy 9 (some .int) false 0 [some (.ref a0), some (.int x1), some (.int x2), none, none, none, none, none, none] [] S 0 0 (mj_std G (some .int) (mj_room 2 0 0) (mj_qi Q))
abbrev V_X11_joinedBy_7 (l : Launch) (G : mj_G) (a0 : Nat) (x2 : Int32) (x3 : Int32) (x4 : Int32) (S : mj_S) (Q : mj_S → Int32 → Prop) : Prop := mj_V l G (mj_room 2 0 0) RX11 cX11_joinedBy 9 (some .int) false 7 [some (.ref a0), none, some (.int x2), some (.int x3), some (.int x4), none, none, none, none] [] S 0 0 (mj_std G (some .int) (mj_room 2 0 0) (mj_qi Q))
abbrev V_X11_joinedBy_19 (l : Launch) (G : mj_G) (a0 : Nat) (x2 : Int32) (x3 : Int32) (x4 : Int32) (x5 : Int32) (S : mj_S) (Q : mj_S → Int32 → Prop) : Prop := mj_V l G (mj_room 2 0 0) RX11 cX11_joinedBy 9 (some .int) false 19 [some (.ref a0), none, some (.int x2), some (.int x3), some (.int x4), some (.int x5), none, none, none] [] S 0 0 (mj_std G (some .int) (mj_room 2 0 0) (mj_qi Q))
abbrev V_X11_joinedBy_31 (l : Launch) (G : mj_G) (a0 : Nat) (x2 : Int32) (x3 : Int32) (x4 : Int32) (x5 : Int32) (x6 : Int32) (S : mj_S) (Q : mj_S → Int32 → Prop) : Prop := mj_V l G (mj_room 2 0 0) RX11 cX11_joinedBy 9 (some .int) false 31 [some (.ref a0), none, some (.int x2), some (.int x3), some (.int x4), some (.int x5), some (.int x6), none, none] [] S 0 0 (mj_std G (some .int) (mj_room 2 0 0) (mj_qi Q))
theorem e_X11_joinedBy {l : Launch} {G : mj_G} {a0 : Nat} {x1 : Int32} {x2 : Int32} {S : mj_S} {Q : mj_S → Int32 → Prop} (h : V_X11_joinedBy_0 l G a0 x1 x2 S Q) : M_X11_joinedBy l G a0 x1 x2 S Q := mj_enter (r := 6) (ini := false) (by decide +kernel) (fun h => by cases h) (fun _ => Nat.le_of_ble_eq_true rfl) rfl h
set_option maxRecDepth 20000 in
set_option maxHeartbeats 1000000 in
theorem b_X11_joinedBy_0 {l : Launch} {G : mj_G} {a0 : Nat} {x1 : Int32} {x2 : Int32} {S : mj_S} {Q : mj_S → Int32 → Prop} (hk_a0 : m_kd S a0 = 10) (h : ∀ v1 : Int32, v1 = ((1 : Int32) <<< (x1 &&& 31)) → V_X11_joinedBy_7 l G a0 x2 v1 (0 : Int32) S Q) : V_X11_joinedBy_0 l G a0 x1 x2 S Q := by
  refine mj_iconst (v := 1) dX11_joinedBy_0 (by decide) ?_
  refine mj_iload_n dX11_joinedBy_1 rfl rfl ?_
  refine mj_ishl dX11_joinedBy_2 ?_
  refine mj_nmi (fun v1 ev1 => ?_)
  replace h := h v1 ev1
  refine mj_istore_n dX11_joinedBy_3 rfl (by decide) rfl rfl ?_
  refine mj_iconst (v := 0) dX11_joinedBy_4 (by decide) ?_
  refine mj_istore dX11_joinedBy_5 (by decide) rfl rfl ?_
  exact mj_lessm [true, false, true, true, true, false, false, false, false] rfl h
set_option maxRecDepth 20000 in
set_option maxHeartbeats 1000000 in
theorem b_X11_joinedBy_7 {l : Launch} {G : mj_G} {a0 : Nat} {x2 : Int32} {x3 : Int32} {x4 : Int32} {S : mj_S} {Q : mj_S → Int32 → Prop} (hk_a0 : m_kd S a0 = 10) (h : ((x4 = x3) → Q S x3) ∧ ((¬ (x4 = x3)) → V_X11_joinedBy_19 l G a0 x2 x3 x3 (0 : Int32) S Q)) : V_X11_joinedBy_7 l G a0 x2 x3 x4 S Q := by
  refine mj_iload dX11_joinedBy_7 rfl ?_
  refine mj_iload_n dX11_joinedBy_9 rfl rfl ?_
  refine mj_icmp_eq (tgt := 131) dX11_joinedBy_10 (by decide) ⟨fun hc => ?_, fun hc => ?_⟩
  · replace h := h.1 hc
    refine mj_iload_n dX11_joinedBy_131 rfl rfl ?_
    exact mj_reti dX11_joinedBy_132 rfl ⟨Nat.le_of_ble_eq_true rfl, Nat.le_of_ble_eq_true rfl⟩ h
  · replace h := h.2 hc
    refine mj_iload_n dX11_joinedBy_13 rfl rfl ?_
    refine mj_istore dX11_joinedBy_14 (by decide) rfl rfl ?_
    refine mj_iconst (v := 0) dX11_joinedBy_16 (by decide) ?_
    refine mj_istore dX11_joinedBy_17 (by decide) rfl rfl ?_
    exact h
set_option maxRecDepth 20000 in
set_option maxHeartbeats 1000000 in
theorem b_X11_joinedBy_19 {l : Launch} {G : mj_G} {a0 : Nat} {x2 : Int32} {x3 : Int32} {x4 : Int32} {x5 : Int32} {S : mj_S} {Q : mj_S → Int32 → Prop} (hk_a0 : m_kd S a0 = 10) (h : (((m_gi S a0 25) ≤ x5) → V_X11_joinedBy_7 l G a0 x2 x3 x4 S Q) ∧ ((¬ ((m_gi S a0 25) ≤ x5)) → V_X11_joinedBy_31 l G a0 x2 x3 x4 x5 (0 : Int32) S Q)) : V_X11_joinedBy_19 l G a0 x2 x3 x4 x5 S Q := by
  refine mj_iload dX11_joinedBy_19 rfl ?_
  refine mj_aload_n dX11_joinedBy_21 rfl rfl ?_
  refine mj_getI dX11_joinedBy_22 fl_X11_267_10 hk_a0 rfl ?_
  refine mj_icmp_ge (tgt := 128) dX11_joinedBy_25 (by decide) ⟨fun hc => ?_, fun hc => ?_⟩
  · replace h := h.1 hc
    refine mj_goto (tgt := 7) dX11_joinedBy_128 (by decide) ?_
    exact mj_lessm [true, false, true, true, true, false, false, false, false] rfl h
  · replace h := h.2 hc
    refine mj_iconst (v := 0) dX11_joinedBy_28 (by decide) ?_
    refine mj_istore dX11_joinedBy_29 (by decide) rfl rfl ?_
    exact h
set_option maxRecDepth 20000 in
set_option maxHeartbeats 1000000 in
theorem b_X11_joinedBy_31 {l : Launch} {G : mj_G} {a0 : Nat} {x2 : Int32} {x3 : Int32} {x4 : Int32} {x5 : Int32} {x6 : Int32} {S : mj_S} {Q : mj_S → Int32 → Prop} (hk_a0 : m_kd S a0 = 10) (h : (((4 : Int32) ≤ x6) → ∀ v1 : Int32, v1 = x5 + (1 : Int32) → V_X11_joinedBy_19 l G a0 x2 x3 x4 v1 S Q) ∧ ((¬ ((4 : Int32) ≤ x6)) → M_X11_has l G x4 x5 S (fun S2 r3 => ((r3 = 0) → ∀ v4 : Int32, v4 = x5 + (1 : Int32) → V_X11_joinedBy_19 l G a0 x2 x3 x4 v4 S2 Q) ∧ ((¬ (r3 = 0)) → ∃ b5, m_gp S2 a0 32 = some b5 ∧ (vp_in (((4 : Int32) * x5) + x6) (m_ln S2 b5) ∧ (∀ v6 : Int32, v6 = (m_gi S2 b5 ((((4 : Int32) * x5) + x6)).toNatClampNeg) → ((v6 = (-1 : Int32)) → ∀ v7 : Int32, v7 = x6 + (1 : Int32) → V_X11_joinedBy_31 l G a0 x2 x3 x4 x5 v7 S2 Q) ∧ ((¬ (v6 = (-1 : Int32))) → M_X11_has l G x3 v6 S2 (fun S8 r9 => ((¬ r9 = 0) → ∀ v10 : Int32, v10 = x6 + (1 : Int32) → V_X11_joinedBy_31 l G a0 x2 x3 x4 x5 v10 S8 Q) ∧ ((r9 = 0) → ∃ b11, m_gp S8 a0 33 = some b11 ∧ (vp_in (((4 : Int32) * x5) + x6) (m_ln S8 b11) ∧ (∀ v12 : Int32, v12 = (m_gi S8 b11 ((((4 : Int32) * x5) + x6)).toNatClampNeg) → ((v12 = (-1 : Int32)) → ∀ v13 : Int32, v13 = (x3 ||| ((1 : Int32) <<< (v6 &&& 31))) → ∀ v14 : Int32, v14 = x6 + (1 : Int32) → V_X11_joinedBy_31 l G a0 x2 v13 x4 x5 v14 S8 Q) ∧ ((¬ (v12 = (-1 : Int32))) → M_X11_has l G x2 v12 S8 (fun S15 r16 => ((r16 = 0) → ∀ v17 : Int32, v17 = (x3 ||| ((1 : Int32) <<< (v6 &&& 31))) → ∀ v18 : Int32, v18 = x6 + (1 : Int32) → V_X11_joinedBy_31 l G a0 x2 v17 x4 x5 v18 S15 Q) ∧ ((¬ (r16 = 0)) → ∀ v19 : Int32, v19 = (x3 ||| (0 : Int32)) → ∀ v20 : Int32, v20 = x6 + (1 : Int32) → V_X11_joinedBy_31 l G a0 x2 v19 x4 x5 v20 S15 Q)))))))))))))) : V_X11_joinedBy_31 l G a0 x2 x3 x4 x5 x6 S Q := by
  refine mj_iload dX11_joinedBy_31 rfl ?_
  refine mj_iconst (v := 4) dX11_joinedBy_33 (by decide) ?_
  refine mj_icmp_ge (tgt := 122) dX11_joinedBy_34 (by decide) ⟨fun hc => ?_, fun hc => ?_⟩
  · replace h := h.1 hc
    obtain ⟨v1, ev1⟩ : ∃ z : Int32, z = x5 + (1 : Int32) := ⟨_, rfl⟩
    refine mj_iinc (v := v1) dX11_joinedBy_122 rfl (by rw [ev1]; rfl) (by decide) rfl rfl ?_
    replace h := h v1 ev1
    refine mj_goto (tgt := 19) dX11_joinedBy_125 (by decide) ?_
    exact mj_lessm [true, false, true, true, true, true, false, false, false] rfl h
  · replace h := h.2 hc
    refine mj_iload dX11_joinedBy_37 rfl ?_
    refine mj_iload dX11_joinedBy_39 rfl ?_
    refine mj_callSi (as := [.int x4, .int x5]) (st := []) dX11_joinedBy_41 cal_X11_has lk_X11_228 sm_X11_has h rfl (Nat.le_of_ble_eq_true rfl) (by decide) ⟨Nat.le_of_ble_eq_true rfl, Nat.le_of_ble_eq_true rfl⟩ (fun S2 r3 h hn_r3 hp => ?_)
    have hk_a0 : m_kd S2 a0 = 10 := m_kd_pre hp hk_a0 (by decide)
    refine mj_if_eq (tgt := 122) dX11_joinedBy_44 (by decide) ⟨fun hc => ?_, fun hc => ?_⟩
    · replace h := h.1 hc
      obtain ⟨v4, ev4⟩ : ∃ z : Int32, z = x5 + (1 : Int32) := ⟨_, rfl⟩
      refine mj_iinc (v := v4) dX11_joinedBy_122 rfl (by rw [ev4]; rfl) (by decide) rfl rfl ?_
      replace h := h v4 ev4
      refine mj_goto (tgt := 19) dX11_joinedBy_125 (by decide) ?_
      exact mj_lessm [true, false, true, true, true, true, false, false, false] rfl h
    · replace h := h.2 hc
      refine mj_aload_n dX11_joinedBy_47 rfl rfl ?_
      obtain ⟨b5, eb5, h⟩ := h
      refine mj_getP dX11_joinedBy_48 fl_X11_68_10 hk_a0 rfl ⟨b5, eb5, fun hk_b5 => ?_⟩
      refine mj_iconst (v := 4) dX11_joinedBy_51 (by decide) ?_
      refine mj_iload dX11_joinedBy_52 rfl ?_
      refine mj_imul dX11_joinedBy_54 ?_
      refine mj_iload dX11_joinedBy_55 rfl ?_
      refine mj_iadd dX11_joinedBy_57 ?_
      refine mj_iald dX11_joinedBy_58 (Or.inl hk_b5) ⟨h.1, ?_⟩
      replace h := h.2
      refine mj_nmi (fun v6 ev6 => ?_)
      replace h := h v6 ev6
      refine mj_istore dX11_joinedBy_59 (by decide) rfl rfl ?_
      refine mj_iload dX11_joinedBy_61 rfl ?_
      refine mj_iconst (v := (-1)) dX11_joinedBy_63 (by decide) ?_
      refine mj_icmp_eq (tgt := 116) dX11_joinedBy_64 (by decide) ⟨fun hc => ?_, fun hc => ?_⟩
      · replace h := h.1 hc
        obtain ⟨v7, ev7⟩ : ∃ z : Int32, z = x6 + (1 : Int32) := ⟨_, rfl⟩
        refine mj_iinc (v := v7) dX11_joinedBy_116 rfl (by rw [ev7]; rfl) (by decide) rfl rfl ?_
        replace h := h v7 ev7
        refine mj_goto (tgt := 31) dX11_joinedBy_119 (by decide) ?_
        exact mj_lessm [true, false, true, true, true, true, true, false, false] rfl h
      · replace h := h.2 hc
        refine mj_iload_n dX11_joinedBy_67 rfl rfl ?_
        refine mj_iload dX11_joinedBy_68 rfl ?_
        refine mj_callSi (as := [.int x3, .int v6]) (st := []) dX11_joinedBy_70 cal_X11_has lk_X11_228 sm_X11_has h rfl (Nat.le_of_ble_eq_true rfl) (by decide) ⟨Nat.le_of_ble_eq_true rfl, Nat.le_of_ble_eq_true rfl⟩ (fun S8 r9 h hn_r9 hp => ?_)
        have hk_a0 : m_kd S8 a0 = 10 := m_kd_pre hp hk_a0 (by decide)
        have hk_b5 : m_kd S8 b5 = 100 := m_kd_pre hp hk_b5 (by decide)
        refine mj_if_ne (tgt := 116) dX11_joinedBy_73 (by decide) ⟨fun hc => ?_, fun hc => ?_⟩
        · replace h := h.1 hc
          obtain ⟨v10, ev10⟩ : ∃ z : Int32, z = x6 + (1 : Int32) := ⟨_, rfl⟩
          refine mj_iinc (v := v10) dX11_joinedBy_116 rfl (by rw [ev10]; rfl) (by decide) rfl rfl ?_
          replace h := h v10 ev10
          refine mj_goto (tgt := 31) dX11_joinedBy_119 (by decide) ?_
          exact mj_lessm [true, false, true, true, true, true, true, false, false] rfl h
        · replace h := h.2 hc
          refine mj_aload_n dX11_joinedBy_76 rfl rfl ?_
          obtain ⟨b11, eb11, h⟩ := h
          refine mj_getP dX11_joinedBy_77 fl_X11_71_10 hk_a0 rfl ⟨b11, eb11, fun hk_b11 => ?_⟩
          refine mj_iconst (v := 4) dX11_joinedBy_80 (by decide) ?_
          refine mj_iload dX11_joinedBy_81 rfl ?_
          refine mj_imul dX11_joinedBy_83 ?_
          refine mj_iload dX11_joinedBy_84 rfl ?_
          refine mj_iadd dX11_joinedBy_86 ?_
          refine mj_iald dX11_joinedBy_87 (Or.inl hk_b11) ⟨h.1, ?_⟩
          replace h := h.2
          refine mj_nmi (fun v12 ev12 => ?_)
          replace h := h v12 ev12
          refine mj_istore dX11_joinedBy_88 (by decide) rfl rfl ?_
          refine mj_iload_n dX11_joinedBy_90 rfl rfl ?_
          refine mj_iload dX11_joinedBy_91 rfl ?_
          refine mj_iconst (v := (-1)) dX11_joinedBy_93 (by decide) ?_
          refine mj_icmp_eq (tgt := 110) dX11_joinedBy_94 (by decide) ⟨fun hc => ?_, fun hc => ?_⟩
          · replace h := h.1 hc
            refine mj_iconst (v := 1) dX11_joinedBy_110 (by decide) ?_
            refine mj_iload dX11_joinedBy_111 rfl ?_
            refine mj_ishl dX11_joinedBy_113 ?_
            refine mj_ior dX11_joinedBy_114 ?_
            refine mj_nmi (fun v13 ev13 => ?_)
            replace h := h v13 ev13
            refine mj_istore_n dX11_joinedBy_115 rfl (by decide) rfl rfl ?_
            obtain ⟨v14, ev14⟩ : ∃ z : Int32, z = x6 + (1 : Int32) := ⟨_, rfl⟩
            refine mj_iinc (v := v14) dX11_joinedBy_116 rfl (by rw [ev14]; rfl) (by decide) rfl rfl ?_
            replace h := h v14 ev14
            refine mj_goto (tgt := 31) dX11_joinedBy_119 (by decide) ?_
            exact mj_lessm [true, false, true, true, true, true, true, false, false] rfl h
          · replace h := h.2 hc
            refine mj_iload_n dX11_joinedBy_97 rfl rfl ?_
            refine mj_iload dX11_joinedBy_98 rfl ?_
            refine mj_callSi (as := [.int x2, .int v12]) (st := [.int x3]) dX11_joinedBy_100 cal_X11_has lk_X11_228 sm_X11_has h rfl (Nat.le_of_ble_eq_true rfl) (by decide) ⟨Nat.le_of_ble_eq_true rfl, Nat.le_of_ble_eq_true rfl⟩ (fun S15 r16 h hn_r16 hp => ?_)
            have hk_a0 : m_kd S15 a0 = 10 := m_kd_pre hp hk_a0 (by decide)
            have hk_b5 : m_kd S15 b5 = 100 := m_kd_pre hp hk_b5 (by decide)
            have hk_b11 : m_kd S15 b11 = 100 := m_kd_pre hp hk_b11 (by decide)
            refine mj_if_eq (tgt := 110) dX11_joinedBy_103 (by decide) ⟨fun hc => ?_, fun hc => ?_⟩
            · replace h := h.1 hc
              refine mj_iconst (v := 1) dX11_joinedBy_110 (by decide) ?_
              refine mj_iload dX11_joinedBy_111 rfl ?_
              refine mj_ishl dX11_joinedBy_113 ?_
              refine mj_ior dX11_joinedBy_114 ?_
              refine mj_nmi (fun v17 ev17 => ?_)
              replace h := h v17 ev17
              refine mj_istore_n dX11_joinedBy_115 rfl (by decide) rfl rfl ?_
              obtain ⟨v18, ev18⟩ : ∃ z : Int32, z = x6 + (1 : Int32) := ⟨_, rfl⟩
              refine mj_iinc (v := v18) dX11_joinedBy_116 rfl (by rw [ev18]; rfl) (by decide) rfl rfl ?_
              replace h := h v18 ev18
              refine mj_goto (tgt := 31) dX11_joinedBy_119 (by decide) ?_
              exact mj_lessm [true, false, true, true, true, true, true, false, false] rfl h
            · replace h := h.2 hc
              refine mj_iconst (v := 0) dX11_joinedBy_106 (by decide) ?_
              refine mj_goto (tgt := 114) dX11_joinedBy_107 (by decide) ?_
              refine mj_ior dX11_joinedBy_114 ?_
              refine mj_nmi (fun v19 ev19 => ?_)
              replace h := h v19 ev19
              refine mj_istore_n dX11_joinedBy_115 rfl (by decide) rfl rfl ?_
              obtain ⟨v20, ev20⟩ : ∃ z : Int32, z = x6 + (1 : Int32) := ⟨_, rfl⟩
              refine mj_iinc (v := v20) dX11_joinedBy_116 rfl (by rw [ev20]; rfl) (by decide) rfl rfl ?_
              replace h := h v20 ev20
              refine mj_goto (tgt := 31) dX11_joinedBy_119 (by decide) ?_
              exact mj_lessm [true, false, true, true, true, true, true, false, false] rfl h
abbrev V_X11_stateOf_0 (l : Launch) (G : mj_G) (a0 : Nat) (x1 : Int32) (S : mj_S) (Q : mj_S → Int32 → Prop) : Prop := mj_V l G (mj_room 5 0 0) RX11 cX11_stateOf 2 (some .int) false 0 [some (.ref a0), some (.int x1)] [] S 0 0 (mj_std G (some .int) (mj_room 5 0 0) (mj_qi Q))
theorem e_X11_stateOf {l : Launch} {G : mj_G} {a0 : Nat} {x1 : Int32} {S : mj_S} {Q : mj_S → Int32 → Prop} (h : V_X11_stateOf_0 l G a0 x1 S Q) : M_X11_stateOf l G a0 x1 S Q := mj_enter (r := 0) (ini := false) (by decide +kernel) (fun h => by cases h) (fun _ => Nat.le_of_ble_eq_true rfl) rfl h
set_option maxRecDepth 20000 in
set_option maxHeartbeats 1000000 in
theorem b_X11_stateOf_0 {l : Launch} {G : mj_G} {a0 : Nat} {x1 : Int32} {S : mj_S} {Q : mj_S → Int32 → Prop} (hk_a0 : m_kd S a0 = 10) (h : M_X11_hanging l G a0 S (fun S1 r2 => M_X11_joinedBy l G a0 x1 r2 S1 (fun S3 r4 => Q S3 r4))) : V_X11_stateOf_0 l G a0 x1 S Q := by
  refine mj_aload_n dX11_stateOf_0 rfl rfl ?_
  refine mj_iload_n dX11_stateOf_1 rfl rfl ?_
  refine mj_aload_n dX11_stateOf_2 rfl rfl ?_
  refine mj_callVi (as := []) (st := [.int x1, .ref a0]) dX11_stateOf_3 cal_X11_hanging lk_X11_314 im_X11_hanging se_X11_hanging (ci := 10) rfl (by decide) hk_a0 h rfl (Nat.le_of_ble_eq_true rfl) (by decide) ⟨Nat.le_of_ble_eq_true rfl, Nat.le_of_ble_eq_true rfl⟩ (fun S1 r2 h hn_r2 hp => ?_)
  have hk_a0 : m_kd S1 a0 = 10 := m_kd_pre hp hk_a0 (by decide)
  refine mj_callVi (as := [.int x1, .int r2]) (st := []) dX11_stateOf_6 cal_X11_joinedBy lk_X11_317 im_X11_joinedBy se_X11_joinedBy (ci := 10) rfl (by decide) hk_a0 h rfl (Nat.le_of_ble_eq_true rfl) (by decide) ⟨Nat.le_of_ble_eq_true rfl, Nat.le_of_ble_eq_true rfl⟩ (fun S3 r4 h hn_r4 hp => ?_)
  have hk_a0 : m_kd S3 a0 = 10 := m_kd_pre hp hk_a0 (by decide)
  exact mj_reti dX11_stateOf_9 rfl ⟨Nat.le_of_ble_eq_true rfl, Nat.le_of_ble_eq_true rfl⟩ h
abbrev V_X11_nameOf_0 (l : Launch) (G : mj_G) (a0 : Nat) (x1 : Int32) (S : mj_S) (Q : mj_S → Int32 → Prop) : Prop := mj_V l G (mj_room 2 0 0) RX11 cX11_nameOf 2 (some .int) false 0 [some (.ref a0), some (.int x1)] [] S 0 0 (mj_std G (some .int) (mj_room 2 0 0) (mj_qi Q))
theorem e_X11_nameOf {l : Launch} {G : mj_G} {a0 : Nat} {x1 : Int32} {S : mj_S} {Q : mj_S → Int32 → Prop} (h : V_X11_nameOf_0 l G a0 x1 S Q) : M_X11_nameOf l G a0 x1 S Q := mj_enter (r := 0) (ini := false) (by decide +kernel) (fun h => by cases h) (fun _ => Nat.le_of_ble_eq_true rfl) rfl h
set_option maxRecDepth 20000 in
set_option maxHeartbeats 1000000 in
theorem b_X11_nameOf_0 {l : Launch} {G : mj_G} {a0 : Nat} {x1 : Int32} {S : mj_S} {Q : mj_S → Int32 → Prop} (hk_a0 : m_kd S a0 = 10) (h : M_J6_numberOfTrailingZeros_0f7a4 l G x1 S (fun S1 r2 => Q S1 r2)) : V_X11_nameOf_0 l G a0 x1 S Q := by
  refine mj_iload_n dX11_nameOf_0 rfl rfl ?_
  refine mj_callSi (as := [.int x1]) (st := []) dX11_nameOf_1 cal_J6_numberOfTrailingZeros_0f7a4 lk_X11_320 sm_J6_numberOfTrailingZeros_0f7a4 h rfl (Nat.le_of_ble_eq_true rfl) (by decide) ⟨Nat.le_of_ble_eq_true rfl, Nat.le_of_ble_eq_true rfl⟩ (fun S1 r2 h hn_r2 hp => ?_)
  have hk_a0 : m_kd S1 a0 = 10 := m_kd_pre hp hk_a0 (by decide)
  exact mj_reti dX11_nameOf_4 rfl ⟨Nat.le_of_ble_eq_true rfl, Nat.le_of_ble_eq_true rfl⟩ h
abbrev V_X11_personsIn_0 (l : Launch) (G : mj_G) (a0 : Nat) (x1 : Int32) (S : mj_S) (Q : mj_S → Int32 → Prop) : Prop := mj_V l G (mj_room 2 0 0) RX11 cX11_personsIn 4 (some .int) false 0 [some (.ref a0), some (.int x1), none, none] [] S 0 0 (mj_std G (some .int) (mj_room 2 0 0) (mj_qi Q))
abbrev V_X11_personsIn_4 (l : Launch) (G : mj_G) (a0 : Nat) (x1 : Int32) (x2 : Int32) (x3 : Int32) (S : mj_S) (Q : mj_S → Int32 → Prop) : Prop := mj_V l G (mj_room 2 0 0) RX11 cX11_personsIn 4 (some .int) false 4 [some (.ref a0), some (.int x1), some (.int x2), some (.int x3)] [] S 0 0 (mj_std G (some .int) (mj_room 2 0 0) (mj_qi Q))
theorem e_X11_personsIn {l : Launch} {G : mj_G} {a0 : Nat} {x1 : Int32} {S : mj_S} {Q : mj_S → Int32 → Prop} (h : V_X11_personsIn_0 l G a0 x1 S Q) : M_X11_personsIn l G a0 x1 S Q := mj_enter (r := 2) (ini := false) (by decide +kernel) (fun h => by cases h) (fun _ => Nat.le_of_ble_eq_true rfl) rfl h
set_option maxRecDepth 20000 in
set_option maxHeartbeats 1000000 in
theorem b_X11_personsIn_0 {l : Launch} {G : mj_G} {a0 : Nat} {x1 : Int32} {S : mj_S} {Q : mj_S → Int32 → Prop} (hk_a0 : m_kd S a0 = 10) (h : V_X11_personsIn_4 l G a0 x1 (0 : Int32) (0 : Int32) S Q) : V_X11_personsIn_0 l G a0 x1 S Q := by
  refine mj_iconst (v := 0) dX11_personsIn_0 (by decide) ?_
  refine mj_istore_n dX11_personsIn_1 rfl (by decide) rfl rfl ?_
  refine mj_iconst (v := 0) dX11_personsIn_2 (by decide) ?_
  refine mj_istore_n dX11_personsIn_3 rfl (by decide) rfl rfl ?_
  exact h
set_option maxRecDepth 20000 in
set_option maxHeartbeats 1000000 in
theorem b_X11_personsIn_4 {l : Launch} {G : mj_G} {a0 : Nat} {x1 : Int32} {x2 : Int32} {x3 : Int32} {S : mj_S} {Q : mj_S → Int32 → Prop} (hk_a0 : m_kd S a0 = 10) (h : (((m_gi S a0 27) ≤ x3) → Q S x2) ∧ ((¬ ((m_gi S a0 27) ≤ x3)) → ∃ b1, m_gp S a0 28 = some b1 ∧ (vp_in ((11 : Int32) + x3) (m_ln S b1) ∧ (M_X11_has l G x1 (m_gi S b1 (((11 : Int32) + x3)).toNatClampNeg) S (fun S2 r3 => ((r3 = 0) → ∀ v4 : Int32, v4 = (x2 + (0 : Int32)) → ∀ v5 : Int32, v5 = x3 + (1 : Int32) → V_X11_personsIn_4 l G a0 x1 v4 v5 S2 Q) ∧ ((¬ (r3 = 0)) → ∀ v6 : Int32, v6 = (x2 + (1 : Int32)) → ∀ v7 : Int32, v7 = x3 + (1 : Int32) → V_X11_personsIn_4 l G a0 x1 v6 v7 S2 Q)))))) : V_X11_personsIn_4 l G a0 x1 x2 x3 S Q := by
  refine mj_iload_n dX11_personsIn_4 rfl rfl ?_
  refine mj_aload_n dX11_personsIn_5 rfl rfl ?_
  refine mj_getI dX11_personsIn_6 fl_X11_264_10 hk_a0 rfl ?_
  refine mj_icmp_ge (tgt := 42) dX11_personsIn_9 (by decide) ⟨fun hc => ?_, fun hc => ?_⟩
  · replace h := h.1 hc
    refine mj_iload_n dX11_personsIn_42 rfl rfl ?_
    exact mj_reti dX11_personsIn_43 rfl ⟨Nat.le_of_ble_eq_true rfl, Nat.le_of_ble_eq_true rfl⟩ h
  · replace h := h.2 hc
    refine mj_iload_n dX11_personsIn_12 rfl rfl ?_
    refine mj_iload_n dX11_personsIn_13 rfl rfl ?_
    refine mj_aload_n dX11_personsIn_14 rfl rfl ?_
    obtain ⟨b1, eb1, h⟩ := h
    refine mj_getP dX11_personsIn_15 fl_X11_58_10 hk_a0 rfl ⟨b1, eb1, fun hk_b1 => ?_⟩
    refine mj_bipush (v := 11) dX11_personsIn_18 (by decide) ?_
    refine mj_iload_n dX11_personsIn_20 rfl rfl ?_
    refine mj_iadd dX11_personsIn_21 ?_
    refine mj_iald dX11_personsIn_22 (Or.inl hk_b1) ⟨h.1, ?_⟩
    replace h := h.2
    refine mj_callSi (as := [.int x1, .int (m_gi S b1 (((11 : Int32) + x3)).toNatClampNeg)]) (st := [.int x2]) dX11_personsIn_23 cal_X11_has lk_X11_228 sm_X11_has h rfl (Nat.le_of_ble_eq_true rfl) (by decide) ⟨Nat.le_of_ble_eq_true rfl, Nat.le_of_ble_eq_true rfl⟩ (fun S2 r3 h hn_r3 hp => ?_)
    have hk_a0 : m_kd S2 a0 = 10 := m_kd_pre hp hk_a0 (by decide)
    have hk_b1 : m_kd S2 b1 = 100 := m_kd_pre hp hk_b1 (by decide)
    refine mj_if_eq (tgt := 33) dX11_personsIn_26 (by decide) ⟨fun hc => ?_, fun hc => ?_⟩
    · replace h := h.1 hc
      refine mj_iconst (v := 0) dX11_personsIn_33 (by decide) ?_
      refine mj_iadd dX11_personsIn_34 ?_
      refine mj_nmi (fun v4 ev4 => ?_)
      replace h := h v4 ev4
      refine mj_istore_n dX11_personsIn_35 rfl (by decide) rfl rfl ?_
      obtain ⟨v5, ev5⟩ : ∃ z : Int32, z = x3 + (1 : Int32) := ⟨_, rfl⟩
      refine mj_iinc (v := v5) dX11_personsIn_36 rfl (by rw [ev5]; rfl) (by decide) rfl rfl ?_
      replace h := h v5 ev5
      refine mj_goto (tgt := 4) dX11_personsIn_39 (by decide) ?_
      exact h
    · replace h := h.2 hc
      refine mj_iconst (v := 1) dX11_personsIn_29 (by decide) ?_
      refine mj_goto (tgt := 34) dX11_personsIn_30 (by decide) ?_
      refine mj_iadd dX11_personsIn_34 ?_
      refine mj_nmi (fun v6 ev6 => ?_)
      replace h := h v6 ev6
      refine mj_istore_n dX11_personsIn_35 rfl (by decide) rfl rfl ?_
      obtain ⟨v7, ev7⟩ : ∃ z : Int32, z = x3 + (1 : Int32) := ⟨_, rfl⟩
      refine mj_iinc (v := v7) dX11_personsIn_36 rfl (by rw [ev7]; rfl) (by decide) rfl rfl ?_
      replace h := h v7 ev7
      refine mj_goto (tgt := 4) dX11_personsIn_39 (by decide) ?_
      exact h
abbrev V_X11_lordOf_0 (l : Launch) (G : mj_G) (a0 : Nat) (x1 : Int32) (S : mj_S) (Q : mj_S → Int32 → Prop) : Prop := mj_V l G (mj_room 2 0 0) RX11 cX11_lordOf 4 (some .int) false 0 [some (.ref a0), some (.int x1), none, none] [] S 0 0 (mj_std G (some .int) (mj_room 2 0 0) (mj_qi Q))
abbrev V_X11_lordOf_4 (l : Launch) (G : mj_G) (a0 : Nat) (x1 : Int32) (x2 : Int32) (x3 : Int32) (S : mj_S) (Q : mj_S → Int32 → Prop) : Prop := mj_V l G (mj_room 2 0 0) RX11 cX11_lordOf 4 (some .int) false 4 [some (.ref a0), some (.int x1), some (.int x2), some (.int x3)] [] S 0 0 (mj_std G (some .int) (mj_room 2 0 0) (mj_qi Q))
theorem e_X11_lordOf {l : Launch} {G : mj_G} {a0 : Nat} {x1 : Int32} {S : mj_S} {Q : mj_S → Int32 → Prop} (h : V_X11_lordOf_0 l G a0 x1 S Q) : M_X11_lordOf l G a0 x1 S Q := mj_enter (r := 2) (ini := false) (by decide +kernel) (fun h => by cases h) (fun _ => Nat.le_of_ble_eq_true rfl) rfl h
set_option maxRecDepth 20000 in
set_option maxHeartbeats 1000000 in
theorem b_X11_lordOf_0 {l : Launch} {G : mj_G} {a0 : Nat} {x1 : Int32} {S : mj_S} {Q : mj_S → Int32 → Prop} (hk_a0 : m_kd S a0 = 10) (h : V_X11_lordOf_4 l G a0 x1 (-1 : Int32) (0 : Int32) S Q) : V_X11_lordOf_0 l G a0 x1 S Q := by
  refine mj_iconst (v := (-1)) dX11_lordOf_0 (by decide) ?_
  refine mj_istore_n dX11_lordOf_1 rfl (by decide) rfl rfl ?_
  refine mj_iconst (v := 0) dX11_lordOf_2 (by decide) ?_
  refine mj_istore_n dX11_lordOf_3 rfl (by decide) rfl rfl ?_
  exact h
set_option maxRecDepth 20000 in
set_option maxHeartbeats 1000000 in
theorem b_X11_lordOf_4 {l : Launch} {G : mj_G} {a0 : Nat} {x1 : Int32} {x2 : Int32} {x3 : Int32} {S : mj_S} {Q : mj_S → Int32 → Prop} (hk_a0 : m_kd S a0 = 10) (h : (((m_gi S a0 27) ≤ x3) → Q S x2) ∧ ((¬ ((m_gi S a0 27) ≤ x3)) → ∃ b1, m_gp S a0 28 = some b1 ∧ (vp_in ((11 : Int32) + x3) (m_ln S b1) ∧ (M_X11_has l G x1 (m_gi S b1 (((11 : Int32) + x3)).toNatClampNeg) S (fun S2 r3 => ((r3 = 0) → ∀ v4 : Int32, v4 = x3 + (1 : Int32) → V_X11_lordOf_4 l G a0 x1 x2 v4 S2 Q) ∧ ((¬ (r3 = 0)) → ((x2 = (-1 : Int32)) → ∀ v5 : Int32, v5 = x3 + (1 : Int32) → V_X11_lordOf_4 l G a0 x1 x3 v5 S2 Q) ∧ ((¬ (x2 = (-1 : Int32))) → ∃ b6, m_gp S2 a0 24 = some b6 ∧ (vp_in (((2 : Int32) * x3) + (1 : Int32)) (m_ln S2 b6) ∧ (∃ b7, m_gp S2 a0 24 = some b7 ∧ (vp_in (((2 : Int32) * x2) + (1 : Int32)) (m_ln S2 b7) ∧ ((((m_gi S2 b6 ((((2 : Int32) * x3) + (1 : Int32))).toNatClampNeg) ≤ (m_gi S2 b7 ((((2 : Int32) * x2) + (1 : Int32))).toNatClampNeg)) → ∀ v8 : Int32, v8 = x3 + (1 : Int32) → V_X11_lordOf_4 l G a0 x1 x2 v8 S2 Q) ∧ ((¬ ((m_gi S2 b6 ((((2 : Int32) * x3) + (1 : Int32))).toNatClampNeg) ≤ (m_gi S2 b7 ((((2 : Int32) * x2) + (1 : Int32))).toNatClampNeg))) → ∀ v9 : Int32, v9 = x3 + (1 : Int32) → V_X11_lordOf_4 l G a0 x1 x3 v9 S2 Q)))))))))))) : V_X11_lordOf_4 l G a0 x1 x2 x3 S Q := by
  refine mj_iload_n dX11_lordOf_4 rfl rfl ?_
  refine mj_aload_n dX11_lordOf_5 rfl rfl ?_
  refine mj_getI dX11_lordOf_6 fl_X11_264_10 hk_a0 rfl ?_
  refine mj_icmp_ge (tgt := 68) dX11_lordOf_9 (by decide) ⟨fun hc => ?_, fun hc => ?_⟩
  · replace h := h.1 hc
    refine mj_iload_n dX11_lordOf_68 rfl rfl ?_
    exact mj_reti dX11_lordOf_69 rfl ⟨Nat.le_of_ble_eq_true rfl, Nat.le_of_ble_eq_true rfl⟩ h
  · replace h := h.2 hc
    refine mj_iload_n dX11_lordOf_12 rfl rfl ?_
    refine mj_aload_n dX11_lordOf_13 rfl rfl ?_
    obtain ⟨b1, eb1, h⟩ := h
    refine mj_getP dX11_lordOf_14 fl_X11_58_10 hk_a0 rfl ⟨b1, eb1, fun hk_b1 => ?_⟩
    refine mj_bipush (v := 11) dX11_lordOf_17 (by decide) ?_
    refine mj_iload_n dX11_lordOf_19 rfl rfl ?_
    refine mj_iadd dX11_lordOf_20 ?_
    refine mj_iald dX11_lordOf_21 (Or.inl hk_b1) ⟨h.1, ?_⟩
    replace h := h.2
    refine mj_callSi (as := [.int x1, .int (m_gi S b1 (((11 : Int32) + x3)).toNatClampNeg)]) (st := []) dX11_lordOf_22 cal_X11_has lk_X11_228 sm_X11_has h rfl (Nat.le_of_ble_eq_true rfl) (by decide) ⟨Nat.le_of_ble_eq_true rfl, Nat.le_of_ble_eq_true rfl⟩ (fun S2 r3 h hn_r3 hp => ?_)
    have hk_a0 : m_kd S2 a0 = 10 := m_kd_pre hp hk_a0 (by decide)
    have hk_b1 : m_kd S2 b1 = 100 := m_kd_pre hp hk_b1 (by decide)
    refine mj_if_eq (tgt := 60) dX11_lordOf_25 (by decide) ⟨fun hc => ?_, fun hc => ?_⟩
    · replace h := h.1 hc
      refine mj_iload_n dX11_lordOf_60 rfl rfl ?_
      refine mj_istore_n dX11_lordOf_61 rfl (by decide) rfl rfl ?_
      obtain ⟨v4, ev4⟩ : ∃ z : Int32, z = x3 + (1 : Int32) := ⟨_, rfl⟩
      refine mj_iinc (v := v4) dX11_lordOf_62 rfl (by rw [ev4]; rfl) (by decide) rfl rfl ?_
      replace h := h v4 ev4
      refine mj_goto (tgt := 4) dX11_lordOf_65 (by decide) ?_
      exact h
    · replace h := h.2 hc
      refine mj_iload_n dX11_lordOf_28 rfl rfl ?_
      refine mj_iconst (v := (-1)) dX11_lordOf_29 (by decide) ?_
      refine mj_icmp_eq (tgt := 56) dX11_lordOf_30 (by decide) ⟨fun hc => ?_, fun hc => ?_⟩
      · replace h := h.1 hc
        refine mj_iload_n dX11_lordOf_56 rfl rfl ?_
        refine mj_goto (tgt := 61) dX11_lordOf_57 (by decide) ?_
        refine mj_istore_n dX11_lordOf_61 rfl (by decide) rfl rfl ?_
        obtain ⟨v5, ev5⟩ : ∃ z : Int32, z = x3 + (1 : Int32) := ⟨_, rfl⟩
        refine mj_iinc (v := v5) dX11_lordOf_62 rfl (by rw [ev5]; rfl) (by decide) rfl rfl ?_
        replace h := h v5 ev5
        refine mj_goto (tgt := 4) dX11_lordOf_65 (by decide) ?_
        exact h
      · replace h := h.2 hc
        refine mj_aload_n dX11_lordOf_33 rfl rfl ?_
        obtain ⟨b6, eb6, h⟩ := h
        refine mj_getP dX11_lordOf_34 fl_X11_55_10 hk_a0 rfl ⟨b6, eb6, fun hk_b6 => ?_⟩
        refine mj_iconst (v := 2) dX11_lordOf_37 (by decide) ?_
        refine mj_iload_n dX11_lordOf_38 rfl rfl ?_
        refine mj_imul dX11_lordOf_39 ?_
        refine mj_iconst (v := 1) dX11_lordOf_40 (by decide) ?_
        refine mj_iadd dX11_lordOf_41 ?_
        refine mj_iald dX11_lordOf_42 (Or.inl hk_b6) ⟨h.1, ?_⟩
        replace h := h.2
        refine mj_aload_n dX11_lordOf_43 rfl rfl ?_
        obtain ⟨b7, eb7, h⟩ := h
        refine mj_getP dX11_lordOf_44 fl_X11_55_10 hk_a0 rfl ⟨b7, eb7, fun hk_b7 => ?_⟩
        refine mj_iconst (v := 2) dX11_lordOf_47 (by decide) ?_
        refine mj_iload_n dX11_lordOf_48 rfl rfl ?_
        refine mj_imul dX11_lordOf_49 ?_
        refine mj_iconst (v := 1) dX11_lordOf_50 (by decide) ?_
        refine mj_iadd dX11_lordOf_51 ?_
        refine mj_iald dX11_lordOf_52 (Or.inl hk_b7) ⟨h.1, ?_⟩
        replace h := h.2
        refine mj_icmp_le (tgt := 60) dX11_lordOf_53 (by decide) ⟨fun hc => ?_, fun hc => ?_⟩
        · replace h := h.1 hc
          refine mj_iload_n dX11_lordOf_60 rfl rfl ?_
          refine mj_istore_n dX11_lordOf_61 rfl (by decide) rfl rfl ?_
          obtain ⟨v8, ev8⟩ : ∃ z : Int32, z = x3 + (1 : Int32) := ⟨_, rfl⟩
          refine mj_iinc (v := v8) dX11_lordOf_62 rfl (by rw [ev8]; rfl) (by decide) rfl rfl ?_
          replace h := h v8 ev8
          refine mj_goto (tgt := 4) dX11_lordOf_65 (by decide) ?_
          exact h
        · replace h := h.2 hc
          refine mj_iload_n dX11_lordOf_56 rfl rfl ?_
          refine mj_goto (tgt := 61) dX11_lordOf_57 (by decide) ?_
          refine mj_istore_n dX11_lordOf_61 rfl (by decide) rfl rfl ?_
          obtain ⟨v9, ev9⟩ : ∃ z : Int32, z = x3 + (1 : Int32) := ⟨_, rfl⟩
          refine mj_iinc (v := v9) dX11_lordOf_62 rfl (by rw [ev9]; rfl) (by decide) rfl rfl ?_
          replace h := h v9 ev9
          refine mj_goto (tgt := 4) dX11_lordOf_65 (by decide) ?_
          exact h
abbrev V_X11_states_0 (l : Launch) (G : mj_G) (a0 : Nat) (S : mj_S) (Q : mj_S → Int32 → Prop) : Prop := mj_V l G (mj_room 6 0 0) RX11 cX11_states 3 (some .int) false 0 [some (.ref a0), none, none] [] S 0 0 (mj_std G (some .int) (mj_room 6 0 0) (mj_qi Q))
abbrev V_X11_states_11 (l : Launch) (G : mj_G) (a0 : Nat) (x1 : Int32) (x2 : Int32) (S : mj_S) (Q : mj_S → Int32 → Prop) : Prop := mj_V l G (mj_room 6 0 0) RX11 cX11_states 3 (some .int) false 11 [some (.ref a0), some (.int x1), some (.int x2)] [] S 0 0 (mj_std G (some .int) (mj_room 6 0 0) (mj_qi Q))
theorem e_X11_states {l : Launch} {G : mj_G} {a0 : Nat} {S : mj_S} {Q : mj_S → Int32 → Prop} (h : V_X11_states_0 l G a0 S Q) : M_X11_states l G a0 S Q := mj_enter (r := 2) (ini := false) (by decide +kernel) (fun h => by cases h) (fun _ => Nat.le_of_ble_eq_true rfl) rfl h
set_option maxRecDepth 20000 in
set_option maxHeartbeats 1000000 in
theorem b_X11_states_0 {l : Launch} {G : mj_G} {a0 : Nat} {S : mj_S} {Q : mj_S → Int32 → Prop} (hk_a0 : m_kd S a0 = 10) (h : ∀ v1 : Int32, v1 = (((1 : Int32) <<< ((m_gi S a0 25) &&& 31)) - (1 : Int32)) → V_X11_states_11 l G a0 (0 : Int32) v1 S Q) : V_X11_states_0 l G a0 S Q := by
  refine mj_iconst (v := 0) dX11_states_0 (by decide) ?_
  refine mj_istore_n dX11_states_1 rfl (by decide) rfl rfl ?_
  refine mj_iconst (v := 1) dX11_states_2 (by decide) ?_
  refine mj_aload_n dX11_states_3 rfl rfl ?_
  refine mj_getI dX11_states_4 fl_X11_267_10 hk_a0 rfl ?_
  refine mj_ishl dX11_states_7 ?_
  refine mj_iconst (v := 1) dX11_states_8 (by decide) ?_
  refine mj_isub dX11_states_9 ?_
  refine mj_nmi (fun v1 ev1 => ?_)
  replace h := h v1 ev1
  refine mj_istore_n dX11_states_10 rfl (by decide) rfl rfl ?_
  exact h
set_option maxRecDepth 20000 in
set_option maxHeartbeats 1000000 in
theorem b_X11_states_11 {l : Launch} {G : mj_G} {a0 : Nat} {x1 : Int32} {x2 : Int32} {S : mj_S} {Q : mj_S → Int32 → Prop} (hk_a0 : m_kd S a0 = 10) (h : ((x2 = 0) → Q S x1) ∧ ((¬ (x2 = 0)) → M_X11_nameOf l G a0 x2 S (fun S1 r2 => M_X11_stateOf l G a0 r2 S1 (fun S3 r4 => ∀ v5 : Int32, v5 = (x2 &&& (r4 ^^^ (-1 : Int32))) → ∀ v6 : Int32, v6 = x1 + (1 : Int32) → V_X11_states_11 l G a0 v6 v5 S3 Q)))) : V_X11_states_11 l G a0 x1 x2 S Q := by
  refine mj_iload_n dX11_states_11 rfl rfl ?_
  refine mj_if_eq (tgt := 35) dX11_states_12 (by decide) ⟨fun hc => ?_, fun hc => ?_⟩
  · replace h := h.1 hc
    refine mj_iload_n dX11_states_35 rfl rfl ?_
    exact mj_reti dX11_states_36 rfl ⟨Nat.le_of_ble_eq_true rfl, Nat.le_of_ble_eq_true rfl⟩ h
  · replace h := h.2 hc
    refine mj_iload_n dX11_states_15 rfl rfl ?_
    refine mj_aload_n dX11_states_16 rfl rfl ?_
    refine mj_aload_n dX11_states_17 rfl rfl ?_
    refine mj_iload_n dX11_states_18 rfl rfl ?_
    refine mj_callVi (as := [.int x2]) (st := [.ref a0, .int x2]) dX11_states_19 cal_X11_nameOf lk_X11_325 im_X11_nameOf se_X11_nameOf (ci := 10) rfl (by decide) hk_a0 h rfl (Nat.le_of_ble_eq_true rfl) (by decide) ⟨Nat.le_of_ble_eq_true rfl, Nat.le_of_ble_eq_true rfl⟩ (fun S1 r2 h hn_r2 hp => ?_)
    have hk_a0 : m_kd S1 a0 = 10 := m_kd_pre hp hk_a0 (by decide)
    refine mj_callVi (as := [.int r2]) (st := [.int x2]) dX11_states_22 cal_X11_stateOf lk_X11_328 im_X11_stateOf se_X11_stateOf (ci := 10) rfl (by decide) hk_a0 h rfl (Nat.le_of_ble_eq_true rfl) (by decide) ⟨Nat.le_of_ble_eq_true rfl, Nat.le_of_ble_eq_true rfl⟩ (fun S3 r4 h hn_r4 hp => ?_)
    have hk_a0 : m_kd S3 a0 = 10 := m_kd_pre hp hk_a0 (by decide)
    refine mj_iconst (v := (-1)) dX11_states_25 (by decide) ?_
    refine mj_ixor dX11_states_26 ?_
    refine mj_iand dX11_states_27 ?_
    refine mj_nmi (fun v5 ev5 => ?_)
    replace h := h v5 ev5
    refine mj_istore_n dX11_states_28 rfl (by decide) rfl rfl ?_
    obtain ⟨v6, ev6⟩ : ∃ z : Int32, z = x1 + (1 : Int32) := ⟨_, rfl⟩
    refine mj_iinc (v := v6) dX11_states_29 rfl (by rw [ev6]; rfl) (by decide) rfl rfl ?_
    replace h := h v6 ev6
    refine mj_goto (tgt := 11) dX11_states_32 (by decide) ?_
    exact h
abbrev V_X11_takes_0 (l : Launch) (G : mj_G) (a0 : Nat) (x1 : Int32) (S : mj_S) (Q : mj_S → Int32 → Prop) : Prop := mj_V l G (mj_room 6 0 0) RX11 cX11_takes 3 (some .int) false 0 [some (.ref a0), some (.int x1), none] [] S 0 0 (mj_std G (some .int) (mj_room 6 0 0) (mj_qi Q))
abbrev V_X11_takes_106 (l : Launch) (G : mj_G) (x2 : Int32) (S : mj_S) (Q : mj_S → Int32 → Prop) : Prop := mj_V l G (mj_room 6 0 0) RX11 cX11_takes 3 (some .int) false 106 [none, none, some (.int x2)] [] S 0 0 (mj_std G (some .int) (mj_room 6 0 0) (mj_qi Q))
theorem e_X11_takes {l : Launch} {G : mj_G} {a0 : Nat} {x1 : Int32} {S : mj_S} {Q : mj_S → Int32 → Prop} (h : V_X11_takes_0 l G a0 x1 S Q) : M_X11_takes l G a0 x1 S Q := mj_enter (r := 1) (ini := false) (by decide +kernel) (fun h => by cases h) (fun _ => Nat.le_of_ble_eq_true rfl) rfl h
set_option maxRecDepth 20000 in
set_option maxHeartbeats 1000000 in
theorem b_X11_takes_0 {l : Launch} {G : mj_G} {a0 : Nat} {x1 : Int32} {S : mj_S} {Q : mj_S → Int32 → Prop} (hk_a0 : m_kd S a0 = 10) (h : M_X11_of l G a0 x1 (2 : Int32) S (fun S1 r2 => ∃ b3, m_gp S1 a0 28 = some b3 ∧ (vp_in ((0 : Int32) + x1) (m_ln S1 b3) ∧ (¬ (10 : Int32) = 0 ∧ (∀ v4 : Int32, v4 = (r2 + ((m_gi S1 b3 (((0 : Int32) + x1)).toNatClampNeg) / (10 : Int32))) → (((m_gi S1 a0 30) = (-1 : Int32)) → V_X11_takes_106 l G v4 S1 Q) ∧ ((¬ ((m_gi S1 a0 30) = (-1 : Int32))) → ∃ b5, m_gp S1 a0 15 = some b5 ∧ (M_X11_of l G a0 x1 (2 : Int32) S1 (fun S6 r7 => vp_in (0 : Int32) (m_ln S6 b5) ∧ (∀ S8 : mj_S, S8 = m_si S6 b5 ((0 : Int32)).toNatClampNeg r7 → ∃ b9, m_gp S8 a0 15 = some b9 ∧ (∃ b10, m_gp S8 a0 28 = some b10 ∧ (vp_in ((0 : Int32) + x1) (m_ln S8 b10) ∧ (vp_in (1 : Int32) (m_ln S8 b9) ∧ (∀ S11 : mj_S, S11 = m_si S8 b9 ((1 : Int32)).toNatClampNeg (m_gi S8 b10 (((0 : Int32) + x1)).toNatClampNeg) → ∃ b12, m_gp S11 a0 15 = some b12 ∧ (M_X11_of l G a0 x1 (4 : Int32) S11 (fun S13 r14 => vp_in (2 : Int32) (m_ln S13 b12) ∧ (∀ S15 : mj_S, S15 = m_si S13 b12 ((2 : Int32)).toNatClampNeg r14 → ∃ b16, m_gp S15 a0 15 = some b16 ∧ (∃ b17, m_gp S15 a0 22 = some b17 ∧ (vp_in (2 : Int32) (m_ln S15 b17) ∧ (vp_in (3 : Int32) (m_ln S15 b16) ∧ (∀ S18 : mj_S, S18 = m_si S15 b16 ((3 : Int32)).toNatClampNeg (m_gi S15 b17 ((2 : Int32)).toNatClampNeg) → ∃ b19, m_gp S18 a0 15 = some b19 ∧ (∃ b20, m_gp S18 a0 28 = some b20 ∧ (vp_in (17 : Int32) (m_ln S18 b20) ∧ (vp_in (4 : Int32) (m_ln S18 b19) ∧ (∀ S21 : mj_S, S21 = m_si S18 b19 ((4 : Int32)).toNatClampNeg (m_gi S18 b20 ((17 : Int32)).toNatClampNeg) → ∃ b22, m_gp S21 a0 15 = some b22 ∧ (vp_in (5 : Int32) (m_ln S21 b22) ∧ (∀ S23 : mj_S, S23 = m_si S21 b22 ((5 : Int32)).toNatClampNeg x1 → M_X11_worthOf l G a0 (m_gi S23 a0 30) S23 (fun S24 r25 => V_X11_takes_106 l G r25 S24 Q))))))))))))))))))))))))))) : V_X11_takes_0 l G a0 x1 S Q := by
  refine mj_aload_n dX11_takes_0 rfl rfl ?_
  refine mj_iload_n dX11_takes_1 rfl rfl ?_
  refine mj_iconst (v := 2) dX11_takes_2 (by decide) ?_
  refine mj_callVi (as := [.int x1, .int (2 : Int32)]) (st := []) dX11_takes_3 cal_X11_of lk_X11_270 im_X11_of se_X11_of (ci := 10) rfl (by decide) hk_a0 h rfl (Nat.le_of_ble_eq_true rfl) (by decide) ⟨Nat.le_of_ble_eq_true rfl, Nat.le_of_ble_eq_true rfl⟩ (fun S1 r2 h hn_r2 hp => ?_)
  have hk_a0 : m_kd S1 a0 = 10 := m_kd_pre hp hk_a0 (by decide)
  refine mj_aload_n dX11_takes_6 rfl rfl ?_
  obtain ⟨b3, eb3, h⟩ := h
  refine mj_getP dX11_takes_7 fl_X11_58_10 hk_a0 rfl ⟨b3, eb3, fun hk_b3 => ?_⟩
  refine mj_iconst (v := 0) dX11_takes_10 (by decide) ?_
  refine mj_iload_n dX11_takes_11 rfl rfl ?_
  refine mj_iadd dX11_takes_12 ?_
  refine mj_iald dX11_takes_13 (Or.inl hk_b3) ⟨h.1, ?_⟩
  replace h := h.2
  refine mj_bipush (v := 10) dX11_takes_14 (by decide) ?_
  refine mj_idiv dX11_takes_16 h.1 ?_
  replace h := h.2
  refine mj_iadd dX11_takes_17 ?_
  refine mj_nmi (fun v4 ev4 => ?_)
  replace h := h v4 ev4
  refine mj_istore_n dX11_takes_18 rfl (by decide) rfl rfl ?_
  refine mj_aload_n dX11_takes_19 rfl rfl ?_
  refine mj_getI dX11_takes_20 fl_X11_64_10 hk_a0 rfl ?_
  refine mj_iconst (v := (-1)) dX11_takes_23 (by decide) ?_
  refine mj_icmp_eq (tgt := 106) dX11_takes_24 (by decide) ⟨fun hc => ?_, fun hc => ?_⟩
  · replace h := h.1 hc
    exact mj_lessm [false, false, true] rfl h
  · replace h := h.2 hc
    refine mj_aload_n dX11_takes_27 rfl rfl ?_
    obtain ⟨b5, eb5, h⟩ := h
    refine mj_getP dX11_takes_28 fl_X11_34_10 hk_a0 rfl ⟨b5, eb5, fun hk_b5 => ?_⟩
    refine mj_iconst (v := 0) dX11_takes_31 (by decide) ?_
    refine mj_aload_n dX11_takes_32 rfl rfl ?_
    refine mj_iload_n dX11_takes_33 rfl rfl ?_
    refine mj_iconst (v := 2) dX11_takes_34 (by decide) ?_
    refine mj_callVi (as := [.int x1, .int (2 : Int32)]) (st := [.int (0 : Int32), .ref b5]) dX11_takes_35 cal_X11_of lk_X11_270 im_X11_of se_X11_of (ci := 10) rfl (by decide) hk_a0 h rfl (Nat.le_of_ble_eq_true rfl) (by decide) ⟨Nat.le_of_ble_eq_true rfl, Nat.le_of_ble_eq_true rfl⟩ (fun S6 r7 h hn_r7 hp => ?_)
    have hk_a0 : m_kd S6 a0 = 10 := m_kd_pre hp hk_a0 (by decide)
    have hk_b3 : m_kd S6 b3 = 100 := m_kd_pre hp hk_b3 (by decide)
    have hk_b5 : m_kd S6 b5 = 100 := m_kd_pre hp hk_b5 (by decide)
    refine mj_iast dX11_takes_38 hk_b5 ⟨h.1, ?_⟩
    replace h := h.2
    obtain ⟨S8, eS8⟩ : ∃ z, z = m_si S6 b5 ((0 : Int32)).toNatClampNeg r7 := ⟨_, rfl⟩
    rw [← eS8]
    replace h := h S8 eS8
    have hk_a0 : m_kd S8 a0 = 10 := by rw [eS8]; exact hk_a0
    have hk_b3 : m_kd S8 b3 = 100 := by rw [eS8]; exact hk_b3
    have hk_b5 : m_kd S8 b5 = 100 := by rw [eS8]; exact hk_b5
    refine mj_aload_n dX11_takes_39 rfl rfl ?_
    obtain ⟨b9, eb9, h⟩ := h
    refine mj_getP dX11_takes_40 fl_X11_34_10 hk_a0 rfl ⟨b9, eb9, fun hk_b9 => ?_⟩
    refine mj_iconst (v := 1) dX11_takes_43 (by decide) ?_
    refine mj_aload_n dX11_takes_44 rfl rfl ?_
    obtain ⟨b10, eb10, h⟩ := h
    refine mj_getP dX11_takes_45 fl_X11_58_10 hk_a0 rfl ⟨b10, eb10, fun hk_b10 => ?_⟩
    refine mj_iconst (v := 0) dX11_takes_48 (by decide) ?_
    refine mj_iload_n dX11_takes_49 rfl rfl ?_
    refine mj_iadd dX11_takes_50 ?_
    refine mj_iald dX11_takes_51 (Or.inl hk_b10) ⟨h.1, ?_⟩
    replace h := h.2
    refine mj_iast dX11_takes_52 hk_b9 ⟨h.1, ?_⟩
    replace h := h.2
    obtain ⟨S11, eS11⟩ : ∃ z, z = m_si S8 b9 ((1 : Int32)).toNatClampNeg (m_gi S8 b10 (((0 : Int32) + x1)).toNatClampNeg) := ⟨_, rfl⟩
    rw [← eS11]
    replace h := h S11 eS11
    have hk_a0 : m_kd S11 a0 = 10 := by rw [eS11]; exact hk_a0
    have hk_b3 : m_kd S11 b3 = 100 := by rw [eS11]; exact hk_b3
    have hk_b5 : m_kd S11 b5 = 100 := by rw [eS11]; exact hk_b5
    have hk_b9 : m_kd S11 b9 = 100 := by rw [eS11]; exact hk_b9
    have hk_b10 : m_kd S11 b10 = 100 := by rw [eS11]; exact hk_b10
    refine mj_aload_n dX11_takes_53 rfl rfl ?_
    obtain ⟨b12, eb12, h⟩ := h
    refine mj_getP dX11_takes_54 fl_X11_34_10 hk_a0 rfl ⟨b12, eb12, fun hk_b12 => ?_⟩
    refine mj_iconst (v := 2) dX11_takes_57 (by decide) ?_
    refine mj_aload_n dX11_takes_58 rfl rfl ?_
    refine mj_iload_n dX11_takes_59 rfl rfl ?_
    refine mj_iconst (v := 4) dX11_takes_60 (by decide) ?_
    refine mj_callVi (as := [.int x1, .int (4 : Int32)]) (st := [.int (2 : Int32), .ref b12]) dX11_takes_61 cal_X11_of lk_X11_270 im_X11_of se_X11_of (ci := 10) rfl (by decide) hk_a0 h rfl (Nat.le_of_ble_eq_true rfl) (by decide) ⟨Nat.le_of_ble_eq_true rfl, Nat.le_of_ble_eq_true rfl⟩ (fun S13 r14 h hn_r14 hp => ?_)
    have hk_a0 : m_kd S13 a0 = 10 := m_kd_pre hp hk_a0 (by decide)
    have hk_b3 : m_kd S13 b3 = 100 := m_kd_pre hp hk_b3 (by decide)
    have hk_b5 : m_kd S13 b5 = 100 := m_kd_pre hp hk_b5 (by decide)
    have hk_b9 : m_kd S13 b9 = 100 := m_kd_pre hp hk_b9 (by decide)
    have hk_b10 : m_kd S13 b10 = 100 := m_kd_pre hp hk_b10 (by decide)
    have hk_b12 : m_kd S13 b12 = 100 := m_kd_pre hp hk_b12 (by decide)
    refine mj_iast dX11_takes_64 hk_b12 ⟨h.1, ?_⟩
    replace h := h.2
    obtain ⟨S15, eS15⟩ : ∃ z, z = m_si S13 b12 ((2 : Int32)).toNatClampNeg r14 := ⟨_, rfl⟩
    rw [← eS15]
    replace h := h S15 eS15
    have hk_a0 : m_kd S15 a0 = 10 := by rw [eS15]; exact hk_a0
    have hk_b3 : m_kd S15 b3 = 100 := by rw [eS15]; exact hk_b3
    have hk_b5 : m_kd S15 b5 = 100 := by rw [eS15]; exact hk_b5
    have hk_b9 : m_kd S15 b9 = 100 := by rw [eS15]; exact hk_b9
    have hk_b10 : m_kd S15 b10 = 100 := by rw [eS15]; exact hk_b10
    have hk_b12 : m_kd S15 b12 = 100 := by rw [eS15]; exact hk_b12
    refine mj_aload_n dX11_takes_65 rfl rfl ?_
    obtain ⟨b16, eb16, h⟩ := h
    refine mj_getP dX11_takes_66 fl_X11_34_10 hk_a0 rfl ⟨b16, eb16, fun hk_b16 => ?_⟩
    refine mj_iconst (v := 3) dX11_takes_69 (by decide) ?_
    refine mj_aload_n dX11_takes_70 rfl rfl ?_
    obtain ⟨b17, eb17, h⟩ := h
    refine mj_getP dX11_takes_71 fl_X11_49_10 hk_a0 rfl ⟨b17, eb17, fun hk_b17 => ?_⟩
    refine mj_iconst (v := 2) dX11_takes_74 (by decide) ?_
    refine mj_iald dX11_takes_75 (Or.inl hk_b17) ⟨h.1, ?_⟩
    replace h := h.2
    refine mj_iast dX11_takes_76 hk_b16 ⟨h.1, ?_⟩
    replace h := h.2
    obtain ⟨S18, eS18⟩ : ∃ z, z = m_si S15 b16 ((3 : Int32)).toNatClampNeg (m_gi S15 b17 ((2 : Int32)).toNatClampNeg) := ⟨_, rfl⟩
    rw [← eS18]
    replace h := h S18 eS18
    have hk_a0 : m_kd S18 a0 = 10 := by rw [eS18]; exact hk_a0
    have hk_b3 : m_kd S18 b3 = 100 := by rw [eS18]; exact hk_b3
    have hk_b5 : m_kd S18 b5 = 100 := by rw [eS18]; exact hk_b5
    have hk_b9 : m_kd S18 b9 = 100 := by rw [eS18]; exact hk_b9
    have hk_b10 : m_kd S18 b10 = 100 := by rw [eS18]; exact hk_b10
    have hk_b12 : m_kd S18 b12 = 100 := by rw [eS18]; exact hk_b12
    have hk_b16 : m_kd S18 b16 = 100 := by rw [eS18]; exact hk_b16
    have hk_b17 : m_kd S18 b17 = 100 := by rw [eS18]; exact hk_b17
    refine mj_aload_n dX11_takes_77 rfl rfl ?_
    obtain ⟨b19, eb19, h⟩ := h
    refine mj_getP dX11_takes_78 fl_X11_34_10 hk_a0 rfl ⟨b19, eb19, fun hk_b19 => ?_⟩
    refine mj_iconst (v := 4) dX11_takes_81 (by decide) ?_
    refine mj_aload_n dX11_takes_82 rfl rfl ?_
    obtain ⟨b20, eb20, h⟩ := h
    refine mj_getP dX11_takes_83 fl_X11_58_10 hk_a0 rfl ⟨b20, eb20, fun hk_b20 => ?_⟩
    refine mj_bipush (v := 17) dX11_takes_86 (by decide) ?_
    refine mj_iald dX11_takes_88 (Or.inl hk_b20) ⟨h.1, ?_⟩
    replace h := h.2
    refine mj_iast dX11_takes_89 hk_b19 ⟨h.1, ?_⟩
    replace h := h.2
    obtain ⟨S21, eS21⟩ : ∃ z, z = m_si S18 b19 ((4 : Int32)).toNatClampNeg (m_gi S18 b20 ((17 : Int32)).toNatClampNeg) := ⟨_, rfl⟩
    rw [← eS21]
    replace h := h S21 eS21
    have hk_a0 : m_kd S21 a0 = 10 := by rw [eS21]; exact hk_a0
    have hk_b3 : m_kd S21 b3 = 100 := by rw [eS21]; exact hk_b3
    have hk_b5 : m_kd S21 b5 = 100 := by rw [eS21]; exact hk_b5
    have hk_b9 : m_kd S21 b9 = 100 := by rw [eS21]; exact hk_b9
    have hk_b10 : m_kd S21 b10 = 100 := by rw [eS21]; exact hk_b10
    have hk_b12 : m_kd S21 b12 = 100 := by rw [eS21]; exact hk_b12
    have hk_b16 : m_kd S21 b16 = 100 := by rw [eS21]; exact hk_b16
    have hk_b17 : m_kd S21 b17 = 100 := by rw [eS21]; exact hk_b17
    have hk_b19 : m_kd S21 b19 = 100 := by rw [eS21]; exact hk_b19
    have hk_b20 : m_kd S21 b20 = 100 := by rw [eS21]; exact hk_b20
    refine mj_aload_n dX11_takes_90 rfl rfl ?_
    obtain ⟨b22, eb22, h⟩ := h
    refine mj_getP dX11_takes_91 fl_X11_34_10 hk_a0 rfl ⟨b22, eb22, fun hk_b22 => ?_⟩
    refine mj_iconst (v := 5) dX11_takes_94 (by decide) ?_
    refine mj_iload_n dX11_takes_95 rfl rfl ?_
    refine mj_iast dX11_takes_96 hk_b22 ⟨h.1, ?_⟩
    replace h := h.2
    obtain ⟨S23, eS23⟩ : ∃ z, z = m_si S21 b22 ((5 : Int32)).toNatClampNeg x1 := ⟨_, rfl⟩
    rw [← eS23]
    replace h := h S23 eS23
    have hk_a0 : m_kd S23 a0 = 10 := by rw [eS23]; exact hk_a0
    have hk_b3 : m_kd S23 b3 = 100 := by rw [eS23]; exact hk_b3
    have hk_b5 : m_kd S23 b5 = 100 := by rw [eS23]; exact hk_b5
    have hk_b9 : m_kd S23 b9 = 100 := by rw [eS23]; exact hk_b9
    have hk_b10 : m_kd S23 b10 = 100 := by rw [eS23]; exact hk_b10
    have hk_b12 : m_kd S23 b12 = 100 := by rw [eS23]; exact hk_b12
    have hk_b16 : m_kd S23 b16 = 100 := by rw [eS23]; exact hk_b16
    have hk_b17 : m_kd S23 b17 = 100 := by rw [eS23]; exact hk_b17
    have hk_b19 : m_kd S23 b19 = 100 := by rw [eS23]; exact hk_b19
    have hk_b20 : m_kd S23 b20 = 100 := by rw [eS23]; exact hk_b20
    have hk_b22 : m_kd S23 b22 = 100 := by rw [eS23]; exact hk_b22
    refine mj_aload_n dX11_takes_97 rfl rfl ?_
    refine mj_aload_n dX11_takes_98 rfl rfl ?_
    refine mj_getI dX11_takes_99 fl_X11_64_10 hk_a0 rfl ?_
    refine mj_callVi (as := [.int (m_gi S23 a0 30)]) (st := []) dX11_takes_102 cal_X11_worthOf lk_X11_331 im_X11_worthOf se_X11_worthOf (ci := 10) rfl (by decide) hk_a0 h rfl (Nat.le_of_ble_eq_true rfl) (by decide) ⟨Nat.le_of_ble_eq_true rfl, Nat.le_of_ble_eq_true rfl⟩ (fun S24 r25 h hn_r25 hp => ?_)
    have hk_a0 : m_kd S24 a0 = 10 := m_kd_pre hp hk_a0 (by decide)
    have hk_b3 : m_kd S24 b3 = 100 := m_kd_pre hp hk_b3 (by decide)
    have hk_b5 : m_kd S24 b5 = 100 := m_kd_pre hp hk_b5 (by decide)
    have hk_b9 : m_kd S24 b9 = 100 := m_kd_pre hp hk_b9 (by decide)
    have hk_b10 : m_kd S24 b10 = 100 := m_kd_pre hp hk_b10 (by decide)
    have hk_b12 : m_kd S24 b12 = 100 := m_kd_pre hp hk_b12 (by decide)
    have hk_b16 : m_kd S24 b16 = 100 := m_kd_pre hp hk_b16 (by decide)
    have hk_b17 : m_kd S24 b17 = 100 := m_kd_pre hp hk_b17 (by decide)
    have hk_b19 : m_kd S24 b19 = 100 := m_kd_pre hp hk_b19 (by decide)
    have hk_b20 : m_kd S24 b20 = 100 := m_kd_pre hp hk_b20 (by decide)
    have hk_b22 : m_kd S24 b22 = 100 := m_kd_pre hp hk_b22 (by decide)
    refine mj_istore_n dX11_takes_105 rfl (by decide) rfl rfl ?_
    exact mj_lessm [false, false, true] rfl h
set_option maxRecDepth 20000 in
set_option maxHeartbeats 1000000 in
theorem b_X11_takes_106 {l : Launch} {G : mj_G} {x2 : Int32} {S : mj_S} {Q : mj_S → Int32 → Prop} (h : M_J9_min_7cf53 l G (99 : Int32) x2 S (fun S1 r2 => M_J9_max_7cf53 l G (1 : Int32) r2 S1 (fun S3 r4 => Q S3 r4))) : V_X11_takes_106 l G x2 S Q := by
  refine mj_iconst (v := 1) dX11_takes_106 (by decide) ?_
  refine mj_bipush (v := 99) dX11_takes_107 (by decide) ?_
  refine mj_iload_n dX11_takes_109 rfl rfl ?_
  refine mj_callSi (as := [.int (99 : Int32), .int x2]) (st := [.int (1 : Int32)]) dX11_takes_110 cal_J9_min_7cf53 lk_X11_310 sm_J9_min_7cf53 h rfl (Nat.le_of_ble_eq_true rfl) (by decide) ⟨Nat.le_of_ble_eq_true rfl, Nat.le_of_ble_eq_true rfl⟩ (fun S1 r2 h hn_r2 hp => ?_)
  refine mj_callSi (as := [.int (1 : Int32), .int r2]) (st := []) dX11_takes_113 cal_J9_max_7cf53 lk_X11_312 sm_J9_max_7cf53 h rfl (Nat.le_of_ble_eq_true rfl) (by decide) ⟨Nat.le_of_ble_eq_true rfl, Nat.le_of_ble_eq_true rfl⟩ (fun S3 r4 h hn_r4 hp => ?_)
  exact mj_reti dX11_takes_116 rfl ⟨Nat.le_of_ble_eq_true rfl, Nat.le_of_ble_eq_true rfl⟩ h
