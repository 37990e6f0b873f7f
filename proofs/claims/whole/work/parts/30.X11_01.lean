abbrev V_X11_letterOf_0 (l : Launch) (G : mj_G) (x0 : Int32) (S : mj_S) (Q : mj_S → Int32 → Prop) : Prop := mj_V l G (mj_room 1 0 0) RX11 cX11_letterOf 1 (some .int) false 0 [some (.int x0)] [] S 0 0 (mj_std G (some .int) (mj_room 1 0 0) (mj_qi Q))
theorem e_X11_letterOf {l : Launch} {G : mj_G} {x0 : Int32} {S : mj_S} {Q : mj_S → Int32 → Prop} (h : V_X11_letterOf_0 l G x0 S Q) : M_X11_letterOf l G x0 S Q := mj_enter (r := 0) (ini := false) (by decide +kernel) (fun h => by cases h) (fun _ => Nat.le_of_ble_eq_true rfl) rfl h
set_option maxRecDepth 20000 in
set_option maxHeartbeats 1000000 in
theorem b_X11_letterOf_0 {l : Launch} {G : mj_G} {x0 : Int32} {S : mj_S} {Q : mj_S → Int32 → Prop} (h : ((¬ x0 = (118 : Int32)) → ((¬ x0 = (107 : Int32)) → ((¬ x0 = (103 : Int32)) → ((¬ x0 = (108 : Int32)) → ((¬ x0 = (121 : Int32)) → ((¬ x0 = (99 : Int32)) → Q S (-1 : Int32)) ∧ ((x0 = (99 : Int32)) → Q S (5 : Int32))) ∧ ((x0 = (121 : Int32)) → Q S (4 : Int32))) ∧ ((x0 = (108 : Int32)) → Q S (3 : Int32))) ∧ ((x0 = (103 : Int32)) → Q S (2 : Int32))) ∧ ((x0 = (107 : Int32)) → Q S (1 : Int32))) ∧ ((x0 = (118 : Int32)) → Q S (0 : Int32))) : V_X11_letterOf_0 l G x0 S Q := by
  refine mj_iload_n dX11_letterOf_0 rfl rfl ?_
  refine mj_bipush (v := 118) dX11_letterOf_1 (by decide) ?_
  refine mj_icmp_ne (tgt := 10) dX11_letterOf_3 (by decide) ⟨fun hc => ?_, fun hc => ?_⟩
  · replace h := h.1 hc
    refine mj_iload_n dX11_letterOf_10 rfl rfl ?_
    refine mj_bipush (v := 107) dX11_letterOf_11 (by decide) ?_
    refine mj_icmp_ne (tgt := 20) dX11_letterOf_13 (by decide) ⟨fun hc => ?_, fun hc => ?_⟩
    · replace h := h.1 hc
      refine mj_iload_n dX11_letterOf_20 rfl rfl ?_
      refine mj_bipush (v := 103) dX11_letterOf_21 (by decide) ?_
      refine mj_icmp_ne (tgt := 30) dX11_letterOf_23 (by decide) ⟨fun hc => ?_, fun hc => ?_⟩
      · replace h := h.1 hc
        refine mj_iload_n dX11_letterOf_30 rfl rfl ?_
        refine mj_bipush (v := 108) dX11_letterOf_31 (by decide) ?_
        refine mj_icmp_ne (tgt := 40) dX11_letterOf_33 (by decide) ⟨fun hc => ?_, fun hc => ?_⟩
        · replace h := h.1 hc
          refine mj_iload_n dX11_letterOf_40 rfl rfl ?_
          refine mj_bipush (v := 121) dX11_letterOf_41 (by decide) ?_
          refine mj_icmp_ne (tgt := 50) dX11_letterOf_43 (by decide) ⟨fun hc => ?_, fun hc => ?_⟩
          · replace h := h.1 hc
            refine mj_iload_n dX11_letterOf_50 rfl rfl ?_
            refine mj_bipush (v := 99) dX11_letterOf_51 (by decide) ?_
            refine mj_icmp_ne (tgt := 60) dX11_letterOf_53 (by decide) ⟨fun hc => ?_, fun hc => ?_⟩
            · replace h := h.1 hc
              refine mj_iconst (v := (-1)) dX11_letterOf_60 (by decide) ?_
              exact mj_reti dX11_letterOf_61 rfl ⟨Nat.le_of_ble_eq_true rfl, Nat.le_of_ble_eq_true rfl⟩ h
            · replace h := h.2 hc
              refine mj_iconst (v := 5) dX11_letterOf_56 (by decide) ?_
              refine mj_goto (tgt := 61) dX11_letterOf_57 (by decide) ?_
              exact mj_reti dX11_letterOf_61 rfl ⟨Nat.le_of_ble_eq_true rfl, Nat.le_of_ble_eq_true rfl⟩ h
          · replace h := h.2 hc
            refine mj_iconst (v := 4) dX11_letterOf_46 (by decide) ?_
            refine mj_goto (tgt := 61) dX11_letterOf_47 (by decide) ?_
            exact mj_reti dX11_letterOf_61 rfl ⟨Nat.le_of_ble_eq_true rfl, Nat.le_of_ble_eq_true rfl⟩ h
        · replace h := h.2 hc
          refine mj_iconst (v := 3) dX11_letterOf_36 (by decide) ?_
          refine mj_goto (tgt := 61) dX11_letterOf_37 (by decide) ?_
          exact mj_reti dX11_letterOf_61 rfl ⟨Nat.le_of_ble_eq_true rfl, Nat.le_of_ble_eq_true rfl⟩ h
      · replace h := h.2 hc
        refine mj_iconst (v := 2) dX11_letterOf_26 (by decide) ?_
        refine mj_goto (tgt := 61) dX11_letterOf_27 (by decide) ?_
        exact mj_reti dX11_letterOf_61 rfl ⟨Nat.le_of_ble_eq_true rfl, Nat.le_of_ble_eq_true rfl⟩ h
    · replace h := h.2 hc
      refine mj_iconst (v := 1) dX11_letterOf_16 (by decide) ?_
      refine mj_goto (tgt := 61) dX11_letterOf_17 (by decide) ?_
      exact mj_reti dX11_letterOf_61 rfl ⟨Nat.le_of_ble_eq_true rfl, Nat.le_of_ble_eq_true rfl⟩ h
  · replace h := h.2 hc
    refine mj_iconst (v := 0) dX11_letterOf_6 (by decide) ?_
    refine mj_goto (tgt := 61) dX11_letterOf_7 (by decide) ?_
    exact mj_reti dX11_letterOf_61 rfl ⟨Nat.le_of_ble_eq_true rfl, Nat.le_of_ble_eq_true rfl⟩ h
abbrev V_X11_opens_0 (l : Launch) (G : mj_G) (a0 : Nat) (S : mj_S) (Q : mj_S → Prop) : Prop := mj_V l G (mj_room 2 0 0) RX11 cX11_opens 1 none false 0 [some (.ref a0)] [] S 0 0 (mj_std G none (mj_room 2 0 0) (mj_qv Q))
abbrev V_X11_opens_13 (l : Launch) (G : mj_G) (a0 : Nat) (S : mj_S) (Q : mj_S → Prop) : Prop := mj_V l G (mj_room 2 0 0) RX11 cX11_opens 1 none false 13 [some (.ref a0)] [] S 0 0 (mj_std G none (mj_room 2 0 0) (mj_qv Q))
theorem e_X11_opens {l : Launch} {G : mj_G} {a0 : Nat} {S : mj_S} {Q : mj_S → Prop} (h : V_X11_opens_0 l G a0 S Q) : M_X11_opens l G a0 S Q := mj_enter (r := 0) (ini := false) (by decide +kernel) (fun h => by cases h) (fun _ => Nat.le_of_ble_eq_true rfl) rfl h
set_option maxRecDepth 20000 in
set_option maxHeartbeats 1000000 in
theorem b_X11_opens_0 {l : Launch} {G : mj_G} {a0 : Nat} {S : mj_S} {Q : mj_S → Prop} (hk_a0 : m_kd S a0 = 10) (h : ((¬ (m_gi S a0 5) = (6 : Int32)) → V_X11_opens_13 l G a0 S Q) ∧ (((m_gi S a0 5) = (6 : Int32)) → M_X11_bad l G a0 S (fun S1 => V_X11_opens_13 l G a0 S1 Q))) : V_X11_opens_0 l G a0 S Q := by
  refine mj_aload_n dX11_opens_0 rfl rfl ?_
  refine mj_getI dX11_opens_1 fl_X11_125_10 hk_a0 rfl ?_
  refine mj_bipush (v := 6) dX11_opens_4 (by decide) ?_
  refine mj_icmp_ne (tgt := 13) dX11_opens_6 (by decide) ⟨fun hc => ?_, fun hc => ?_⟩
  · replace h := h.1 hc
    exact h
  · replace h := h.2 hc
    refine mj_aload_n dX11_opens_9 rfl rfl ?_
    refine mj_callVv (as := []) (st := []) dX11_opens_10 cal_X11_bad lk_X11_128 im_X11_bad se_X11_bad (ci := 10) rfl (by decide) hk_a0 h rfl (Nat.le_of_ble_eq_true rfl) (by decide) ⟨Nat.le_of_ble_eq_true rfl, Nat.le_of_ble_eq_true rfl⟩ (fun S1 h hp => ?_)
    have hk_a0 : m_kd S1 a0 = 10 := m_kd_pre hp hk_a0 (by decide)
    exact h
set_option maxRecDepth 20000 in
set_option maxHeartbeats 1000000 in
theorem b_X11_opens_13 {l : Launch} {G : mj_G} {a0 : Nat} {S : mj_S} {Q : mj_S → Prop} (hk_a0 : m_kd S a0 = 10) (h : ∀ S1 : mj_S, S1 = m_si S a0 5 ((m_gi S a0 5) + (1 : Int32)) → ∀ S2 : mj_S, S2 = m_si S1 a0 3 ((m_gi S1 a0 3) + (1 : Int32)) → Q S2) : V_X11_opens_13 l G a0 S Q := by
  refine mj_aload_n dX11_opens_13 rfl rfl ?_
  refine mj_dup dX11_opens_14 rfl ?_
  refine mj_getI dX11_opens_15 fl_X11_125_10 hk_a0 rfl ?_
  refine mj_iconst (v := 1) dX11_opens_18 (by decide) ?_
  refine mj_iadd dX11_opens_19 ?_
  refine mj_putI dX11_opens_20 fl_X11_125_10 hk_a0 (Or.inl rfl) rfl rfl rfl ?_
  obtain ⟨S1, eS1⟩ : ∃ z, z = m_si S a0 5 ((m_gi S a0 5) + (1 : Int32)) := ⟨_, rfl⟩
  rw [← eS1]
  replace h := h S1 eS1
  have hk_a0 : m_kd S1 a0 = 10 := by rw [eS1]; exact hk_a0
  refine mj_aload_n dX11_opens_23 rfl rfl ?_
  refine mj_dup dX11_opens_24 rfl ?_
  refine mj_getI dX11_opens_25 fl_X11_112_10 hk_a0 rfl ?_
  refine mj_iconst (v := 1) dX11_opens_28 (by decide) ?_
  refine mj_iadd dX11_opens_29 ?_
  refine mj_putI dX11_opens_30 fl_X11_112_10 hk_a0 (Or.inl rfl) rfl rfl rfl ?_
  obtain ⟨S2, eS2⟩ : ∃ z, z = m_si S1 a0 3 ((m_gi S1 a0 3) + (1 : Int32)) := ⟨_, rfl⟩
  rw [← eS2]
  replace h := h S2 eS2
  have hk_a0 : m_kd S2 a0 = 10 := by rw [eS2]; exact hk_a0
  exact mj_retv dX11_opens_33 rfl ⟨Nat.le_of_ble_eq_true rfl, Nat.le_of_ble_eq_true rfl⟩ h
abbrev V_X11_closes_0 (l : Launch) (G : mj_G) (a0 : Nat) (x1 : Int32) (S : mj_S) (Q : mj_S → Prop) : Prop := mj_V l G (mj_room 3 0 0) RX11 cX11_closes 2 none false 0 [some (.ref a0), some (.int x1)] [] S 0 0 (mj_std G none (mj_room 3 0 0) (mj_qv Q))
abbrev V_X11_closes_20 (l : Launch) (G : mj_G) (a0 : Nat) (S : mj_S) (Q : mj_S → Prop) : Prop := mj_V l G (mj_room 3 0 0) RX11 cX11_closes 2 none false 20 [some (.ref a0), none] [] S 0 0 (mj_std G none (mj_room 3 0 0) (mj_qv Q))
theorem e_X11_closes {l : Launch} {G : mj_G} {a0 : Nat} {x1 : Int32} {S : mj_S} {Q : mj_S → Prop} (h : V_X11_closes_0 l G a0 x1 S Q) : M_X11_closes l G a0 x1 S Q := mj_enter (r := 0) (ini := false) (by decide +kernel) (fun h => by cases h) (fun _ => Nat.le_of_ble_eq_true rfl) rfl h
set_option maxRecDepth 20000 in
set_option maxHeartbeats 1000000 in
theorem b_X11_closes_0 {l : Launch} {G : mj_G} {a0 : Nat} {x1 : Int32} {S : mj_S} {Q : mj_S → Prop} (hk_a0 : m_kd S a0 = 10) (h : ((¬ (m_gi S a0 4) = (-1 : Int32)) → V_X11_closes_20 l G a0 S Q) ∧ (((m_gi S a0 4) = (-1 : Int32)) → M_X11_look l G a0 S (fun S1 r2 => ((r2 = x1) → V_X11_closes_20 l G a0 S1 Q) ∧ ((¬ (r2 = x1)) → M_X11_bad l G a0 S1 (fun S3 => V_X11_closes_20 l G a0 S3 Q))))) : V_X11_closes_0 l G a0 x1 S Q := by
  refine mj_aload_n dX11_closes_0 rfl rfl ?_
  refine mj_getI dX11_closes_1 fl_X11_119_10 hk_a0 rfl ?_
  refine mj_iconst (v := (-1)) dX11_closes_4 (by decide) ?_
  refine mj_icmp_ne (tgt := 20) dX11_closes_5 (by decide) ⟨fun hc => ?_, fun hc => ?_⟩
  · replace h := h.1 hc
    exact mj_lessm [true, false] rfl h
  · replace h := h.2 hc
    refine mj_aload_n dX11_closes_8 rfl rfl ?_
    refine mj_callVi (as := []) (st := []) dX11_closes_9 cal_X11_look lk_X11_131 im_X11_look se_X11_look (ci := 10) rfl (by decide) hk_a0 h rfl (Nat.le_of_ble_eq_true rfl) (by decide) ⟨Nat.le_of_ble_eq_true rfl, Nat.le_of_ble_eq_true rfl⟩ (fun S1 r2 h hn_r2 hp => ?_)
    have hk_a0 : m_kd S1 a0 = 10 := m_kd_pre hp hk_a0 (by decide)
    refine mj_iload_n dX11_closes_12 rfl rfl ?_
    refine mj_icmp_eq (tgt := 20) dX11_closes_13 (by decide) ⟨fun hc => ?_, fun hc => ?_⟩
    · replace h := h.1 hc
      exact mj_lessm [true, false] rfl h
    · replace h := h.2 hc
      refine mj_aload_n dX11_closes_16 rfl rfl ?_
      refine mj_callVv (as := []) (st := []) dX11_closes_17 cal_X11_bad lk_X11_128 im_X11_bad se_X11_bad (ci := 10) rfl (by decide) hk_a0 h rfl (Nat.le_of_ble_eq_true rfl) (by decide) ⟨Nat.le_of_ble_eq_true rfl, Nat.le_of_ble_eq_true rfl⟩ (fun S3 h hp => ?_)
      have hk_a0 : m_kd S3 a0 = 10 := m_kd_pre hp hk_a0 (by decide)
      exact mj_lessm [true, false] rfl h
set_option maxRecDepth 20000 in
set_option maxHeartbeats 1000000 in
theorem b_X11_closes_20 {l : Launch} {G : mj_G} {a0 : Nat} {S : mj_S} {Q : mj_S → Prop} (hk_a0 : m_kd S a0 = 10) (h : ∀ S1 : mj_S, S1 = m_si S a0 3 ((m_gi S a0 3) + (1 : Int32)) → ∀ S2 : mj_S, S2 = m_si S1 a0 5 ((m_gi S1 a0 5) - (1 : Int32)) → Q S2) : V_X11_closes_20 l G a0 S Q := by
  refine mj_aload_n dX11_closes_20 rfl rfl ?_
  refine mj_dup dX11_closes_21 rfl ?_
  refine mj_getI dX11_closes_22 fl_X11_112_10 hk_a0 rfl ?_
  refine mj_iconst (v := 1) dX11_closes_25 (by decide) ?_
  refine mj_iadd dX11_closes_26 ?_
  refine mj_putI dX11_closes_27 fl_X11_112_10 hk_a0 (Or.inl rfl) rfl rfl rfl ?_
  obtain ⟨S1, eS1⟩ : ∃ z, z = m_si S a0 3 ((m_gi S a0 3) + (1 : Int32)) := ⟨_, rfl⟩
  rw [← eS1]
  replace h := h S1 eS1
  have hk_a0 : m_kd S1 a0 = 10 := by rw [eS1]; exact hk_a0
  refine mj_aload_n dX11_closes_30 rfl rfl ?_
  refine mj_dup dX11_closes_31 rfl ?_
  refine mj_getI dX11_closes_32 fl_X11_125_10 hk_a0 rfl ?_
  refine mj_iconst (v := 1) dX11_closes_35 (by decide) ?_
  refine mj_isub dX11_closes_36 ?_
  refine mj_putI dX11_closes_37 fl_X11_125_10 hk_a0 (Or.inl rfl) rfl rfl rfl ?_
  obtain ⟨S2, eS2⟩ : ∃ z, z = m_si S1 a0 5 ((m_gi S1 a0 5) - (1 : Int32)) := ⟨_, rfl⟩
  rw [← eS2]
  replace h := h S2 eS2
  have hk_a0 : m_kd S2 a0 = 10 := by rw [eS2]; exact hk_a0
  exact mj_retv dX11_closes_40 rfl ⟨Nat.le_of_ble_eq_true rfl, Nat.le_of_ble_eq_true rfl⟩ h
abbrev V_X11_plainNumber_0 (l : Launch) (G : mj_G) (a0 : Nat) (S : mj_S) (Q : mj_S → Int32 → Prop) : Prop := mj_V l G (mj_room 2 0 0) RX11 cX11_plainNumber 3 (some .int) false 0 [some (.ref a0), none, none] [] S 0 0 (mj_std G (some .int) (mj_room 2 0 0) (mj_qi Q))
abbrev V_X11_plainNumber_4 (l : Launch) (G : mj_G) (a0 : Nat) (x1 : Int32) (x2 : Int32) (S : mj_S) (Q : mj_S → Int32 → Prop) : Prop := mj_V l G (mj_room 2 0 0) RX11 cX11_plainNumber 3 (some .int) false 4 [some (.ref a0), some (.int x1), some (.int x2)] [] S 0 0 (mj_std G (some .int) (mj_room 2 0 0) (mj_qi Q))
abbrev V_X11_plainNumber_48 (l : Launch) (G : mj_G) (a0 : Nat) (x1 : Int32) (S : mj_S) (Q : mj_S → Int32 → Prop) : Prop := mj_V l G (mj_room 2 0 0) RX11 cX11_plainNumber 3 (some .int) false 48 [some (.ref a0), some (.int x1), none] [] S 0 0 (mj_std G (some .int) (mj_room 2 0 0) (mj_qi Q))
theorem e_X11_plainNumber {l : Launch} {G : mj_G} {a0 : Nat} {S : mj_S} {Q : mj_S → Int32 → Prop} (h : V_X11_plainNumber_0 l G a0 S Q) : M_X11_plainNumber l G a0 S Q := mj_enter (r := 2) (ini := false) (by decide +kernel) (fun h => by cases h) (fun _ => Nat.le_of_ble_eq_true rfl) rfl h
set_option maxRecDepth 20000 in
set_option maxHeartbeats 1000000 in
theorem b_X11_plainNumber_0 {l : Launch} {G : mj_G} {a0 : Nat} {S : mj_S} {Q : mj_S → Int32 → Prop} (hk_a0 : m_kd S a0 = 10) (h : V_X11_plainNumber_4 l G a0 (0 : Int32) (0 : Int32) S Q) : V_X11_plainNumber_0 l G a0 S Q := by
  refine mj_iconst (v := 0) dX11_plainNumber_0 (by decide) ?_
  refine mj_istore_n dX11_plainNumber_1 rfl (by decide) rfl rfl ?_
  refine mj_iconst (v := 0) dX11_plainNumber_2 (by decide) ?_
  refine mj_istore_n dX11_plainNumber_3 rfl (by decide) rfl rfl ?_
  exact h
set_option maxRecDepth 20000 in
set_option maxHeartbeats 1000000 in
theorem b_X11_plainNumber_4 {l : Launch} {G : mj_G} {a0 : Nat} {x1 : Int32} {x2 : Int32} {S : mj_S} {Q : mj_S → Int32 → Prop} (hk_a0 : m_kd S a0 = 10) (h : (((4 : Int32) ≤ x2) → V_X11_plainNumber_48 l G a0 x1 S Q) ∧ ((¬ ((4 : Int32) ≤ x2)) → M_X11_here l G a0 S (fun S1 r2 => M_X11_isDigit l G r2 S1 (fun S3 r4 => ((r4 = 0) → V_X11_plainNumber_48 l G a0 x1 S3 Q) ∧ ((¬ (r4 = 0)) → M_X11_here l G a0 S3 (fun S5 r6 => ∀ v7 : Int32, v7 = ((((10 : Int32) * x1) + r6) - (48 : Int32)) → ∀ S8 : mj_S, S8 = m_si S5 a0 3 ((m_gi S5 a0 3) + (1 : Int32)) → ∀ v9 : Int32, v9 = x2 + (1 : Int32) → V_X11_plainNumber_4 l G a0 v7 v9 S8 Q)))))) : V_X11_plainNumber_4 l G a0 x1 x2 S Q := by
  refine mj_iload_n dX11_plainNumber_4 rfl rfl ?_
  refine mj_iconst (v := 4) dX11_plainNumber_5 (by decide) ?_
  refine mj_icmp_ge (tgt := 48) dX11_plainNumber_6 (by decide) ⟨fun hc => ?_, fun hc => ?_⟩
  · replace h := h.1 hc
    exact mj_lessm [true, true, false] rfl h
  · replace h := h.2 hc
    refine mj_aload_n dX11_plainNumber_9 rfl rfl ?_
    refine mj_callVi (as := []) (st := []) dX11_plainNumber_10 cal_X11_here lk_X11_115 im_X11_here se_X11_here (ci := 10) rfl (by decide) hk_a0 h rfl (Nat.le_of_ble_eq_true rfl) (by decide) ⟨Nat.le_of_ble_eq_true rfl, Nat.le_of_ble_eq_true rfl⟩ (fun S1 r2 h hn_r2 hp => ?_)
    have hk_a0 : m_kd S1 a0 = 10 := m_kd_pre hp hk_a0 (by decide)
    refine mj_callSi (as := [.int r2]) (st := []) dX11_plainNumber_13 cal_X11_isDigit lk_X11_134 sm_X11_isDigit h rfl (Nat.le_of_ble_eq_true rfl) (by decide) ⟨Nat.le_of_ble_eq_true rfl, Nat.le_of_ble_eq_true rfl⟩ (fun S3 r4 h hn_r4 hp => ?_)
    have hk_a0 : m_kd S3 a0 = 10 := m_kd_pre hp hk_a0 (by decide)
    refine mj_if_eq (tgt := 48) dX11_plainNumber_16 (by decide) ⟨fun hc => ?_, fun hc => ?_⟩
    · replace h := h.1 hc
      exact mj_lessm [true, true, false] rfl h
    · replace h := h.2 hc
      refine mj_bipush (v := 10) dX11_plainNumber_19 (by decide) ?_
      refine mj_iload_n dX11_plainNumber_21 rfl rfl ?_
      refine mj_imul dX11_plainNumber_22 ?_
      refine mj_aload_n dX11_plainNumber_23 rfl rfl ?_
      refine mj_callVi (as := []) (st := [.int ((10 : Int32) * x1)]) dX11_plainNumber_24 cal_X11_here lk_X11_115 im_X11_here se_X11_here (ci := 10) rfl (by decide) hk_a0 h rfl (Nat.le_of_ble_eq_true rfl) (by decide) ⟨Nat.le_of_ble_eq_true rfl, Nat.le_of_ble_eq_true rfl⟩ (fun S5 r6 h hn_r6 hp => ?_)
      have hk_a0 : m_kd S5 a0 = 10 := m_kd_pre hp hk_a0 (by decide)
      refine mj_iadd dX11_plainNumber_27 ?_
      refine mj_bipush (v := 48) dX11_plainNumber_28 (by decide) ?_
      refine mj_isub dX11_plainNumber_30 ?_
      refine mj_nmi (fun v7 ev7 => ?_)
      replace h := h v7 ev7
      refine mj_istore_n dX11_plainNumber_31 rfl (by decide) rfl rfl ?_
      refine mj_aload_n dX11_plainNumber_32 rfl rfl ?_
      refine mj_dup dX11_plainNumber_33 rfl ?_
      refine mj_getI dX11_plainNumber_34 fl_X11_112_10 hk_a0 rfl ?_
      refine mj_iconst (v := 1) dX11_plainNumber_37 (by decide) ?_
      refine mj_iadd dX11_plainNumber_38 ?_
      refine mj_putI dX11_plainNumber_39 fl_X11_112_10 hk_a0 (Or.inl rfl) rfl rfl rfl ?_
      obtain ⟨S8, eS8⟩ : ∃ z, z = m_si S5 a0 3 ((m_gi S5 a0 3) + (1 : Int32)) := ⟨_, rfl⟩
      rw [← eS8]
      replace h := h S8 eS8
      have hk_a0 : m_kd S8 a0 = 10 := by rw [eS8]; exact hk_a0
      obtain ⟨v9, ev9⟩ : ∃ z : Int32, z = x2 + (1 : Int32) := ⟨_, rfl⟩
      refine mj_iinc (v := v9) dX11_plainNumber_42 rfl (by rw [ev9]; rfl) (by decide) rfl rfl ?_
      replace h := h v9 ev9
      refine mj_goto (tgt := 4) dX11_plainNumber_45 (by decide) ?_
      exact h
set_option maxRecDepth 20000 in
set_option maxHeartbeats 1000000 in
theorem b_X11_plainNumber_48 {l : Launch} {G : mj_G} {a0 : Nat} {x1 : Int32} {S : mj_S} {Q : mj_S → Int32 → Prop} (hk_a0 : m_kd S a0 = 10) (h : M_X11_here l G a0 S (fun S1 r2 => M_X11_isDigit l G r2 S1 (fun S3 r4 => ((r4 = 0) → Q S3 x1) ∧ ((¬ (r4 = 0)) → M_X11_bad l G a0 S3 (fun S5 => Q S5 x1))))) : V_X11_plainNumber_48 l G a0 x1 S Q := by
  refine mj_aload_n dX11_plainNumber_48 rfl rfl ?_
  refine mj_callVi (as := []) (st := []) dX11_plainNumber_49 cal_X11_here lk_X11_115 im_X11_here se_X11_here (ci := 10) rfl (by decide) hk_a0 h rfl (Nat.le_of_ble_eq_true rfl) (by decide) ⟨Nat.le_of_ble_eq_true rfl, Nat.le_of_ble_eq_true rfl⟩ (fun S1 r2 h hn_r2 hp => ?_)
  have hk_a0 : m_kd S1 a0 = 10 := m_kd_pre hp hk_a0 (by decide)
  refine mj_callSi (as := [.int r2]) (st := []) dX11_plainNumber_52 cal_X11_isDigit lk_X11_134 sm_X11_isDigit h rfl (Nat.le_of_ble_eq_true rfl) (by decide) ⟨Nat.le_of_ble_eq_true rfl, Nat.le_of_ble_eq_true rfl⟩ (fun S3 r4 h hn_r4 hp => ?_)
  have hk_a0 : m_kd S3 a0 = 10 := m_kd_pre hp hk_a0 (by decide)
  refine mj_if_eq (tgt := 62) dX11_plainNumber_55 (by decide) ⟨fun hc => ?_, fun hc => ?_⟩
  · replace h := h.1 hc
    refine mj_iload_n dX11_plainNumber_62 rfl rfl ?_
    exact mj_reti dX11_plainNumber_63 rfl ⟨Nat.le_of_ble_eq_true rfl, Nat.le_of_ble_eq_true rfl⟩ h
  · replace h := h.2 hc
    refine mj_aload_n dX11_plainNumber_58 rfl rfl ?_
    refine mj_callVv (as := []) (st := []) dX11_plainNumber_59 cal_X11_bad lk_X11_128 im_X11_bad se_X11_bad (ci := 10) rfl (by decide) hk_a0 h rfl (Nat.le_of_ble_eq_true rfl) (by decide) ⟨Nat.le_of_ble_eq_true rfl, Nat.le_of_ble_eq_true rfl⟩ (fun S5 h hp => ?_)
    have hk_a0 : m_kd S5 a0 = 10 := m_kd_pre hp hk_a0 (by decide)
    refine mj_iload_n dX11_plainNumber_62 rfl rfl ?_
    exact mj_reti dX11_plainNumber_63 rfl ⟨Nat.le_of_ble_eq_true rfl, Nat.le_of_ble_eq_true rfl⟩ h
abbrev V_X11_atom_0 (l : Launch) (G : mj_G) (D : Nat) (a0 : Nat) (S : mj_S) (Q : mj_S → Prop) : Prop := mj_V l G (mj_room (D + 1) 0 0) RX11 cX11_atom 2 none false 0 [some (.ref a0), none] [] S 0 0 (mj_std G none (mj_room (D + 1) 0 0) (mj_qv Q))
theorem e_X11_atom {l : Launch} {G : mj_G} {D : Nat} {a0 : Nat} {S : mj_S} {Q : mj_S → Prop} (h : V_X11_atom_0 l G D a0 S Q) : M_X11_atom l G (D + 1) a0 S Q := mj_enter (r := 1) (ini := false) (by decide +kernel) (fun h => by cases h) (fun _ => Nat.le_of_ble_eq_true rfl) rfl h
set_option maxRecDepth 20000 in
set_option maxHeartbeats 1000000 in
theorem b_X11_atom_0 {l : Launch} {G : mj_G} {D : Nat} {a0 : Nat} {S : mj_S} {Q : mj_S → Prop} (hD : 8 ≤ D) (hk_a0 : m_kd S a0 = 10) (h : M_X11_look l G a0 S (fun S1 r2 => M_X11_isDigit l G r2 S1 (fun S3 r4 => ((r4 = 0) → M_X11_letterOf l G r2 S3 (fun S5 r6 => ((r6 = (-1 : Int32)) → ((¬ r2 = (91 : Int32)) → M_X11_bad l G a0 S5 (fun S7 => Q S7)) ∧ ((r2 = (91 : Int32)) → M_X11_opens l G a0 S5 (fun S8 => ((¬ (m_gi S8 a0 4) = (-1 : Int32)) → Q S8) ∧ (((m_gi S8 a0 4) = (-1 : Int32)) → M_X11_sum l G D a0 S8 (fun S9 => M_X11_closes l G a0 (93 : Int32) S9 (fun S10 => Q S10)))))) ∧ ((¬ (r6 = (-1 : Int32))) → ∀ S11 : mj_S, S11 = m_si S5 a0 3 ((m_gi S5 a0 3) + (1 : Int32)) → M_X11_letterOf l G r2 S11 (fun S12 r13 => M_X11_put l G a0 (1 : Int32) r13 S12 (fun S14 => Q S14))))) ∧ ((¬ (r4 = 0)) → M_X11_plainNumber l G a0 S3 (fun S15 r16 => M_X11_put l G a0 (0 : Int32) r16 S15 (fun S17 => Q S17)))))) : V_X11_atom_0 l G D a0 S Q := by
  refine mj_aload_n dX11_atom_0 rfl rfl ?_
  refine mj_callVi (as := []) (st := []) dX11_atom_1 cal_X11_look lk_X11_131 im_X11_look se_X11_look (ci := 10) rfl (by decide) hk_a0 h rfl (Nat.le_of_ble_eq_true rfl) (by omega) ⟨Nat.le_of_ble_eq_true rfl, Nat.le_of_ble_eq_true rfl⟩ (fun S1 r2 h hn_r2 hp => ?_)
  have hk_a0 : m_kd S1 a0 = 10 := m_kd_pre hp hk_a0 (by decide)
  refine mj_istore_n dX11_atom_4 rfl (by decide) rfl rfl ?_
  refine mj_iload_n dX11_atom_5 rfl rfl ?_
  refine mj_callSi (as := [.int r2]) (st := []) dX11_atom_6 cal_X11_isDigit lk_X11_134 sm_X11_isDigit h rfl (Nat.le_of_ble_eq_true rfl) (by omega) ⟨Nat.le_of_ble_eq_true rfl, Nat.le_of_ble_eq_true rfl⟩ (fun S3 r4 h hn_r4 hp => ?_)
  have hk_a0 : m_kd S3 a0 = 10 := m_kd_pre hp hk_a0 (by decide)
  refine mj_if_eq (tgt := 24) dX11_atom_9 (by decide) ⟨fun hc => ?_, fun hc => ?_⟩
  · replace h := h.1 hc
    refine mj_iload_n dX11_atom_24 rfl rfl ?_
    refine mj_callSi (as := [.int r2]) (st := []) dX11_atom_25 cal_X11_letterOf lk_X11_145 sm_X11_letterOf h rfl (Nat.le_of_ble_eq_true rfl) (by omega) ⟨Nat.le_of_ble_eq_true rfl, Nat.le_of_ble_eq_true rfl⟩ (fun S5 r6 h hn_r6 hp => ?_)
    have hk_a0 : m_kd S5 a0 = 10 := m_kd_pre hp hk_a0 (by decide)
    refine mj_iconst (v := (-1)) dX11_atom_28 (by decide) ?_
    refine mj_icmp_eq (tgt := 54) dX11_atom_29 (by decide) ⟨fun hc => ?_, fun hc => ?_⟩
    · replace h := h.1 hc
      refine mj_iload_n dX11_atom_54 rfl rfl ?_
      refine mj_bipush (v := 91) dX11_atom_55 (by decide) ?_
      refine mj_icmp_ne (tgt := 85) dX11_atom_57 (by decide) ⟨fun hc => ?_, fun hc => ?_⟩
      · replace h := h.1 hc
        refine mj_aload_n dX11_atom_85 rfl rfl ?_
        refine mj_callVv (as := []) (st := []) dX11_atom_86 cal_X11_bad lk_X11_128 im_X11_bad se_X11_bad (ci := 10) rfl (by decide) hk_a0 h rfl (Nat.le_of_ble_eq_true rfl) (by omega) ⟨Nat.le_of_ble_eq_true rfl, Nat.le_of_ble_eq_true rfl⟩ (fun S7 h hp => ?_)
        have hk_a0 : m_kd S7 a0 = 10 := m_kd_pre hp hk_a0 (by decide)
        exact mj_retv dX11_atom_89 rfl ⟨Nat.le_of_ble_eq_true rfl, Nat.le_of_ble_eq_true rfl⟩ h
      · replace h := h.2 hc
        refine mj_aload_n dX11_atom_60 rfl rfl ?_
        refine mj_callVv (as := []) (st := []) dX11_atom_61 cal_X11_opens lk_X11_149 im_X11_opens se_X11_opens (ci := 10) rfl (by decide) hk_a0 h rfl (Nat.le_of_ble_eq_true rfl) (by omega) ⟨Nat.le_of_ble_eq_true rfl, Nat.le_of_ble_eq_true rfl⟩ (fun S8 h hp => ?_)
        have hk_a0 : m_kd S8 a0 = 10 := m_kd_pre hp hk_a0 (by decide)
        refine mj_aload_n dX11_atom_64 rfl rfl ?_
        refine mj_getI dX11_atom_65 fl_X11_119_10 hk_a0 rfl ?_
        refine mj_iconst (v := (-1)) dX11_atom_68 (by decide) ?_
        refine mj_icmp_ne (tgt := 89) dX11_atom_69 (by decide) ⟨fun hc => ?_, fun hc => ?_⟩
        · replace h := h.1 hc
          exact mj_retv dX11_atom_89 rfl ⟨Nat.le_of_ble_eq_true rfl, Nat.le_of_ble_eq_true rfl⟩ h
        · replace h := h.2 hc
          refine mj_aload_n dX11_atom_72 rfl rfl ?_
          refine mj_callVv (as := []) (st := []) dX11_atom_73 cal_X11_sum lk_X11_152 im_X11_sum se_X11_sum (ci := 10) rfl (by decide) hk_a0 h rfl (Nat.le_of_ble_eq_true rfl) (by omega) ⟨Nat.le_of_ble_eq_true rfl, Nat.le_of_ble_eq_true rfl⟩ (fun S9 h hp => ?_)
          have hk_a0 : m_kd S9 a0 = 10 := m_kd_pre hp hk_a0 (by decide)
          refine mj_aload_n dX11_atom_76 rfl rfl ?_
          refine mj_bipush (v := 93) dX11_atom_77 (by decide) ?_
          refine mj_callVv (as := [.int (93 : Int32)]) (st := []) dX11_atom_79 cal_X11_closes lk_X11_155 im_X11_closes se_X11_closes (ci := 10) rfl (by decide) hk_a0 h rfl (Nat.le_of_ble_eq_true rfl) (by omega) ⟨Nat.le_of_ble_eq_true rfl, Nat.le_of_ble_eq_true rfl⟩ (fun S10 h hp => ?_)
          have hk_a0 : m_kd S10 a0 = 10 := m_kd_pre hp hk_a0 (by decide)
          refine mj_goto (tgt := 89) dX11_atom_82 (by decide) ?_
          exact mj_retv dX11_atom_89 rfl ⟨Nat.le_of_ble_eq_true rfl, Nat.le_of_ble_eq_true rfl⟩ h
    · replace h := h.2 hc
      refine mj_aload_n dX11_atom_32 rfl rfl ?_
      refine mj_dup dX11_atom_33 rfl ?_
      refine mj_getI dX11_atom_34 fl_X11_112_10 hk_a0 rfl ?_
      refine mj_iconst (v := 1) dX11_atom_37 (by decide) ?_
      refine mj_iadd dX11_atom_38 ?_
      refine mj_putI dX11_atom_39 fl_X11_112_10 hk_a0 (Or.inl rfl) rfl rfl rfl ?_
      obtain ⟨S11, eS11⟩ : ∃ z, z = m_si S5 a0 3 ((m_gi S5 a0 3) + (1 : Int32)) := ⟨_, rfl⟩
      rw [← eS11]
      replace h := h S11 eS11
      have hk_a0 : m_kd S11 a0 = 10 := by rw [eS11]; exact hk_a0
      refine mj_aload_n dX11_atom_42 rfl rfl ?_
      refine mj_iconst (v := 1) dX11_atom_43 (by decide) ?_
      refine mj_iload_n dX11_atom_44 rfl rfl ?_
      refine mj_callSi (as := [.int r2]) (st := [.int (1 : Int32), .ref a0]) dX11_atom_45 cal_X11_letterOf lk_X11_145 sm_X11_letterOf h rfl (Nat.le_of_ble_eq_true rfl) (by omega) ⟨Nat.le_of_ble_eq_true rfl, Nat.le_of_ble_eq_true rfl⟩ (fun S12 r13 h hn_r13 hp => ?_)
      have hk_a0 : m_kd S12 a0 = 10 := m_kd_pre hp hk_a0 (by decide)
      refine mj_callVv (as := [.int (1 : Int32), .int r13]) (st := []) dX11_atom_48 cal_X11_put lk_X11_141 im_X11_put se_X11_put (ci := 10) rfl (by decide) hk_a0 h rfl (Nat.le_of_ble_eq_true rfl) (by omega) ⟨Nat.le_of_ble_eq_true rfl, Nat.le_of_ble_eq_true rfl⟩ (fun S14 h hp => ?_)
      have hk_a0 : m_kd S14 a0 = 10 := m_kd_pre hp hk_a0 (by decide)
      refine mj_goto (tgt := 89) dX11_atom_51 (by decide) ?_
      exact mj_retv dX11_atom_89 rfl ⟨Nat.le_of_ble_eq_true rfl, Nat.le_of_ble_eq_true rfl⟩ h
  · replace h := h.2 hc
    refine mj_aload_n dX11_atom_12 rfl rfl ?_
    refine mj_iconst (v := 0) dX11_atom_13 (by decide) ?_
    refine mj_aload_n dX11_atom_14 rfl rfl ?_
    refine mj_callVi (as := []) (st := [.int (0 : Int32), .ref a0]) dX11_atom_15 cal_X11_plainNumber lk_X11_138 im_X11_plainNumber se_X11_plainNumber (ci := 10) rfl (by decide) hk_a0 h rfl (Nat.le_of_ble_eq_true rfl) (by omega) ⟨Nat.le_of_ble_eq_true rfl, Nat.le_of_ble_eq_true rfl⟩ (fun S15 r16 h hn_r16 hp => ?_)
    have hk_a0 : m_kd S15 a0 = 10 := m_kd_pre hp hk_a0 (by decide)
    refine mj_callVv (as := [.int (0 : Int32), .int r16]) (st := []) dX11_atom_18 cal_X11_put lk_X11_141 im_X11_put se_X11_put (ci := 10) rfl (by decide) hk_a0 h rfl (Nat.le_of_ble_eq_true rfl) (by omega) ⟨Nat.le_of_ble_eq_true rfl, Nat.le_of_ble_eq_true rfl⟩ (fun S17 h hp => ?_)
    have hk_a0 : m_kd S17 a0 = 10 := m_kd_pre hp hk_a0 (by decide)
    refine mj_goto (tgt := 89) dX11_atom_21 (by decide) ?_
    exact mj_retv dX11_atom_89 rfl ⟨Nat.le_of_ble_eq_true rfl, Nat.le_of_ble_eq_true rfl⟩ h
abbrev V_X11_term_0 (l : Launch) (G : mj_G) (D : Nat) (a0 : Nat) (S : mj_S) (Q : mj_S → Prop) : Prop := mj_V l G (mj_room (D + 1) 0 0) RX11 cX11_term 2 none false 0 [some (.ref a0), none] [] S 0 0 (mj_std G none (mj_room (D + 1) 0 0) (mj_qv Q))
abbrev V_X11_term_21 (l : Launch) (G : mj_G) (D : Nat) (a0 : Nat) (x1 : Int32) (S : mj_S) (Q : mj_S → Prop) : Prop := mj_V l G (mj_room (D + 1) 0 0) RX11 cX11_term 2 none false 21 [some (.ref a0), some (.int x1)] [] S 0 0 (mj_std G none (mj_room (D + 1) 0 0) (mj_qv Q))
abbrev V_X11_term_33 (l : Launch) (G : mj_G) (D : Nat) (a0 : Nat) (x1 : Int32) (S : mj_S) (Q : mj_S → Prop) : Prop := mj_V l G (mj_room (D + 1) 0 0) RX11 cX11_term 2 none false 33 [some (.ref a0), some (.int x1)] [] S 0 0 (mj_std G none (mj_room (D + 1) 0 0) (mj_qv Q))
abbrev V_X11_term_59 (l : Launch) (G : mj_G) (D : Nat) (a0 : Nat) (c0 : Nat) (s1 : Int32) (S : mj_S) (Q : mj_S → Prop) : Prop := mj_V l G (mj_room (D + 1) 0 0) RX11 cX11_term 2 none false 59 [some (.ref a0), none] [.int s1, .ref c0] S 0 0 (mj_std G none (mj_room (D + 1) 0 0) (mj_qv Q))
theorem e_X11_term {l : Launch} {G : mj_G} {D : Nat} {a0 : Nat} {S : mj_S} {Q : mj_S → Prop} (h : V_X11_term_0 l G D a0 S Q) : M_X11_term l G (D + 1) a0 S Q := mj_enter (r := 1) (ini := false) (by decide +kernel) (fun h => by cases h) (fun _ => Nat.le_of_ble_eq_true rfl) rfl h
set_option maxRecDepth 20000 in
set_option maxHeartbeats 1000000 in
theorem b_X11_term_0 {l : Launch} {G : mj_G} {D : Nat} {a0 : Nat} {S : mj_S} {Q : mj_S → Prop} (hD : 8 ≤ D) (hk_a0 : m_kd S a0 = 10) (h : M_X11_atom l G D a0 S (fun S1 => ((¬ (m_gi S1 a0 4) = (-1 : Int32)) → V_X11_term_21 l G D a0 (-1 : Int32) S1 Q) ∧ (((m_gi S1 a0 4) = (-1 : Int32)) → M_X11_look l G a0 S1 (fun S2 r3 => V_X11_term_21 l G D a0 r3 S2 Q)))) : V_X11_term_0 l G D a0 S Q := by
  refine mj_aload_n dX11_term_0 rfl rfl ?_
  refine mj_callVv (as := []) (st := []) dX11_term_1 cal_X11_atom lk_X11_159 im_X11_atom se_X11_atom (ci := 10) rfl (by decide) hk_a0 h rfl (Nat.le_of_ble_eq_true rfl) (by omega) ⟨Nat.le_of_ble_eq_true rfl, Nat.le_of_ble_eq_true rfl⟩ (fun S1 h hp => ?_)
  have hk_a0 : m_kd S1 a0 = 10 := m_kd_pre hp hk_a0 (by decide)
  refine mj_aload_n dX11_term_4 rfl rfl ?_
  refine mj_getI dX11_term_5 fl_X11_119_10 hk_a0 rfl ?_
  refine mj_iconst (v := (-1)) dX11_term_8 (by decide) ?_
  refine mj_icmp_ne (tgt := 19) dX11_term_9 (by decide) ⟨fun hc => ?_, fun hc => ?_⟩
  · replace h := h.1 hc
    refine mj_iconst (v := (-1)) dX11_term_19 (by decide) ?_
    refine mj_istore_n dX11_term_20 rfl (by decide) rfl rfl ?_
    exact h
  · replace h := h.2 hc
    refine mj_aload_n dX11_term_12 rfl rfl ?_
    refine mj_callVi (as := []) (st := []) dX11_term_13 cal_X11_look lk_X11_131 im_X11_look se_X11_look (ci := 10) rfl (by decide) hk_a0 h rfl (Nat.le_of_ble_eq_true rfl) (by omega) ⟨Nat.le_of_ble_eq_true rfl, Nat.le_of_ble_eq_true rfl⟩ (fun S2 r3 h hn_r3 hp => ?_)
    have hk_a0 : m_kd S2 a0 = 10 := m_kd_pre hp hk_a0 (by decide)
    refine mj_goto (tgt := 20) dX11_term_16 (by decide) ?_
    refine mj_istore_n dX11_term_20 rfl (by decide) rfl rfl ?_
    exact h
set_option maxRecDepth 20000 in
set_option maxHeartbeats 1000000 in
theorem b_X11_term_21 {l : Launch} {G : mj_G} {D : Nat} {a0 : Nat} {x1 : Int32} {S : mj_S} {Q : mj_S → Prop} (hD : 8 ≤ D) (hk_a0 : m_kd S a0 = 10) (h : ((x1 = (42 : Int32)) → V_X11_term_33 l G D a0 x1 S Q) ∧ ((¬ (x1 = (42 : Int32))) → ((¬ x1 = (47 : Int32)) → Q S) ∧ ((x1 = (47 : Int32)) → V_X11_term_33 l G D a0 x1 S Q))) : V_X11_term_21 l G D a0 x1 S Q := by
  refine mj_iload_n dX11_term_21 rfl rfl ?_
  refine mj_bipush (v := 42) dX11_term_22 (by decide) ?_
  refine mj_icmp_eq (tgt := 33) dX11_term_24 (by decide) ⟨fun hc => ?_, fun hc => ?_⟩
  · replace h := h.1 hc
    exact h
  · replace h := h.2 hc
    refine mj_iload_n dX11_term_27 rfl rfl ?_
    refine mj_bipush (v := 47) dX11_term_28 (by decide) ?_
    refine mj_icmp_ne (tgt := 83) dX11_term_30 (by decide) ⟨fun hc => ?_, fun hc => ?_⟩
    · replace h := h.1 hc
      exact mj_retv dX11_term_83 rfl ⟨Nat.le_of_ble_eq_true rfl, Nat.le_of_ble_eq_true rfl⟩ h
    · replace h := h.2 hc
      exact h
set_option maxRecDepth 20000 in
set_option maxHeartbeats 1000000 in
theorem b_X11_term_33 {l : Launch} {G : mj_G} {D : Nat} {a0 : Nat} {x1 : Int32} {S : mj_S} {Q : mj_S → Prop} (hD : 8 ≤ D) (hk_a0 : m_kd S a0 = 10) (h : ∀ S1 : mj_S, S1 = m_si S a0 3 ((m_gi S a0 3) + (1 : Int32)) → M_X11_atom l G D a0 S1 (fun S2 => ((¬ x1 = (42 : Int32)) → V_X11_term_59 l G D a0 a0 (5 : Int32) S2 Q) ∧ ((x1 = (42 : Int32)) → V_X11_term_59 l G D a0 a0 (4 : Int32) S2 Q))) : V_X11_term_33 l G D a0 x1 S Q := by
  refine mj_aload_n dX11_term_33 rfl rfl ?_
  refine mj_dup dX11_term_34 rfl ?_
  refine mj_getI dX11_term_35 fl_X11_112_10 hk_a0 rfl ?_
  refine mj_iconst (v := 1) dX11_term_38 (by decide) ?_
  refine mj_iadd dX11_term_39 ?_
  refine mj_putI dX11_term_40 fl_X11_112_10 hk_a0 (Or.inl rfl) rfl rfl rfl ?_
  obtain ⟨S1, eS1⟩ : ∃ z, z = m_si S a0 3 ((m_gi S a0 3) + (1 : Int32)) := ⟨_, rfl⟩
  rw [← eS1]
  replace h := h S1 eS1
  have hk_a0 : m_kd S1 a0 = 10 := by rw [eS1]; exact hk_a0
  refine mj_aload_n dX11_term_43 rfl rfl ?_
  refine mj_callVv (as := []) (st := []) dX11_term_44 cal_X11_atom lk_X11_159 im_X11_atom se_X11_atom (ci := 10) rfl (by decide) hk_a0 h rfl (Nat.le_of_ble_eq_true rfl) (by omega) ⟨Nat.le_of_ble_eq_true rfl, Nat.le_of_ble_eq_true rfl⟩ (fun S2 h hp => ?_)
  have hk_a0 : m_kd S2 a0 = 10 := m_kd_pre hp hk_a0 (by decide)
  refine mj_aload_n dX11_term_47 rfl rfl ?_
  refine mj_iload_n dX11_term_48 rfl rfl ?_
  refine mj_bipush (v := 42) dX11_term_49 (by decide) ?_
  refine mj_icmp_ne (tgt := 58) dX11_term_51 (by decide) ⟨fun hc => ?_, fun hc => ?_⟩
  · replace h := h.1 hc
    refine mj_iconst (v := 5) dX11_term_58 (by decide) ?_
    exact mj_lessm [true, false] rfl h
  · replace h := h.2 hc
    refine mj_iconst (v := 4) dX11_term_54 (by decide) ?_
    refine mj_goto (tgt := 59) dX11_term_55 (by decide) ?_
    exact mj_lessm [true, false] rfl h
set_option maxRecDepth 20000 in
set_option maxHeartbeats 1000000 in
theorem b_X11_term_59 {l : Launch} {G : mj_G} {D : Nat} {a0 : Nat} {c0 : Nat} {s1 : Int32} {S : mj_S} {Q : mj_S → Prop} (hD : 8 ≤ D) (hk_a0 : m_kd S a0 = 10) (hk_c0 : m_kd S c0 = 10) (h : M_X11_put l G c0 s1 (0 : Int32) S (fun S1 => ((¬ (m_gi S1 a0 4) = (-1 : Int32)) → V_X11_term_21 l G D a0 (-1 : Int32) S1 Q) ∧ (((m_gi S1 a0 4) = (-1 : Int32)) → M_X11_look l G a0 S1 (fun S2 r3 => V_X11_term_21 l G D a0 r3 S2 Q)))) : V_X11_term_59 l G D a0 c0 s1 S Q := by
  refine mj_iconst (v := 0) dX11_term_59 (by decide) ?_
  refine mj_callVv (as := [.int s1, .int (0 : Int32)]) (st := []) dX11_term_60 cal_X11_put lk_X11_141 im_X11_put se_X11_put (ci := 10) rfl (by decide) hk_c0 h rfl (Nat.le_of_ble_eq_true rfl) (by omega) ⟨Nat.le_of_ble_eq_true rfl, Nat.le_of_ble_eq_true rfl⟩ (fun S1 h hp => ?_)
  have hk_a0 : m_kd S1 a0 = 10 := m_kd_pre hp hk_a0 (by decide)
  have hk_c0 : m_kd S1 c0 = 10 := m_kd_pre hp hk_c0 (by decide)
  refine mj_aload_n dX11_term_63 rfl rfl ?_
  refine mj_getI dX11_term_64 fl_X11_119_10 hk_a0 rfl ?_
  refine mj_iconst (v := (-1)) dX11_term_67 (by decide) ?_
  refine mj_icmp_ne (tgt := 78) dX11_term_68 (by decide) ⟨fun hc => ?_, fun hc => ?_⟩
  · replace h := h.1 hc
    refine mj_iconst (v := (-1)) dX11_term_78 (by decide) ?_
    refine mj_istore_n dX11_term_79 rfl (by decide) rfl rfl ?_
    refine mj_goto (tgt := 21) dX11_term_80 (by decide) ?_
    exact h
  · replace h := h.2 hc
    refine mj_aload_n dX11_term_71 rfl rfl ?_
    refine mj_callVi (as := []) (st := []) dX11_term_72 cal_X11_look lk_X11_131 im_X11_look se_X11_look (ci := 10) rfl (by decide) hk_a0 h rfl (Nat.le_of_ble_eq_true rfl) (by omega) ⟨Nat.le_of_ble_eq_true rfl, Nat.le_of_ble_eq_true rfl⟩ (fun S2 r3 h hn_r3 hp => ?_)
    have hk_a0 : m_kd S2 a0 = 10 := m_kd_pre hp hk_a0 (by decide)
    have hk_c0 : m_kd S2 c0 = 10 := m_kd_pre hp hk_c0 (by decide)
    refine mj_goto (tgt := 79) dX11_term_75 (by decide) ?_
    refine mj_istore_n dX11_term_79 rfl (by decide) rfl rfl ?_
    refine mj_goto (tgt := 21) dX11_term_80 (by decide) ?_
    exact h
abbrev V_X11_sum_0 (l : Launch) (G : mj_G) (D : Nat) (a0 : Nat) (S : mj_S) (Q : mj_S → Prop) : Prop := mj_V l G (mj_room (D + 1) 0 0) RX11 cX11_sum 2 none false 0 [some (.ref a0), none] [] S 0 0 (mj_std G none (mj_room (D + 1) 0 0) (mj_qv Q))
abbrev V_X11_sum_21 (l : Launch) (G : mj_G) (D : Nat) (a0 : Nat) (x1 : Int32) (S : mj_S) (Q : mj_S → Prop) : Prop := mj_V l G (mj_room (D + 1) 0 0) RX11 cX11_sum 2 none false 21 [some (.ref a0), some (.int x1)] [] S 0 0 (mj_std G none (mj_room (D + 1) 0 0) (mj_qv Q))
abbrev V_X11_sum_33 (l : Launch) (G : mj_G) (D : Nat) (a0 : Nat) (x1 : Int32) (S : mj_S) (Q : mj_S → Prop) : Prop := mj_V l G (mj_room (D + 1) 0 0) RX11 cX11_sum 2 none false 33 [some (.ref a0), some (.int x1)] [] S 0 0 (mj_std G none (mj_room (D + 1) 0 0) (mj_qv Q))
abbrev V_X11_sum_59 (l : Launch) (G : mj_G) (D : Nat) (a0 : Nat) (c0 : Nat) (s1 : Int32) (S : mj_S) (Q : mj_S → Prop) : Prop := mj_V l G (mj_room (D + 1) 0 0) RX11 cX11_sum 2 none false 59 [some (.ref a0), none] [.int s1, .ref c0] S 0 0 (mj_std G none (mj_room (D + 1) 0 0) (mj_qv Q))
theorem e_X11_sum {l : Launch} {G : mj_G} {D : Nat} {a0 : Nat} {S : mj_S} {Q : mj_S → Prop} (h : V_X11_sum_0 l G D a0 S Q) : M_X11_sum l G (D + 1) a0 S Q := mj_enter (r := 1) (ini := false) (by decide +kernel) (fun h => by cases h) (fun _ => Nat.le_of_ble_eq_true rfl) rfl h
set_option maxRecDepth 20000 in
set_option maxHeartbeats 1000000 in
theorem b_X11_sum_0 {l : Launch} {G : mj_G} {D : Nat} {a0 : Nat} {S : mj_S} {Q : mj_S → Prop} (hD : 8 ≤ D) (hk_a0 : m_kd S a0 = 10) (h : M_X11_term l G D a0 S (fun S1 => ((¬ (m_gi S1 a0 4) = (-1 : Int32)) → V_X11_sum_21 l G D a0 (-1 : Int32) S1 Q) ∧ (((m_gi S1 a0 4) = (-1 : Int32)) → M_X11_look l G a0 S1 (fun S2 r3 => V_X11_sum_21 l G D a0 r3 S2 Q)))) : V_X11_sum_0 l G D a0 S Q := by
  refine mj_aload_n dX11_sum_0 rfl rfl ?_
  refine mj_callVv (as := []) (st := []) dX11_sum_1 cal_X11_term lk_X11_162 im_X11_term se_X11_term (ci := 10) rfl (by decide) hk_a0 h rfl (Nat.le_of_ble_eq_true rfl) (by omega) ⟨Nat.le_of_ble_eq_true rfl, Nat.le_of_ble_eq_true rfl⟩ (fun S1 h hp => ?_)
  have hk_a0 : m_kd S1 a0 = 10 := m_kd_pre hp hk_a0 (by decide)
  refine mj_aload_n dX11_sum_4 rfl rfl ?_
  refine mj_getI dX11_sum_5 fl_X11_119_10 hk_a0 rfl ?_
  refine mj_iconst (v := (-1)) dX11_sum_8 (by decide) ?_
  refine mj_icmp_ne (tgt := 19) dX11_sum_9 (by decide) ⟨fun hc => ?_, fun hc => ?_⟩
  · replace h := h.1 hc
    refine mj_iconst (v := (-1)) dX11_sum_19 (by decide) ?_
    refine mj_istore_n dX11_sum_20 rfl (by decide) rfl rfl ?_
    exact h
  · replace h := h.2 hc
    refine mj_aload_n dX11_sum_12 rfl rfl ?_
    refine mj_callVi (as := []) (st := []) dX11_sum_13 cal_X11_look lk_X11_131 im_X11_look se_X11_look (ci := 10) rfl (by decide) hk_a0 h rfl (Nat.le_of_ble_eq_true rfl) (by omega) ⟨Nat.le_of_ble_eq_true rfl, Nat.le_of_ble_eq_true rfl⟩ (fun S2 r3 h hn_r3 hp => ?_)
    have hk_a0 : m_kd S2 a0 = 10 := m_kd_pre hp hk_a0 (by decide)
    refine mj_goto (tgt := 20) dX11_sum_16 (by decide) ?_
    refine mj_istore_n dX11_sum_20 rfl (by decide) rfl rfl ?_
    exact h
set_option maxRecDepth 20000 in
set_option maxHeartbeats 1000000 in
theorem b_X11_sum_21 {l : Launch} {G : mj_G} {D : Nat} {a0 : Nat} {x1 : Int32} {S : mj_S} {Q : mj_S → Prop} (hD : 8 ≤ D) (hk_a0 : m_kd S a0 = 10) (h : ((x1 = (43 : Int32)) → V_X11_sum_33 l G D a0 x1 S Q) ∧ ((¬ (x1 = (43 : Int32))) → ((¬ x1 = (45 : Int32)) → Q S) ∧ ((x1 = (45 : Int32)) → V_X11_sum_33 l G D a0 x1 S Q))) : V_X11_sum_21 l G D a0 x1 S Q := by
  refine mj_iload_n dX11_sum_21 rfl rfl ?_
  refine mj_bipush (v := 43) dX11_sum_22 (by decide) ?_
  refine mj_icmp_eq (tgt := 33) dX11_sum_24 (by decide) ⟨fun hc => ?_, fun hc => ?_⟩
  · replace h := h.1 hc
    exact h
  · replace h := h.2 hc
    refine mj_iload_n dX11_sum_27 rfl rfl ?_
    refine mj_bipush (v := 45) dX11_sum_28 (by decide) ?_
    refine mj_icmp_ne (tgt := 83) dX11_sum_30 (by decide) ⟨fun hc => ?_, fun hc => ?_⟩
    · replace h := h.1 hc
      exact mj_retv dX11_sum_83 rfl ⟨Nat.le_of_ble_eq_true rfl, Nat.le_of_ble_eq_true rfl⟩ h
    · replace h := h.2 hc
      exact h
set_option maxRecDepth 20000 in
set_option maxHeartbeats 1000000 in
theorem b_X11_sum_33 {l : Launch} {G : mj_G} {D : Nat} {a0 : Nat} {x1 : Int32} {S : mj_S} {Q : mj_S → Prop} (hD : 8 ≤ D) (hk_a0 : m_kd S a0 = 10) (h : ∀ S1 : mj_S, S1 = m_si S a0 3 ((m_gi S a0 3) + (1 : Int32)) → M_X11_term l G D a0 S1 (fun S2 => ((¬ x1 = (43 : Int32)) → V_X11_sum_59 l G D a0 a0 (3 : Int32) S2 Q) ∧ ((x1 = (43 : Int32)) → V_X11_sum_59 l G D a0 a0 (2 : Int32) S2 Q))) : V_X11_sum_33 l G D a0 x1 S Q := by
  refine mj_aload_n dX11_sum_33 rfl rfl ?_
  refine mj_dup dX11_sum_34 rfl ?_
  refine mj_getI dX11_sum_35 fl_X11_112_10 hk_a0 rfl ?_
  refine mj_iconst (v := 1) dX11_sum_38 (by decide) ?_
  refine mj_iadd dX11_sum_39 ?_
  refine mj_putI dX11_sum_40 fl_X11_112_10 hk_a0 (Or.inl rfl) rfl rfl rfl ?_
  obtain ⟨S1, eS1⟩ : ∃ z, z = m_si S a0 3 ((m_gi S a0 3) + (1 : Int32)) := ⟨_, rfl⟩
  rw [← eS1]
  replace h := h S1 eS1
  have hk_a0 : m_kd S1 a0 = 10 := by rw [eS1]; exact hk_a0
  refine mj_aload_n dX11_sum_43 rfl rfl ?_
  refine mj_callVv (as := []) (st := []) dX11_sum_44 cal_X11_term lk_X11_162 im_X11_term se_X11_term (ci := 10) rfl (by decide) hk_a0 h rfl (Nat.le_of_ble_eq_true rfl) (by omega) ⟨Nat.le_of_ble_eq_true rfl, Nat.le_of_ble_eq_true rfl⟩ (fun S2 h hp => ?_)
  have hk_a0 : m_kd S2 a0 = 10 := m_kd_pre hp hk_a0 (by decide)
  refine mj_aload_n dX11_sum_47 rfl rfl ?_
  refine mj_iload_n dX11_sum_48 rfl rfl ?_
  refine mj_bipush (v := 43) dX11_sum_49 (by decide) ?_
  refine mj_icmp_ne (tgt := 58) dX11_sum_51 (by decide) ⟨fun hc => ?_, fun hc => ?_⟩
  · replace h := h.1 hc
    refine mj_iconst (v := 3) dX11_sum_58 (by decide) ?_
    exact mj_lessm [true, false] rfl h
  · replace h := h.2 hc
    refine mj_iconst (v := 2) dX11_sum_54 (by decide) ?_
    refine mj_goto (tgt := 59) dX11_sum_55 (by decide) ?_
    exact mj_lessm [true, false] rfl h
set_option maxRecDepth 20000 in
set_option maxHeartbeats 1000000 in
theorem b_X11_sum_59 {l : Launch} {G : mj_G} {D : Nat} {a0 : Nat} {c0 : Nat} {s1 : Int32} {S : mj_S} {Q : mj_S → Prop} (hD : 8 ≤ D) (hk_a0 : m_kd S a0 = 10) (hk_c0 : m_kd S c0 = 10) (h : M_X11_put l G c0 s1 (0 : Int32) S (fun S1 => ((¬ (m_gi S1 a0 4) = (-1 : Int32)) → V_X11_sum_21 l G D a0 (-1 : Int32) S1 Q) ∧ (((m_gi S1 a0 4) = (-1 : Int32)) → M_X11_look l G a0 S1 (fun S2 r3 => V_X11_sum_21 l G D a0 r3 S2 Q)))) : V_X11_sum_59 l G D a0 c0 s1 S Q := by
  refine mj_iconst (v := 0) dX11_sum_59 (by decide) ?_
  refine mj_callVv (as := [.int s1, .int (0 : Int32)]) (st := []) dX11_sum_60 cal_X11_put lk_X11_141 im_X11_put se_X11_put (ci := 10) rfl (by decide) hk_c0 h rfl (Nat.le_of_ble_eq_true rfl) (by omega) ⟨Nat.le_of_ble_eq_true rfl, Nat.le_of_ble_eq_true rfl⟩ (fun S1 h hp => ?_)
  have hk_a0 : m_kd S1 a0 = 10 := m_kd_pre hp hk_a0 (by decide)
  have hk_c0 : m_kd S1 c0 = 10 := m_kd_pre hp hk_c0 (by decide)
  refine mj_aload_n dX11_sum_63 rfl rfl ?_
  refine mj_getI dX11_sum_64 fl_X11_119_10 hk_a0 rfl ?_
  refine mj_iconst (v := (-1)) dX11_sum_67 (by decide) ?_
  refine mj_icmp_ne (tgt := 78) dX11_sum_68 (by decide) ⟨fun hc => ?_, fun hc => ?_⟩
  · replace h := h.1 hc
    refine mj_iconst (v := (-1)) dX11_sum_78 (by decide) ?_
    refine mj_istore_n dX11_sum_79 rfl (by decide) rfl rfl ?_
    refine mj_goto (tgt := 21) dX11_sum_80 (by decide) ?_
    exact h
  · replace h := h.2 hc
    refine mj_aload_n dX11_sum_71 rfl rfl ?_
    refine mj_callVi (as := []) (st := []) dX11_sum_72 cal_X11_look lk_X11_131 im_X11_look se_X11_look (ci := 10) rfl (by decide) hk_a0 h rfl (Nat.le_of_ble_eq_true rfl) (by omega) ⟨Nat.le_of_ble_eq_true rfl, Nat.le_of_ble_eq_true rfl⟩ (fun S2 r3 h hn_r3 hp => ?_)
    have hk_a0 : m_kd S2 a0 = 10 := m_kd_pre hp hk_a0 (by decide)
    have hk_c0 : m_kd S2 c0 = 10 := m_kd_pre hp hk_c0 (by decide)
    refine mj_goto (tgt := 79) dX11_sum_75 (by decide) ?_
    refine mj_istore_n dX11_sum_79 rfl (by decide) rfl rfl ?_
    refine mj_goto (tgt := 21) dX11_sum_80 (by decide) ?_
    exact h
abbrev V_X11_isSign_0 (l : Launch) (G : mj_G) (x0 : Int32) (S : mj_S) (Q : mj_S → Int32 → Prop) : Prop := mj_V l G (mj_room 1 0 0) RX11 cX11_isSign 1 (some .boolean) false 0 [some (.int x0)] [] S 0 0 (mj_std G (some .boolean) (mj_room 1 0 0) (mj_qi Q))
theorem e_X11_isSign {l : Launch} {G : mj_G} {x0 : Int32} {S : mj_S} {Q : mj_S → Int32 → Prop} (h : V_X11_isSign_0 l G x0 S Q) : M_X11_isSign l G x0 S Q := mj_enter (r := 0) (ini := false) (by decide +kernel) (fun h => by cases h) (fun _ => Nat.le_of_ble_eq_true rfl) rfl h
set_option maxRecDepth 20000 in
set_option maxHeartbeats 1000000 in
theorem b_X11_isSign_0 {l : Launch} {G : mj_G} {x0 : Int32} {S : mj_S} {Q : mj_S → Int32 → Prop} (h : ((x0 = (61 : Int32)) → Q S (1 : Int32)) ∧ ((¬ (x0 = (61 : Int32))) → ((x0 = (60 : Int32)) → Q S (1 : Int32)) ∧ ((¬ (x0 = (60 : Int32))) → ((¬ x0 = (62 : Int32)) → Q S (0 : Int32)) ∧ ((x0 = (62 : Int32)) → Q S (1 : Int32))))) : V_X11_isSign_0 l G x0 S Q := by
  refine mj_iload_n dX11_isSign_0 rfl rfl ?_
  refine mj_bipush (v := 61) dX11_isSign_1 (by decide) ?_
  refine mj_icmp_eq (tgt := 18) dX11_isSign_3 (by decide) ⟨fun hc => ?_, fun hc => ?_⟩
  · replace h := h.1 hc
    refine mj_iconst (v := 1) dX11_isSign_18 (by decide) ?_
    refine mj_goto (tgt := 23) dX11_isSign_19 (by decide) ?_
    exact mj_retz dX11_isSign_23 rfl (rfl) ⟨Nat.le_of_ble_eq_true rfl, Nat.le_of_ble_eq_true rfl⟩ h
  · replace h := h.2 hc
    refine mj_iload_n dX11_isSign_6 rfl rfl ?_
    refine mj_bipush (v := 60) dX11_isSign_7 (by decide) ?_
    refine mj_icmp_eq (tgt := 18) dX11_isSign_9 (by decide) ⟨fun hc => ?_, fun hc => ?_⟩
    · replace h := h.1 hc
      refine mj_iconst (v := 1) dX11_isSign_18 (by decide) ?_
      refine mj_goto (tgt := 23) dX11_isSign_19 (by decide) ?_
      exact mj_retz dX11_isSign_23 rfl (rfl) ⟨Nat.le_of_ble_eq_true rfl, Nat.le_of_ble_eq_true rfl⟩ h
    · replace h := h.2 hc
      refine mj_iload_n dX11_isSign_12 rfl rfl ?_
      refine mj_bipush (v := 62) dX11_isSign_13 (by decide) ?_
      refine mj_icmp_ne (tgt := 22) dX11_isSign_15 (by decide) ⟨fun hc => ?_, fun hc => ?_⟩
      · replace h := h.1 hc
        refine mj_iconst (v := 0) dX11_isSign_22 (by decide) ?_
        exact mj_retz dX11_isSign_23 rfl (rfl) ⟨Nat.le_of_ble_eq_true rfl, Nat.le_of_ble_eq_true rfl⟩ h
      · replace h := h.2 hc
        refine mj_iconst (v := 1) dX11_isSign_18 (by decide) ?_
        refine mj_goto (tgt := 23) dX11_isSign_19 (by decide) ?_
        exact mj_retz dX11_isSign_23 rfl (rfl) ⟨Nat.le_of_ble_eq_true rfl, Nat.le_of_ble_eq_true rfl⟩ h
abbrev V_X11_compare_0 (l : Launch) (G : mj_G) (D : Nat) (a0 : Nat) (S : mj_S) (Q : mj_S → Prop) : Prop := mj_V l G (mj_room (D + 1) 0 0) RX11 cX11_compare 2 none false 0 [some (.ref a0), none] [] S 0 0 (mj_std G none (mj_room (D + 1) 0 0) (mj_qv Q))
abbrev V_X11_compare_16 (l : Launch) (G : mj_G) (D : Nat) (a0 : Nat) (s0 : Int32) (S : mj_S) (Q : mj_S → Prop) : Prop := mj_V l G (mj_room (D + 1) 0 0) RX11 cX11_compare 2 none false 16 [some (.ref a0), none] [.int s0] S 0 0 (mj_std G none (mj_room (D + 1) 0 0) (mj_qv Q))
abbrev V_X11_compare_68 (l : Launch) (G : mj_G) (D : Nat) (c0 : Nat) (s1 : Int32) (S : mj_S) (Q : mj_S → Prop) : Prop := mj_V l G (mj_room (D + 1) 0 0) RX11 cX11_compare 2 none false 68 [none, none] [.int s1, .ref c0] S 0 0 (mj_std G none (mj_room (D + 1) 0 0) (mj_qv Q))
theorem e_X11_compare {l : Launch} {G : mj_G} {D : Nat} {a0 : Nat} {S : mj_S} {Q : mj_S → Prop} (h : V_X11_compare_0 l G D a0 S Q) : M_X11_compare l G (D + 1) a0 S Q := mj_enter (r := 1) (ini := false) (by decide +kernel) (fun h => by cases h) (fun _ => Nat.le_of_ble_eq_true rfl) rfl h
set_option maxRecDepth 20000 in
set_option maxHeartbeats 1000000 in
theorem b_X11_compare_0 {l : Launch} {G : mj_G} {D : Nat} {a0 : Nat} {S : mj_S} {Q : mj_S → Prop} (hD : 8 ≤ D) (hk_a0 : m_kd S a0 = 10) (h : ((¬ (m_gi S a0 4) = (-1 : Int32)) → V_X11_compare_16 l G D a0 (-1 : Int32) S Q) ∧ (((m_gi S a0 4) = (-1 : Int32)) → M_X11_look l G a0 S (fun S1 r2 => V_X11_compare_16 l G D a0 r2 S1 Q))) : V_X11_compare_0 l G D a0 S Q := by
  refine mj_aload_n dX11_compare_0 rfl rfl ?_
  refine mj_getI dX11_compare_1 fl_X11_119_10 hk_a0 rfl ?_
  refine mj_iconst (v := (-1)) dX11_compare_4 (by decide) ?_
  refine mj_icmp_ne (tgt := 15) dX11_compare_5 (by decide) ⟨fun hc => ?_, fun hc => ?_⟩
  · replace h := h.1 hc
    refine mj_iconst (v := (-1)) dX11_compare_15 (by decide) ?_
    exact h
  · replace h := h.2 hc
    refine mj_aload_n dX11_compare_8 rfl rfl ?_
    refine mj_callVi (as := []) (st := []) dX11_compare_9 cal_X11_look lk_X11_131 im_X11_look se_X11_look (ci := 10) rfl (by decide) hk_a0 h rfl (Nat.le_of_ble_eq_true rfl) (by omega) ⟨Nat.le_of_ble_eq_true rfl, Nat.le_of_ble_eq_true rfl⟩ (fun S1 r2 h hn_r2 hp => ?_)
    have hk_a0 : m_kd S1 a0 = 10 := m_kd_pre hp hk_a0 (by decide)
    refine mj_goto (tgt := 16) dX11_compare_12 (by decide) ?_
    exact h
set_option maxRecDepth 20000 in
set_option maxHeartbeats 1000000 in
theorem b_X11_compare_16 {l : Launch} {G : mj_G} {D : Nat} {a0 : Nat} {s0 : Int32} {S : mj_S} {Q : mj_S → Prop} (hD : 8 ≤ D) (hk_a0 : m_kd S a0 = 10) (h : M_X11_isSign l G s0 S (fun S1 r2 => ((¬ r2 = 0) → ∀ S3 : mj_S, S3 = m_si S1 a0 3 ((m_gi S1 a0 3) + (1 : Int32)) → M_X11_sum l G D a0 S3 (fun S4 => ((¬ s0 = (61 : Int32)) → ((¬ s0 = (60 : Int32)) → V_X11_compare_68 l G D a0 (8 : Int32) S4 Q) ∧ ((s0 = (60 : Int32)) → V_X11_compare_68 l G D a0 (7 : Int32) S4 Q)) ∧ ((s0 = (61 : Int32)) → V_X11_compare_68 l G D a0 (6 : Int32) S4 Q))) ∧ ((r2 = 0) → M_X11_bad l G a0 S1 (fun S5 => Q S5)))) : V_X11_compare_16 l G D a0 s0 S Q := by
  refine mj_istore_n dX11_compare_16 rfl (by decide) rfl rfl ?_
  refine mj_iload_n dX11_compare_17 rfl rfl ?_
  refine mj_callSi (as := [.int s0]) (st := []) dX11_compare_18 cal_X11_isSign lk_X11_165 sm_X11_isSign h rfl (Nat.le_of_ble_eq_true rfl) (by omega) ⟨Nat.le_of_ble_eq_true rfl, Nat.le_of_ble_eq_true rfl⟩ (fun S1 r2 h hn_r2 hp => ?_)
  have hk_a0 : m_kd S1 a0 = 10 := m_kd_pre hp hk_a0 (by decide)
  refine mj_if_ne (tgt := 29) dX11_compare_21 (by decide) ⟨fun hc => ?_, fun hc => ?_⟩
  · replace h := h.1 hc
    refine mj_aload_n dX11_compare_29 rfl rfl ?_
    refine mj_dup dX11_compare_30 rfl ?_
    refine mj_getI dX11_compare_31 fl_X11_112_10 hk_a0 rfl ?_
    refine mj_iconst (v := 1) dX11_compare_34 (by decide) ?_
    refine mj_iadd dX11_compare_35 ?_
    refine mj_putI dX11_compare_36 fl_X11_112_10 hk_a0 (Or.inl rfl) rfl rfl rfl ?_
    obtain ⟨S3, eS3⟩ : ∃ z, z = m_si S1 a0 3 ((m_gi S1 a0 3) + (1 : Int32)) := ⟨_, rfl⟩
    rw [← eS3]
    replace h := h S3 eS3
    have hk_a0 : m_kd S3 a0 = 10 := by rw [eS3]; exact hk_a0
    refine mj_aload_n dX11_compare_39 rfl rfl ?_
    refine mj_callVv (as := []) (st := []) dX11_compare_40 cal_X11_sum lk_X11_152 im_X11_sum se_X11_sum (ci := 10) rfl (by decide) hk_a0 h rfl (Nat.le_of_ble_eq_true rfl) (by omega) ⟨Nat.le_of_ble_eq_true rfl, Nat.le_of_ble_eq_true rfl⟩ (fun S4 h hp => ?_)
    have hk_a0 : m_kd S4 a0 = 10 := m_kd_pre hp hk_a0 (by decide)
    refine mj_aload_n dX11_compare_43 rfl rfl ?_
    refine mj_iload_n dX11_compare_44 rfl rfl ?_
    refine mj_bipush (v := 61) dX11_compare_45 (by decide) ?_
    refine mj_icmp_ne (tgt := 55) dX11_compare_47 (by decide) ⟨fun hc => ?_, fun hc => ?_⟩
    · replace h := h.1 hc
      refine mj_iload_n dX11_compare_55 rfl rfl ?_
      refine mj_bipush (v := 60) dX11_compare_56 (by decide) ?_
      refine mj_icmp_ne (tgt := 66) dX11_compare_58 (by decide) ⟨fun hc => ?_, fun hc => ?_⟩
      · replace h := h.1 hc
        refine mj_bipush (v := 8) dX11_compare_66 (by decide) ?_
        exact mj_lessm [false, false] rfl h
      · replace h := h.2 hc
        refine mj_bipush (v := 7) dX11_compare_61 (by decide) ?_
        refine mj_goto (tgt := 68) dX11_compare_63 (by decide) ?_
        exact mj_lessm [false, false] rfl h
    · replace h := h.2 hc
      refine mj_bipush (v := 6) dX11_compare_50 (by decide) ?_
      refine mj_goto (tgt := 68) dX11_compare_52 (by decide) ?_
      exact mj_lessm [false, false] rfl h
  · replace h := h.2 hc
    refine mj_aload_n dX11_compare_24 rfl rfl ?_
    refine mj_callVv (as := []) (st := []) dX11_compare_25 cal_X11_bad lk_X11_128 im_X11_bad se_X11_bad (ci := 10) rfl (by decide) hk_a0 h rfl (Nat.le_of_ble_eq_true rfl) (by omega) ⟨Nat.le_of_ble_eq_true rfl, Nat.le_of_ble_eq_true rfl⟩ (fun S5 h hp => ?_)
    have hk_a0 : m_kd S5 a0 = 10 := m_kd_pre hp hk_a0 (by decide)
    exact mj_retv dX11_compare_28 rfl ⟨Nat.le_of_ble_eq_true rfl, Nat.le_of_ble_eq_true rfl⟩ h
set_option maxRecDepth 20000 in
set_option maxHeartbeats 1000000 in
theorem b_X11_compare_68 {l : Launch} {G : mj_G} {D : Nat} {c0 : Nat} {s1 : Int32} {S : mj_S} {Q : mj_S → Prop} (hD : 8 ≤ D) (hk_c0 : m_kd S c0 = 10) (h : M_X11_put l G c0 s1 (0 : Int32) S (fun S1 => Q S1)) : V_X11_compare_68 l G D c0 s1 S Q := by
  refine mj_iconst (v := 0) dX11_compare_68 (by decide) ?_
  refine mj_callVv (as := [.int s1, .int (0 : Int32)]) (st := []) dX11_compare_69 cal_X11_put lk_X11_141 im_X11_put se_X11_put (ci := 10) rfl (by decide) hk_c0 h rfl (Nat.le_of_ble_eq_true rfl) (by omega) ⟨Nat.le_of_ble_eq_true rfl, Nat.le_of_ble_eq_true rfl⟩ (fun S1 h hp => ?_)
  have hk_c0 : m_kd S1 c0 = 10 := m_kd_pre hp hk_c0 (by decide)
  exact mj_retv dX11_compare_72 rfl ⟨Nat.le_of_ble_eq_true rfl, Nat.le_of_ble_eq_true rfl⟩ h
abbrev V_X11_unit_0 (l : Launch) (G : mj_G) (D : Nat) (a0 : Nat) (S : mj_S) (Q : mj_S → Prop) : Prop := mj_V l G (mj_room (D + 1) 0 0) RX11 cX11_unit 2 none false 0 [some (.ref a0), none] [] S 0 0 (mj_std G none (mj_room (D + 1) 0 0) (mj_qv Q))
theorem e_X11_unit {l : Launch} {G : mj_G} {D : Nat} {a0 : Nat} {S : mj_S} {Q : mj_S → Prop} (h : V_X11_unit_0 l G D a0 S Q) : M_X11_unit l G (D + 1) a0 S Q := mj_enter (r := 1) (ini := false) (by decide +kernel) (fun h => by cases h) (fun _ => Nat.le_of_ble_eq_true rfl) rfl h
set_option maxRecDepth 20000 in
set_option maxHeartbeats 1000000 in
theorem b_X11_unit_0 {l : Launch} {G : mj_G} {D : Nat} {a0 : Nat} {S : mj_S} {Q : mj_S → Prop} (hD : 8 ≤ D) (hk_a0 : m_kd S a0 = 10) (h : M_X11_look l G a0 S (fun S1 r2 => ((¬ r2 = (33 : Int32)) → ((¬ r2 = (40 : Int32)) → M_X11_sum l G D a0 S1 (fun S3 => ((¬ (m_gi S3 a0 4) = (-1 : Int32)) → Q S3) ∧ (((m_gi S3 a0 4) = (-1 : Int32)) → M_X11_compare l G D a0 S3 (fun S4 => Q S4)))) ∧ ((r2 = (40 : Int32)) → M_X11_opens l G a0 S1 (fun S5 => ((¬ (m_gi S5 a0 4) = (-1 : Int32)) → Q S5) ∧ (((m_gi S5 a0 4) = (-1 : Int32)) → M_X11_condition l G D a0 S5 (fun S6 => M_X11_closes l G a0 (41 : Int32) S6 (fun S7 => Q S7)))))) ∧ ((r2 = (33 : Int32)) → M_X11_opens l G a0 S1 (fun S8 => ((¬ (m_gi S8 a0 4) = (-1 : Int32)) → Q S8) ∧ (((m_gi S8 a0 4) = (-1 : Int32)) → M_X11_unit l G D a0 S8 (fun S9 => M_X11_put l G a0 (9 : Int32) (0 : Int32) S9 (fun S10 => ∀ S11 : mj_S, S11 = m_si S10 a0 5 ((m_gi S10 a0 5) - (1 : Int32)) → Q S11))))))) : V_X11_unit_0 l G D a0 S Q := by
  refine mj_aload_n dX11_unit_0 rfl rfl ?_
  refine mj_callVi (as := []) (st := []) dX11_unit_1 cal_X11_look lk_X11_131 im_X11_look se_X11_look (ci := 10) rfl (by decide) hk_a0 h rfl (Nat.le_of_ble_eq_true rfl) (by omega) ⟨Nat.le_of_ble_eq_true rfl, Nat.le_of_ble_eq_true rfl⟩ (fun S1 r2 h hn_r2 hp => ?_)
  have hk_a0 : m_kd S1 a0 = 10 := m_kd_pre hp hk_a0 (by decide)
  refine mj_istore_n dX11_unit_4 rfl (by decide) rfl rfl ?_
  refine mj_iload_n dX11_unit_5 rfl rfl ?_
  refine mj_bipush (v := 33) dX11_unit_6 (by decide) ?_
  refine mj_icmp_ne (tgt := 47) dX11_unit_8 (by decide) ⟨fun hc => ?_, fun hc => ?_⟩
  · replace h := h.1 hc
    refine mj_iload_n dX11_unit_47 rfl rfl ?_
    refine mj_bipush (v := 40) dX11_unit_48 (by decide) ?_
    refine mj_icmp_ne (tgt := 78) dX11_unit_50 (by decide) ⟨fun hc => ?_, fun hc => ?_⟩
    · replace h := h.1 hc
      refine mj_aload_n dX11_unit_78 rfl rfl ?_
      refine mj_callVv (as := []) (st := []) dX11_unit_79 cal_X11_sum lk_X11_152 im_X11_sum se_X11_sum (ci := 10) rfl (by decide) hk_a0 h rfl (Nat.le_of_ble_eq_true rfl) (by omega) ⟨Nat.le_of_ble_eq_true rfl, Nat.le_of_ble_eq_true rfl⟩ (fun S3 h hp => ?_)
      have hk_a0 : m_kd S3 a0 = 10 := m_kd_pre hp hk_a0 (by decide)
      refine mj_aload_n dX11_unit_82 rfl rfl ?_
      refine mj_getI dX11_unit_83 fl_X11_119_10 hk_a0 rfl ?_
      refine mj_iconst (v := (-1)) dX11_unit_86 (by decide) ?_
      refine mj_icmp_ne (tgt := 94) dX11_unit_87 (by decide) ⟨fun hc => ?_, fun hc => ?_⟩
      · replace h := h.1 hc
        exact mj_retv dX11_unit_94 rfl ⟨Nat.le_of_ble_eq_true rfl, Nat.le_of_ble_eq_true rfl⟩ h
      · replace h := h.2 hc
        refine mj_aload_n dX11_unit_90 rfl rfl ?_
        refine mj_callVv (as := []) (st := []) dX11_unit_91 cal_X11_compare lk_X11_174 im_X11_compare se_X11_compare (ci := 10) rfl (by decide) hk_a0 h rfl (Nat.le_of_ble_eq_true rfl) (by omega) ⟨Nat.le_of_ble_eq_true rfl, Nat.le_of_ble_eq_true rfl⟩ (fun S4 h hp => ?_)
        have hk_a0 : m_kd S4 a0 = 10 := m_kd_pre hp hk_a0 (by decide)
        exact mj_retv dX11_unit_94 rfl ⟨Nat.le_of_ble_eq_true rfl, Nat.le_of_ble_eq_true rfl⟩ h
    · replace h := h.2 hc
      refine mj_aload_n dX11_unit_53 rfl rfl ?_
      refine mj_callVv (as := []) (st := []) dX11_unit_54 cal_X11_opens lk_X11_149 im_X11_opens se_X11_opens (ci := 10) rfl (by decide) hk_a0 h rfl (Nat.le_of_ble_eq_true rfl) (by omega) ⟨Nat.le_of_ble_eq_true rfl, Nat.le_of_ble_eq_true rfl⟩ (fun S5 h hp => ?_)
      have hk_a0 : m_kd S5 a0 = 10 := m_kd_pre hp hk_a0 (by decide)
      refine mj_aload_n dX11_unit_57 rfl rfl ?_
      refine mj_getI dX11_unit_58 fl_X11_119_10 hk_a0 rfl ?_
      refine mj_iconst (v := (-1)) dX11_unit_61 (by decide) ?_
      refine mj_icmp_ne (tgt := 94) dX11_unit_62 (by decide) ⟨fun hc => ?_, fun hc => ?_⟩
      · replace h := h.1 hc
        exact mj_retv dX11_unit_94 rfl ⟨Nat.le_of_ble_eq_true rfl, Nat.le_of_ble_eq_true rfl⟩ h
      · replace h := h.2 hc
        refine mj_aload_n dX11_unit_65 rfl rfl ?_
        refine mj_callVv (as := []) (st := []) dX11_unit_66 cal_X11_condition lk_X11_171 im_X11_condition se_X11_condition (ci := 10) rfl (by decide) hk_a0 h rfl (Nat.le_of_ble_eq_true rfl) (by omega) ⟨Nat.le_of_ble_eq_true rfl, Nat.le_of_ble_eq_true rfl⟩ (fun S6 h hp => ?_)
        have hk_a0 : m_kd S6 a0 = 10 := m_kd_pre hp hk_a0 (by decide)
        refine mj_aload_n dX11_unit_69 rfl rfl ?_
        refine mj_bipush (v := 41) dX11_unit_70 (by decide) ?_
        refine mj_callVv (as := [.int (41 : Int32)]) (st := []) dX11_unit_72 cal_X11_closes lk_X11_155 im_X11_closes se_X11_closes (ci := 10) rfl (by decide) hk_a0 h rfl (Nat.le_of_ble_eq_true rfl) (by omega) ⟨Nat.le_of_ble_eq_true rfl, Nat.le_of_ble_eq_true rfl⟩ (fun S7 h hp => ?_)
        have hk_a0 : m_kd S7 a0 = 10 := m_kd_pre hp hk_a0 (by decide)
        refine mj_goto (tgt := 94) dX11_unit_75 (by decide) ?_
        exact mj_retv dX11_unit_94 rfl ⟨Nat.le_of_ble_eq_true rfl, Nat.le_of_ble_eq_true rfl⟩ h
  · replace h := h.2 hc
    refine mj_aload_n dX11_unit_11 rfl rfl ?_
    refine mj_callVv (as := []) (st := []) dX11_unit_12 cal_X11_opens lk_X11_149 im_X11_opens se_X11_opens (ci := 10) rfl (by decide) hk_a0 h rfl (Nat.le_of_ble_eq_true rfl) (by omega) ⟨Nat.le_of_ble_eq_true rfl, Nat.le_of_ble_eq_true rfl⟩ (fun S8 h hp => ?_)
    have hk_a0 : m_kd S8 a0 = 10 := m_kd_pre hp hk_a0 (by decide)
    refine mj_aload_n dX11_unit_15 rfl rfl ?_
    refine mj_getI dX11_unit_16 fl_X11_119_10 hk_a0 rfl ?_
    refine mj_iconst (v := (-1)) dX11_unit_19 (by decide) ?_
    refine mj_icmp_ne (tgt := 94) dX11_unit_20 (by decide) ⟨fun hc => ?_, fun hc => ?_⟩
    · replace h := h.1 hc
      exact mj_retv dX11_unit_94 rfl ⟨Nat.le_of_ble_eq_true rfl, Nat.le_of_ble_eq_true rfl⟩ h
    · replace h := h.2 hc
      refine mj_aload_n dX11_unit_23 rfl rfl ?_
      refine mj_callVv (as := []) (st := []) dX11_unit_24 cal_X11_unit lk_X11_168 im_X11_unit se_X11_unit (ci := 10) rfl (by decide) hk_a0 h rfl (Nat.le_of_ble_eq_true rfl) (by omega) ⟨Nat.le_of_ble_eq_true rfl, Nat.le_of_ble_eq_true rfl⟩ (fun S9 h hp => ?_)
      have hk_a0 : m_kd S9 a0 = 10 := m_kd_pre hp hk_a0 (by decide)
      refine mj_aload_n dX11_unit_27 rfl rfl ?_
      refine mj_bipush (v := 9) dX11_unit_28 (by decide) ?_
      refine mj_iconst (v := 0) dX11_unit_30 (by decide) ?_
      refine mj_callVv (as := [.int (9 : Int32), .int (0 : Int32)]) (st := []) dX11_unit_31 cal_X11_put lk_X11_141 im_X11_put se_X11_put (ci := 10) rfl (by decide) hk_a0 h rfl (Nat.le_of_ble_eq_true rfl) (by omega) ⟨Nat.le_of_ble_eq_true rfl, Nat.le_of_ble_eq_true rfl⟩ (fun S10 h hp => ?_)
      have hk_a0 : m_kd S10 a0 = 10 := m_kd_pre hp hk_a0 (by decide)
      refine mj_aload_n dX11_unit_34 rfl rfl ?_
      refine mj_dup dX11_unit_35 rfl ?_
      refine mj_getI dX11_unit_36 fl_X11_125_10 hk_a0 rfl ?_
      refine mj_iconst (v := 1) dX11_unit_39 (by decide) ?_
      refine mj_isub dX11_unit_40 ?_
      refine mj_putI dX11_unit_41 fl_X11_125_10 hk_a0 (Or.inl rfl) rfl rfl rfl ?_
      obtain ⟨S11, eS11⟩ : ∃ z, z = m_si S10 a0 5 ((m_gi S10 a0 5) - (1 : Int32)) := ⟨_, rfl⟩
      rw [← eS11]
      replace h := h S11 eS11
      have hk_a0 : m_kd S11 a0 = 10 := by rw [eS11]; exact hk_a0
      refine mj_goto (tgt := 94) dX11_unit_44 (by decide) ?_
      exact mj_retv dX11_unit_94 rfl ⟨Nat.le_of_ble_eq_true rfl, Nat.le_of_ble_eq_true rfl⟩ h
abbrev V_X11_goOnAnd_0 (l : Launch) (G : mj_G) (D : Nat) (a0 : Nat) (S : mj_S) (Q : mj_S → Prop) : Prop := mj_V l G (mj_room (D + 1) 0 0) RX11 cX11_goOnAnd 1 none false 0 [some (.ref a0)] [] S 0 0 (mj_std G none (mj_room (D + 1) 0 0) (mj_qv Q))
theorem e_X11_goOnAnd {l : Launch} {G : mj_G} {D : Nat} {a0 : Nat} {S : mj_S} {Q : mj_S → Prop} (h : V_X11_goOnAnd_0 l G D a0 S Q) : M_X11_goOnAnd l G (D + 1) a0 S Q := mj_enter (r := 0) (ini := false) (by decide +kernel) (fun h => by cases h) (fun _ => Nat.le_of_ble_eq_true rfl) rfl h
set_option maxRecDepth 20000 in
set_option maxHeartbeats 1000000 in
theorem b_X11_goOnAnd_0 {l : Launch} {G : mj_G} {D : Nat} {a0 : Nat} {S : mj_S} {Q : mj_S → Prop} (hD : 8 ≤ D) (hk_a0 : m_kd S a0 = 10) (h : ((¬ (m_gi S a0 4) = (-1 : Int32)) → Q S) ∧ (((m_gi S a0 4) = (-1 : Int32)) → M_X11_look l G a0 S (fun S1 r2 => ((¬ r2 = (38 : Int32)) → Q S1) ∧ ((r2 = (38 : Int32)) → ∀ S3 : mj_S, S3 = m_si S1 a0 3 ((m_gi S1 a0 3) + (1 : Int32)) → M_X11_unit l G D a0 S3 (fun S4 => M_X11_put l G a0 (10 : Int32) (0 : Int32) S4 (fun S5 => V_X11_goOnAnd_0 l G D a0 S5 Q)))))) : V_X11_goOnAnd_0 l G D a0 S Q := by
  refine mj_aload_n dX11_goOnAnd_0 rfl rfl ?_
  refine mj_getI dX11_goOnAnd_1 fl_X11_119_10 hk_a0 rfl ?_
  refine mj_iconst (v := (-1)) dX11_goOnAnd_4 (by decide) ?_
  refine mj_icmp_ne (tgt := 41) dX11_goOnAnd_5 (by decide) ⟨fun hc => ?_, fun hc => ?_⟩
  · replace h := h.1 hc
    exact mj_retv dX11_goOnAnd_41 rfl ⟨Nat.le_of_ble_eq_true rfl, Nat.le_of_ble_eq_true rfl⟩ h
  · replace h := h.2 hc
    refine mj_aload_n dX11_goOnAnd_8 rfl rfl ?_
    refine mj_callVi (as := []) (st := []) dX11_goOnAnd_9 cal_X11_look lk_X11_131 im_X11_look se_X11_look (ci := 10) rfl (by decide) hk_a0 h rfl (Nat.le_of_ble_eq_true rfl) (by omega) ⟨Nat.le_of_ble_eq_true rfl, Nat.le_of_ble_eq_true rfl⟩ (fun S1 r2 h hn_r2 hp => ?_)
    have hk_a0 : m_kd S1 a0 = 10 := m_kd_pre hp hk_a0 (by decide)
    refine mj_bipush (v := 38) dX11_goOnAnd_12 (by decide) ?_
    refine mj_icmp_ne (tgt := 41) dX11_goOnAnd_14 (by decide) ⟨fun hc => ?_, fun hc => ?_⟩
    · replace h := h.1 hc
      exact mj_retv dX11_goOnAnd_41 rfl ⟨Nat.le_of_ble_eq_true rfl, Nat.le_of_ble_eq_true rfl⟩ h
    · replace h := h.2 hc
      refine mj_aload_n dX11_goOnAnd_17 rfl rfl ?_
      refine mj_dup dX11_goOnAnd_18 rfl ?_
      refine mj_getI dX11_goOnAnd_19 fl_X11_112_10 hk_a0 rfl ?_
      refine mj_iconst (v := 1) dX11_goOnAnd_22 (by decide) ?_
      refine mj_iadd dX11_goOnAnd_23 ?_
      refine mj_putI dX11_goOnAnd_24 fl_X11_112_10 hk_a0 (Or.inl rfl) rfl rfl rfl ?_
      obtain ⟨S3, eS3⟩ : ∃ z, z = m_si S1 a0 3 ((m_gi S1 a0 3) + (1 : Int32)) := ⟨_, rfl⟩
      rw [← eS3]
      replace h := h S3 eS3
      have hk_a0 : m_kd S3 a0 = 10 := by rw [eS3]; exact hk_a0
      refine mj_aload_n dX11_goOnAnd_27 rfl rfl ?_
      refine mj_callVv (as := []) (st := []) dX11_goOnAnd_28 cal_X11_unit lk_X11_168 im_X11_unit se_X11_unit (ci := 10) rfl (by decide) hk_a0 h rfl (Nat.le_of_ble_eq_true rfl) (by omega) ⟨Nat.le_of_ble_eq_true rfl, Nat.le_of_ble_eq_true rfl⟩ (fun S4 h hp => ?_)
      have hk_a0 : m_kd S4 a0 = 10 := m_kd_pre hp hk_a0 (by decide)
      refine mj_aload_n dX11_goOnAnd_31 rfl rfl ?_
      refine mj_bipush (v := 10) dX11_goOnAnd_32 (by decide) ?_
      refine mj_iconst (v := 0) dX11_goOnAnd_34 (by decide) ?_
      refine mj_callVv (as := [.int (10 : Int32), .int (0 : Int32)]) (st := []) dX11_goOnAnd_35 cal_X11_put lk_X11_141 im_X11_put se_X11_put (ci := 10) rfl (by decide) hk_a0 h rfl (Nat.le_of_ble_eq_true rfl) (by omega) ⟨Nat.le_of_ble_eq_true rfl, Nat.le_of_ble_eq_true rfl⟩ (fun S5 h hp => ?_)
      have hk_a0 : m_kd S5 a0 = 10 := m_kd_pre hp hk_a0 (by decide)
      refine mj_goto (tgt := 0) dX11_goOnAnd_38 (by decide) ?_
      exact h
abbrev V_X11_goOnOr_0 (l : Launch) (G : mj_G) (D : Nat) (a0 : Nat) (S : mj_S) (Q : mj_S → Prop) : Prop := mj_V l G (mj_room (D + 1) 0 0) RX11 cX11_goOnOr 1 none false 0 [some (.ref a0)] [] S 0 0 (mj_std G none (mj_room (D + 1) 0 0) (mj_qv Q))
theorem e_X11_goOnOr {l : Launch} {G : mj_G} {D : Nat} {a0 : Nat} {S : mj_S} {Q : mj_S → Prop} (h : V_X11_goOnOr_0 l G D a0 S Q) : M_X11_goOnOr l G (D + 1) a0 S Q := mj_enter (r := 0) (ini := false) (by decide +kernel) (fun h => by cases h) (fun _ => Nat.le_of_ble_eq_true rfl) rfl h
set_option maxRecDepth 20000 in
set_option maxHeartbeats 1000000 in
theorem b_X11_goOnOr_0 {l : Launch} {G : mj_G} {D : Nat} {a0 : Nat} {S : mj_S} {Q : mj_S → Prop} (hD : 8 ≤ D) (hk_a0 : m_kd S a0 = 10) (h : ((¬ (m_gi S a0 4) = (-1 : Int32)) → Q S) ∧ (((m_gi S a0 4) = (-1 : Int32)) → M_X11_look l G a0 S (fun S1 r2 => ((¬ r2 = (124 : Int32)) → Q S1) ∧ ((r2 = (124 : Int32)) → ∀ S3 : mj_S, S3 = m_si S1 a0 3 ((m_gi S1 a0 3) + (1 : Int32)) → M_X11_unit l G D a0 S3 (fun S4 => M_X11_goOnAnd l G D a0 S4 (fun S5 => M_X11_put l G a0 (11 : Int32) (0 : Int32) S5 (fun S6 => V_X11_goOnOr_0 l G D a0 S6 Q))))))) : V_X11_goOnOr_0 l G D a0 S Q := by
  refine mj_aload_n dX11_goOnOr_0 rfl rfl ?_
  refine mj_getI dX11_goOnOr_1 fl_X11_119_10 hk_a0 rfl ?_
  refine mj_iconst (v := (-1)) dX11_goOnOr_4 (by decide) ?_
  refine mj_icmp_ne (tgt := 45) dX11_goOnOr_5 (by decide) ⟨fun hc => ?_, fun hc => ?_⟩
  · replace h := h.1 hc
    exact mj_retv dX11_goOnOr_45 rfl ⟨Nat.le_of_ble_eq_true rfl, Nat.le_of_ble_eq_true rfl⟩ h
  · replace h := h.2 hc
    refine mj_aload_n dX11_goOnOr_8 rfl rfl ?_
    refine mj_callVi (as := []) (st := []) dX11_goOnOr_9 cal_X11_look lk_X11_131 im_X11_look se_X11_look (ci := 10) rfl (by decide) hk_a0 h rfl (Nat.le_of_ble_eq_true rfl) (by omega) ⟨Nat.le_of_ble_eq_true rfl, Nat.le_of_ble_eq_true rfl⟩ (fun S1 r2 h hn_r2 hp => ?_)
    have hk_a0 : m_kd S1 a0 = 10 := m_kd_pre hp hk_a0 (by decide)
    refine mj_bipush (v := 124) dX11_goOnOr_12 (by decide) ?_
    refine mj_icmp_ne (tgt := 45) dX11_goOnOr_14 (by decide) ⟨fun hc => ?_, fun hc => ?_⟩
    · replace h := h.1 hc
      exact mj_retv dX11_goOnOr_45 rfl ⟨Nat.le_of_ble_eq_true rfl, Nat.le_of_ble_eq_true rfl⟩ h
    · replace h := h.2 hc
      refine mj_aload_n dX11_goOnOr_17 rfl rfl ?_
      refine mj_dup dX11_goOnOr_18 rfl ?_
      refine mj_getI dX11_goOnOr_19 fl_X11_112_10 hk_a0 rfl ?_
      refine mj_iconst (v := 1) dX11_goOnOr_22 (by decide) ?_
      refine mj_iadd dX11_goOnOr_23 ?_
      refine mj_putI dX11_goOnOr_24 fl_X11_112_10 hk_a0 (Or.inl rfl) rfl rfl rfl ?_
      obtain ⟨S3, eS3⟩ : ∃ z, z = m_si S1 a0 3 ((m_gi S1 a0 3) + (1 : Int32)) := ⟨_, rfl⟩
      rw [← eS3]
      replace h := h S3 eS3
      have hk_a0 : m_kd S3 a0 = 10 := by rw [eS3]; exact hk_a0
      refine mj_aload_n dX11_goOnOr_27 rfl rfl ?_
      refine mj_callVv (as := []) (st := []) dX11_goOnOr_28 cal_X11_unit lk_X11_168 im_X11_unit se_X11_unit (ci := 10) rfl (by decide) hk_a0 h rfl (Nat.le_of_ble_eq_true rfl) (by omega) ⟨Nat.le_of_ble_eq_true rfl, Nat.le_of_ble_eq_true rfl⟩ (fun S4 h hp => ?_)
      have hk_a0 : m_kd S4 a0 = 10 := m_kd_pre hp hk_a0 (by decide)
      refine mj_aload_n dX11_goOnOr_31 rfl rfl ?_
      refine mj_callVv (as := []) (st := []) dX11_goOnOr_32 cal_X11_goOnAnd lk_X11_177 im_X11_goOnAnd se_X11_goOnAnd (ci := 10) rfl (by decide) hk_a0 h rfl (Nat.le_of_ble_eq_true rfl) (by omega) ⟨Nat.le_of_ble_eq_true rfl, Nat.le_of_ble_eq_true rfl⟩ (fun S5 h hp => ?_)
      have hk_a0 : m_kd S5 a0 = 10 := m_kd_pre hp hk_a0 (by decide)
      refine mj_aload_n dX11_goOnOr_35 rfl rfl ?_
      refine mj_bipush (v := 11) dX11_goOnOr_36 (by decide) ?_
      refine mj_iconst (v := 0) dX11_goOnOr_38 (by decide) ?_
      refine mj_callVv (as := [.int (11 : Int32), .int (0 : Int32)]) (st := []) dX11_goOnOr_39 cal_X11_put lk_X11_141 im_X11_put se_X11_put (ci := 10) rfl (by decide) hk_a0 h rfl (Nat.le_of_ble_eq_true rfl) (by omega) ⟨Nat.le_of_ble_eq_true rfl, Nat.le_of_ble_eq_true rfl⟩ (fun S6 h hp => ?_)
      have hk_a0 : m_kd S6 a0 = 10 := m_kd_pre hp hk_a0 (by decide)
      refine mj_goto (tgt := 0) dX11_goOnOr_42 (by decide) ?_
      exact h
abbrev V_X11_condition_0 (l : Launch) (G : mj_G) (D : Nat) (a0 : Nat) (S : mj_S) (Q : mj_S → Prop) : Prop := mj_V l G (mj_room (D + 1) 0 0) RX11 cX11_condition 1 none false 0 [some (.ref a0)] [] S 0 0 (mj_std G none (mj_room (D + 1) 0 0) (mj_qv Q))
theorem e_X11_condition {l : Launch} {G : mj_G} {D : Nat} {a0 : Nat} {S : mj_S} {Q : mj_S → Prop} (h : V_X11_condition_0 l G D a0 S Q) : M_X11_condition l G (D + 1) a0 S Q := mj_enter (r := 0) (ini := false) (by decide +kernel) (fun h => by cases h) (fun _ => Nat.le_of_ble_eq_true rfl) rfl h
set_option maxRecDepth 20000 in
set_option maxHeartbeats 1000000 in
theorem b_X11_condition_0 {l : Launch} {G : mj_G} {D : Nat} {a0 : Nat} {S : mj_S} {Q : mj_S → Prop} (hD : 8 ≤ D) (hk_a0 : m_kd S a0 = 10) (h : M_X11_unit l G D a0 S (fun S1 => M_X11_goOnAnd l G D a0 S1 (fun S2 => M_X11_goOnOr l G D a0 S2 (fun S3 => Q S3)))) : V_X11_condition_0 l G D a0 S Q := by
  refine mj_aload_n dX11_condition_0 rfl rfl ?_
  refine mj_callVv (as := []) (st := []) dX11_condition_1 cal_X11_unit lk_X11_168 im_X11_unit se_X11_unit (ci := 10) rfl (by decide) hk_a0 h rfl (Nat.le_of_ble_eq_true rfl) (by omega) ⟨Nat.le_of_ble_eq_true rfl, Nat.le_of_ble_eq_true rfl⟩ (fun S1 h hp => ?_)
  have hk_a0 : m_kd S1 a0 = 10 := m_kd_pre hp hk_a0 (by decide)
  refine mj_aload_n dX11_condition_4 rfl rfl ?_
  refine mj_callVv (as := []) (st := []) dX11_condition_5 cal_X11_goOnAnd lk_X11_177 im_X11_goOnAnd se_X11_goOnAnd (ci := 10) rfl (by decide) hk_a0 h rfl (Nat.le_of_ble_eq_true rfl) (by omega) ⟨Nat.le_of_ble_eq_true rfl, Nat.le_of_ble_eq_true rfl⟩ (fun S2 h hp => ?_)
  have hk_a0 : m_kd S2 a0 = 10 := m_kd_pre hp hk_a0 (by decide)
  refine mj_aload_n dX11_condition_8 rfl rfl ?_
  refine mj_callVv (as := []) (st := []) dX11_condition_9 cal_X11_goOnOr lk_X11_180 im_X11_goOnOr se_X11_goOnOr (ci := 10) rfl (by decide) hk_a0 h rfl (Nat.le_of_ble_eq_true rfl) (by omega) ⟨Nat.le_of_ble_eq_true rfl, Nat.le_of_ble_eq_true rfl⟩ (fun S3 h hp => ?_)
  have hk_a0 : m_kd S3 a0 = 10 := m_kd_pre hp hk_a0 (by decide)
  exact mj_retv dX11_condition_12 rfl ⟨Nat.le_of_ble_eq_true rfl, Nat.le_of_ble_eq_true rfl⟩ h
abbrev V_X11_clause_0 (l : Launch) (G : mj_G) (a0 : Nat) (S : mj_S) (Q : mj_S → Prop) : Prop := mj_V l G (mj_room 81 0 0) RX11 cX11_clause 3 none false 0 [some (.ref a0), none, none] [] S 0 0 (mj_std G none (mj_room 81 0 0) (mj_qv Q))
abbrev V_X11_clause_40 (l : Launch) (G : mj_G) (a0 : Nat) (x1 : Int32) (S : mj_S) (Q : mj_S → Prop) : Prop := mj_V l G (mj_room 81 0 0) RX11 cX11_clause 3 none false 40 [some (.ref a0), some (.int x1), none] [] S 0 0 (mj_std G none (mj_room 81 0 0) (mj_qv Q))
abbrev V_X11_clause_71 (l : Launch) (G : mj_G) (a0 : Nat) (x1 : Int32) (S : mj_S) (Q : mj_S → Prop) : Prop := mj_V l G (mj_room 81 0 0) RX11 cX11_clause 3 none false 71 [some (.ref a0), some (.int x1), none] [] S 0 0 (mj_std G none (mj_room 81 0 0) (mj_qv Q))
abbrev V_X11_clause_128 (l : Launch) (G : mj_G) (a0 : Nat) (x1 : Int32) (s0 : Int32) (S : mj_S) (Q : mj_S → Prop) : Prop := mj_V l G (mj_room 81 0 0) RX11 cX11_clause 3 none false 128 [some (.ref a0), some (.int x1), none] [.int s0] S 0 0 (mj_std G none (mj_room 81 0 0) (mj_qv Q))
abbrev V_X11_clause_167 (l : Launch) (G : mj_G) (a0 : Nat) (x1 : Int32) (s0 : Int32) (S : mj_S) (Q : mj_S → Prop) : Prop := mj_V l G (mj_room 81 0 0) RX11 cX11_clause 3 none false 167 [some (.ref a0), some (.int x1), none] [.int s0] S 0 0 (mj_std G none (mj_room 81 0 0) (mj_qv Q))
abbrev V_X11_clause_184 (l : Launch) (G : mj_G) (a0 : Nat) (x1 : Int32) (x2 : Int32) (S : mj_S) (Q : mj_S → Prop) : Prop := mj_V l G (mj_room 81 0 0) RX11 cX11_clause 3 none false 184 [some (.ref a0), some (.int x1), some (.int x2)] [] S 0 0 (mj_std G none (mj_room 81 0 0) (mj_qv Q))
abbrev V_X11_clause_251 (l : Launch) (G : mj_G) (a0 : Nat) (x1 : Int32) (S : mj_S) (Q : mj_S → Prop) : Prop := mj_V l G (mj_room 81 0 0) RX11 cX11_clause 3 none false 251 [some (.ref a0), some (.int x1), none] [] S 0 0 (mj_std G none (mj_room 81 0 0) (mj_qv Q))
theorem e_X11_clause {l : Launch} {G : mj_G} {a0 : Nat} {S : mj_S} {Q : mj_S → Prop} (h : V_X11_clause_0 l G a0 S Q) : M_X11_clause l G a0 S Q := mj_enter (r := 2) (ini := false) (by decide +kernel) (fun h => by cases h) (fun _ => Nat.le_of_ble_eq_true rfl) rfl h
set_option maxRecDepth 20000 in
set_option maxHeartbeats 1000000 in
theorem b_X11_clause_0 {l : Launch} {G : mj_G} {a0 : Nat} {S : mj_S} {Q : mj_S → Prop} (hk_a0 : m_kd S a0 = 10) (h : ∃ b1, m_gp S a0 9 = some b1 ∧ (vp_in (m_gi S a0 14) (m_ln S b1) ∧ (∀ v2 : Int32, v2 = (((140 : Int32) * (m_gi S a0 14)) + (m_gi S b1 ((m_gi S a0 14)).toNatClampNeg)) → ((¬ (m_gi S a0 4) = (-1 : Int32)) → V_X11_clause_40 l G a0 v2 S Q) ∧ (((m_gi S a0 4) = (-1 : Int32)) → M_X11_look l G a0 S (fun S3 r4 => ((r4 = (121 : Int32)) → V_X11_clause_40 l G a0 v2 S3 Q) ∧ ((¬ (r4 = (121 : Int32))) → M_X11_bad l G a0 S3 (fun S5 => V_X11_clause_40 l G a0 v2 S5 Q))))))) : V_X11_clause_0 l G a0 S Q := by
  refine mj_sipush (v := 140) dX11_clause_0 (by decide) ?_
  refine mj_aload_n dX11_clause_3 rfl rfl ?_
  refine mj_getI dX11_clause_4 fl_X11_122_10 hk_a0 rfl ?_
  refine mj_imul dX11_clause_7 ?_
  refine mj_aload_n dX11_clause_8 rfl rfl ?_
  obtain ⟨b1, eb1, h⟩ := h
  refine mj_getP dX11_clause_9 fl_X11_22_10 hk_a0 rfl ⟨b1, eb1, fun hk_b1 => ?_⟩
  refine mj_aload_n dX11_clause_12 rfl rfl ?_
  refine mj_getI dX11_clause_13 fl_X11_122_10 hk_a0 rfl ?_
  refine mj_iald dX11_clause_16 (Or.inl hk_b1) ⟨h.1, ?_⟩
  replace h := h.2
  refine mj_iadd dX11_clause_17 ?_
  refine mj_nmi (fun v2 ev2 => ?_)
  replace h := h v2 ev2
  refine mj_istore_n dX11_clause_18 rfl (by decide) rfl rfl ?_
  refine mj_aload_n dX11_clause_19 rfl rfl ?_
  refine mj_getI dX11_clause_20 fl_X11_119_10 hk_a0 rfl ?_
  refine mj_iconst (v := (-1)) dX11_clause_23 (by decide) ?_
  refine mj_icmp_ne (tgt := 40) dX11_clause_24 (by decide) ⟨fun hc => ?_, fun hc => ?_⟩
  · replace h := h.1 hc
    exact h
  · replace h := h.2 hc
    refine mj_aload_n dX11_clause_27 rfl rfl ?_
    refine mj_callVi (as := []) (st := []) dX11_clause_28 cal_X11_look lk_X11_131 im_X11_look se_X11_look (ci := 10) rfl (by decide) hk_a0 h rfl (Nat.le_of_ble_eq_true rfl) (by decide) ⟨Nat.le_of_ble_eq_true rfl, Nat.le_of_ble_eq_true rfl⟩ (fun S3 r4 h hn_r4 hp => ?_)
    have hk_a0 : m_kd S3 a0 = 10 := m_kd_pre hp hk_a0 (by decide)
    have hk_b1 : m_kd S3 b1 = 100 := m_kd_pre hp hk_b1 (by decide)
    refine mj_bipush (v := 121) dX11_clause_31 (by decide) ?_
    refine mj_icmp_eq (tgt := 40) dX11_clause_33 (by decide) ⟨fun hc => ?_, fun hc => ?_⟩
    · replace h := h.1 hc
      exact h
    · replace h := h.2 hc
      refine mj_aload_n dX11_clause_36 rfl rfl ?_
      refine mj_callVv (as := []) (st := []) dX11_clause_37 cal_X11_bad lk_X11_128 im_X11_bad se_X11_bad (ci := 10) rfl (by decide) hk_a0 h rfl (Nat.le_of_ble_eq_true rfl) (by decide) ⟨Nat.le_of_ble_eq_true rfl, Nat.le_of_ble_eq_true rfl⟩ (fun S5 h hp => ?_)
      have hk_a0 : m_kd S5 a0 = 10 := m_kd_pre hp hk_a0 (by decide)
      have hk_b1 : m_kd S5 b1 = 100 := m_kd_pre hp hk_b1 (by decide)
      exact h
set_option maxRecDepth 20000 in
set_option maxHeartbeats 1000000 in
theorem b_X11_clause_40 {l : Launch} {G : mj_G} {a0 : Nat} {x1 : Int32} {S : mj_S} {Q : mj_S → Prop} (hk_a0 : m_kd S a0 = 10) (h : ∀ S1 : mj_S, S1 = m_si S a0 3 ((m_gi S a0 3) + (1 : Int32)) → ((¬ (m_gi S1 a0 4) = (-1 : Int32)) → V_X11_clause_71 l G a0 x1 S1 Q) ∧ (((m_gi S1 a0 4) = (-1 : Int32)) → M_X11_look l G a0 S1 (fun S2 r3 => ((r3 = (58 : Int32)) → V_X11_clause_71 l G a0 x1 S2 Q) ∧ ((¬ (r3 = (58 : Int32))) → M_X11_bad l G a0 S2 (fun S4 => V_X11_clause_71 l G a0 x1 S4 Q))))) : V_X11_clause_40 l G a0 x1 S Q := by
  refine mj_aload_n dX11_clause_40 rfl rfl ?_
  refine mj_dup dX11_clause_41 rfl ?_
  refine mj_getI dX11_clause_42 fl_X11_112_10 hk_a0 rfl ?_
  refine mj_iconst (v := 1) dX11_clause_45 (by decide) ?_
  refine mj_iadd dX11_clause_46 ?_
  refine mj_putI dX11_clause_47 fl_X11_112_10 hk_a0 (Or.inl rfl) rfl rfl rfl ?_
  obtain ⟨S1, eS1⟩ : ∃ z, z = m_si S a0 3 ((m_gi S a0 3) + (1 : Int32)) := ⟨_, rfl⟩
  rw [← eS1]
  replace h := h S1 eS1
  have hk_a0 : m_kd S1 a0 = 10 := by rw [eS1]; exact hk_a0
  refine mj_aload_n dX11_clause_50 rfl rfl ?_
  refine mj_getI dX11_clause_51 fl_X11_119_10 hk_a0 rfl ?_
  refine mj_iconst (v := (-1)) dX11_clause_54 (by decide) ?_
  refine mj_icmp_ne (tgt := 71) dX11_clause_55 (by decide) ⟨fun hc => ?_, fun hc => ?_⟩
  · replace h := h.1 hc
    exact h
  · replace h := h.2 hc
    refine mj_aload_n dX11_clause_58 rfl rfl ?_
    refine mj_callVi (as := []) (st := []) dX11_clause_59 cal_X11_look lk_X11_131 im_X11_look se_X11_look (ci := 10) rfl (by decide) hk_a0 h rfl (Nat.le_of_ble_eq_true rfl) (by decide) ⟨Nat.le_of_ble_eq_true rfl, Nat.le_of_ble_eq_true rfl⟩ (fun S2 r3 h hn_r3 hp => ?_)
    have hk_a0 : m_kd S2 a0 = 10 := m_kd_pre hp hk_a0 (by decide)
    refine mj_bipush (v := 58) dX11_clause_62 (by decide) ?_
    refine mj_icmp_eq (tgt := 71) dX11_clause_64 (by decide) ⟨fun hc => ?_, fun hc => ?_⟩
    · replace h := h.1 hc
      exact h
    · replace h := h.2 hc
      refine mj_aload_n dX11_clause_67 rfl rfl ?_
      refine mj_callVv (as := []) (st := []) dX11_clause_68 cal_X11_bad lk_X11_128 im_X11_bad se_X11_bad (ci := 10) rfl (by decide) hk_a0 h rfl (Nat.le_of_ble_eq_true rfl) (by decide) ⟨Nat.le_of_ble_eq_true rfl, Nat.le_of_ble_eq_true rfl⟩ (fun S4 h hp => ?_)
      have hk_a0 : m_kd S4 a0 = 10 := m_kd_pre hp hk_a0 (by decide)
      exact h
set_option maxRecDepth 20000 in
set_option maxHeartbeats 1000000 in
theorem b_X11_clause_71 {l : Launch} {G : mj_G} {a0 : Nat} {x1 : Int32} {S : mj_S} {Q : mj_S → Prop} (hk_a0 : m_kd S a0 = 10) (h : ∀ S1 : mj_S, S1 = m_si S a0 3 ((m_gi S a0 3) + (1 : Int32)) → (((m_gi S1 a0 4) = (-1 : Int32)) → ∃ b2, m_gp S1 a0 10 = some b2 ∧ (∃ b3, m_gp S1 a0 8 = some b3 ∧ (vp_in (m_gi S1 a0 14) (m_ln S1 b3) ∧ (vp_in x1 (m_ln S1 b2) ∧ (∀ S4 : mj_S, S4 = m_si S1 b2 (x1).toNatClampNeg (m_gi S1 b3 ((m_gi S1 a0 14)).toNatClampNeg) → M_X11_look l G a0 S4 (fun S5 r6 => ((r6 = (33 : Int32)) → V_X11_clause_128 l G a0 x1 (1 : Int32) S5 Q) ∧ ((¬ (r6 = (33 : Int32))) → M_X11_look l G a0 S5 (fun S7 r8 => ((¬ r8 = (40 : Int32)) → V_X11_clause_128 l G a0 x1 (0 : Int32) S7 Q) ∧ ((r8 = (40 : Int32)) → V_X11_clause_128 l G a0 x1 (1 : Int32) S7 Q))))))))) ∧ ((¬ ((m_gi S1 a0 4) = (-1 : Int32))) → Q S1)) : V_X11_clause_71 l G a0 x1 S Q := by
  refine mj_aload_n dX11_clause_71 rfl rfl ?_
  refine mj_dup dX11_clause_72 rfl ?_
  refine mj_getI dX11_clause_73 fl_X11_112_10 hk_a0 rfl ?_
  refine mj_iconst (v := 1) dX11_clause_76 (by decide) ?_
  refine mj_iadd dX11_clause_77 ?_
  refine mj_putI dX11_clause_78 fl_X11_112_10 hk_a0 (Or.inl rfl) rfl rfl rfl ?_
  obtain ⟨S1, eS1⟩ : ∃ z, z = m_si S a0 3 ((m_gi S a0 3) + (1 : Int32)) := ⟨_, rfl⟩
  rw [← eS1]
  replace h := h S1 eS1
  have hk_a0 : m_kd S1 a0 = 10 := by rw [eS1]; exact hk_a0
  refine mj_aload_n dX11_clause_81 rfl rfl ?_
  refine mj_getI dX11_clause_82 fl_X11_119_10 hk_a0 rfl ?_
  refine mj_iconst (v := (-1)) dX11_clause_85 (by decide) ?_
  refine mj_icmp_eq (tgt := 90) dX11_clause_86 (by decide) ⟨fun hc => ?_, fun hc => ?_⟩
  · replace h := h.1 hc
    refine mj_aload_n dX11_clause_90 rfl rfl ?_
    obtain ⟨b2, eb2, h⟩ := h
    refine mj_getP dX11_clause_91 fl_X11_25_10 hk_a0 rfl ⟨b2, eb2, fun hk_b2 => ?_⟩
    refine mj_iload_n dX11_clause_94 rfl rfl ?_
    refine mj_aload_n dX11_clause_95 rfl rfl ?_
    obtain ⟨b3, eb3, h⟩ := h
    refine mj_getP dX11_clause_96 fl_X11_19_10 hk_a0 rfl ⟨b3, eb3, fun hk_b3 => ?_⟩
    refine mj_aload_n dX11_clause_99 rfl rfl ?_
    refine mj_getI dX11_clause_100 fl_X11_122_10 hk_a0 rfl ?_
    refine mj_iald dX11_clause_103 (Or.inl hk_b3) ⟨h.1, ?_⟩
    replace h := h.2
    refine mj_iast dX11_clause_104 hk_b2 ⟨h.1, ?_⟩
    replace h := h.2
    obtain ⟨S4, eS4⟩ : ∃ z, z = m_si S1 b2 (x1).toNatClampNeg (m_gi S1 b3 ((m_gi S1 a0 14)).toNatClampNeg) := ⟨_, rfl⟩
    rw [← eS4]
    replace h := h S4 eS4
    have hk_a0 : m_kd S4 a0 = 10 := by rw [eS4]; exact hk_a0
    have hk_b2 : m_kd S4 b2 = 100 := by rw [eS4]; exact hk_b2
    have hk_b3 : m_kd S4 b3 = 100 := by rw [eS4]; exact hk_b3
    refine mj_aload_n dX11_clause_105 rfl rfl ?_
    refine mj_callVi (as := []) (st := []) dX11_clause_106 cal_X11_look lk_X11_131 im_X11_look se_X11_look (ci := 10) rfl (by decide) hk_a0 h rfl (Nat.le_of_ble_eq_true rfl) (by decide) ⟨Nat.le_of_ble_eq_true rfl, Nat.le_of_ble_eq_true rfl⟩ (fun S5 r6 h hn_r6 hp => ?_)
    have hk_a0 : m_kd S5 a0 = 10 := m_kd_pre hp hk_a0 (by decide)
    have hk_b2 : m_kd S5 b2 = 100 := m_kd_pre hp hk_b2 (by decide)
    have hk_b3 : m_kd S5 b3 = 100 := m_kd_pre hp hk_b3 (by decide)
    refine mj_bipush (v := 33) dX11_clause_109 (by decide) ?_
    refine mj_icmp_eq (tgt := 123) dX11_clause_111 (by decide) ⟨fun hc => ?_, fun hc => ?_⟩
    · replace h := h.1 hc
      refine mj_iconst (v := 1) dX11_clause_123 (by decide) ?_
      refine mj_goto (tgt := 128) dX11_clause_124 (by decide) ?_
      exact h
    · replace h := h.2 hc
      refine mj_aload_n dX11_clause_114 rfl rfl ?_
      refine mj_callVi (as := []) (st := []) dX11_clause_115 cal_X11_look lk_X11_131 im_X11_look se_X11_look (ci := 10) rfl (by decide) hk_a0 h rfl (Nat.le_of_ble_eq_true rfl) (by decide) ⟨Nat.le_of_ble_eq_true rfl, Nat.le_of_ble_eq_true rfl⟩ (fun S7 r8 h hn_r8 hp => ?_)
      have hk_a0 : m_kd S7 a0 = 10 := m_kd_pre hp hk_a0 (by decide)
      have hk_b2 : m_kd S7 b2 = 100 := m_kd_pre hp hk_b2 (by decide)
      have hk_b3 : m_kd S7 b3 = 100 := m_kd_pre hp hk_b3 (by decide)
      refine mj_bipush (v := 40) dX11_clause_118 (by decide) ?_
      refine mj_icmp_ne (tgt := 127) dX11_clause_120 (by decide) ⟨fun hc => ?_, fun hc => ?_⟩
      · replace h := h.1 hc
        refine mj_iconst (v := 0) dX11_clause_127 (by decide) ?_
        exact h
      · replace h := h.2 hc
        refine mj_iconst (v := 1) dX11_clause_123 (by decide) ?_
        refine mj_goto (tgt := 128) dX11_clause_124 (by decide) ?_
        exact h
  · replace h := h.2 hc
    exact mj_retv dX11_clause_89 rfl ⟨Nat.le_of_ble_eq_true rfl, Nat.le_of_ble_eq_true rfl⟩ h
set_option maxRecDepth 20000 in
set_option maxHeartbeats 1000000 in
theorem b_X11_clause_128 {l : Launch} {G : mj_G} {a0 : Nat} {x1 : Int32} {s0 : Int32} {S : mj_S} {Q : mj_S → Prop} (hk_a0 : m_kd S a0 = 10) (h : ((s0 = 0) → M_X11_sum l G 80 a0 S (fun S1 => ((¬ (m_gi S1 a0 4) = (-1 : Int32)) → V_X11_clause_167 l G a0 x1 (0 : Int32) S1 Q) ∧ (((m_gi S1 a0 4) = (-1 : Int32)) → M_X11_look l G a0 S1 (fun S2 r3 => M_X11_isSign l G r3 S2 (fun S4 r5 => ((r5 = 0) → V_X11_clause_167 l G a0 x1 (0 : Int32) S4 Q) ∧ ((¬ (r5 = 0)) → V_X11_clause_167 l G a0 x1 (1 : Int32) S4 Q)))))) ∧ ((¬ (s0 = 0)) → M_X11_condition l G 80 a0 S (fun S6 => V_X11_clause_184 l G a0 x1 s0 S6 Q))) : V_X11_clause_128 l G a0 x1 s0 S Q := by
  refine mj_istore_n dX11_clause_128 rfl (by decide) rfl rfl ?_
  refine mj_iload_n dX11_clause_129 rfl rfl ?_
  refine mj_if_eq (tgt := 140) dX11_clause_130 (by decide) ⟨fun hc => ?_, fun hc => ?_⟩
  · replace h := h.1 hc
    refine mj_aload_n dX11_clause_140 rfl rfl ?_
    refine mj_callVv (as := []) (st := []) dX11_clause_141 cal_X11_sum lk_X11_152 im_X11_sum se_X11_sum (ci := 10) rfl (by decide) hk_a0 h rfl (Nat.le_of_ble_eq_true rfl) (by decide) ⟨Nat.le_of_ble_eq_true rfl, Nat.le_of_ble_eq_true rfl⟩ (fun S1 h hp => ?_)
    have hk_a0 : m_kd S1 a0 = 10 := m_kd_pre hp hk_a0 (by decide)
    refine mj_aload_n dX11_clause_144 rfl rfl ?_
    refine mj_getI dX11_clause_145 fl_X11_119_10 hk_a0 rfl ?_
    refine mj_iconst (v := (-1)) dX11_clause_148 (by decide) ?_
    refine mj_icmp_ne (tgt := 166) dX11_clause_149 (by decide) ⟨fun hc => ?_, fun hc => ?_⟩
    · replace h := h.1 hc
      refine mj_iconst (v := 0) dX11_clause_166 (by decide) ?_
      exact mj_lessm [true, true, false] rfl h
    · replace h := h.2 hc
      refine mj_aload_n dX11_clause_152 rfl rfl ?_
      refine mj_callVi (as := []) (st := []) dX11_clause_153 cal_X11_look lk_X11_131 im_X11_look se_X11_look (ci := 10) rfl (by decide) hk_a0 h rfl (Nat.le_of_ble_eq_true rfl) (by decide) ⟨Nat.le_of_ble_eq_true rfl, Nat.le_of_ble_eq_true rfl⟩ (fun S2 r3 h hn_r3 hp => ?_)
      have hk_a0 : m_kd S2 a0 = 10 := m_kd_pre hp hk_a0 (by decide)
      refine mj_callSi (as := [.int r3]) (st := []) dX11_clause_156 cal_X11_isSign lk_X11_165 sm_X11_isSign h rfl (Nat.le_of_ble_eq_true rfl) (by decide) ⟨Nat.le_of_ble_eq_true rfl, Nat.le_of_ble_eq_true rfl⟩ (fun S4 r5 h hn_r5 hp => ?_)
      have hk_a0 : m_kd S4 a0 = 10 := m_kd_pre hp hk_a0 (by decide)
      refine mj_if_eq (tgt := 166) dX11_clause_159 (by decide) ⟨fun hc => ?_, fun hc => ?_⟩
      · replace h := h.1 hc
        refine mj_iconst (v := 0) dX11_clause_166 (by decide) ?_
        exact mj_lessm [true, true, false] rfl h
      · replace h := h.2 hc
        refine mj_iconst (v := 1) dX11_clause_162 (by decide) ?_
        refine mj_goto (tgt := 167) dX11_clause_163 (by decide) ?_
        exact mj_lessm [true, true, false] rfl h
  · replace h := h.2 hc
    refine mj_aload_n dX11_clause_133 rfl rfl ?_
    refine mj_callVv (as := []) (st := []) dX11_clause_134 cal_X11_condition lk_X11_171 im_X11_condition se_X11_condition (ci := 10) rfl (by decide) hk_a0 h rfl (Nat.le_of_ble_eq_true rfl) (by decide) ⟨Nat.le_of_ble_eq_true rfl, Nat.le_of_ble_eq_true rfl⟩ (fun S6 h hp => ?_)
    have hk_a0 : m_kd S6 a0 = 10 := m_kd_pre hp hk_a0 (by decide)
    refine mj_goto (tgt := 184) dX11_clause_137 (by decide) ?_
    exact h
set_option maxRecDepth 20000 in
set_option maxHeartbeats 1000000 in
theorem b_X11_clause_167 {l : Launch} {G : mj_G} {a0 : Nat} {x1 : Int32} {s0 : Int32} {S : mj_S} {Q : mj_S → Prop} (hk_a0 : m_kd S a0 = 10) (h : ((s0 = 0) → V_X11_clause_184 l G a0 x1 s0 S Q) ∧ ((¬ (s0 = 0)) → M_X11_compare l G 80 a0 S (fun S1 => M_X11_goOnAnd l G 80 a0 S1 (fun S2 => M_X11_goOnOr l G 80 a0 S2 (fun S3 => V_X11_clause_184 l G a0 x1 s0 S3 Q))))) : V_X11_clause_167 l G a0 x1 s0 S Q := by
  refine mj_istore_n dX11_clause_167 rfl (by decide) rfl rfl ?_
  refine mj_iload_n dX11_clause_168 rfl rfl ?_
  refine mj_if_eq (tgt := 184) dX11_clause_169 (by decide) ⟨fun hc => ?_, fun hc => ?_⟩
  · replace h := h.1 hc
    exact h
  · replace h := h.2 hc
    refine mj_aload_n dX11_clause_172 rfl rfl ?_
    refine mj_callVv (as := []) (st := []) dX11_clause_173 cal_X11_compare lk_X11_174 im_X11_compare se_X11_compare (ci := 10) rfl (by decide) hk_a0 h rfl (Nat.le_of_ble_eq_true rfl) (by decide) ⟨Nat.le_of_ble_eq_true rfl, Nat.le_of_ble_eq_true rfl⟩ (fun S1 h hp => ?_)
    have hk_a0 : m_kd S1 a0 = 10 := m_kd_pre hp hk_a0 (by decide)
    refine mj_aload_n dX11_clause_176 rfl rfl ?_
    refine mj_callVv (as := []) (st := []) dX11_clause_177 cal_X11_goOnAnd lk_X11_177 im_X11_goOnAnd se_X11_goOnAnd (ci := 10) rfl (by decide) hk_a0 h rfl (Nat.le_of_ble_eq_true rfl) (by decide) ⟨Nat.le_of_ble_eq_true rfl, Nat.le_of_ble_eq_true rfl⟩ (fun S2 h hp => ?_)
    have hk_a0 : m_kd S2 a0 = 10 := m_kd_pre hp hk_a0 (by decide)
    refine mj_aload_n dX11_clause_180 rfl rfl ?_
    refine mj_callVv (as := []) (st := []) dX11_clause_181 cal_X11_goOnOr lk_X11_180 im_X11_goOnOr se_X11_goOnOr (ci := 10) rfl (by decide) hk_a0 h rfl (Nat.le_of_ble_eq_true rfl) (by decide) ⟨Nat.le_of_ble_eq_true rfl, Nat.le_of_ble_eq_true rfl⟩ (fun S3 h hp => ?_)
    have hk_a0 : m_kd S3 a0 = 10 := m_kd_pre hp hk_a0 (by decide)
    exact h
set_option maxRecDepth 20000 in
set_option maxHeartbeats 1000000 in
theorem b_X11_clause_184 {l : Launch} {G : mj_G} {a0 : Nat} {x1 : Int32} {x2 : Int32} {S : mj_S} {Q : mj_S → Prop} (hk_a0 : m_kd S a0 = 10) (h : ∃ b1, m_gp S a0 11 = some b1 ∧ (∃ b2, m_gp S a0 10 = some b2 ∧ (vp_in x1 (m_ln S b2) ∧ (vp_in x1 (m_ln S b1) ∧ (∀ S3 : mj_S, S3 = m_si S b1 (x1).toNatClampNeg (m_gi S b2 (x1).toNatClampNeg) → ((x2 = 0) → V_X11_clause_251 l G a0 x1 S3 Q) ∧ ((¬ (x2 = 0)) → ((¬ (m_gi S3 a0 4) = (-1 : Int32)) → V_X11_clause_251 l G a0 x1 S3 Q) ∧ (((m_gi S3 a0 4) = (-1 : Int32)) → M_X11_look l G a0 S3 (fun S4 r5 => ((r5 = (63 : Int32)) → ∀ S6 : mj_S, S6 = m_si S4 a0 3 ((m_gi S4 a0 3) + (1 : Int32)) → ∃ b7, m_gp S6 a0 11 = some b7 ∧ (∃ b8, m_gp S6 a0 8 = some b8 ∧ (vp_in (m_gi S6 a0 14) (m_ln S6 b8) ∧ (vp_in x1 (m_ln S6 b7) ∧ (∀ S9 : mj_S, S9 = m_si S6 b7 (x1).toNatClampNeg (m_gi S6 b8 ((m_gi S6 a0 14)).toNatClampNeg) → M_X11_sum l G 80 a0 S9 (fun S10 => V_X11_clause_251 l G a0 x1 S10 Q)))))) ∧ ((¬ (r5 = (63 : Int32))) → M_X11_bad l G a0 S4 (fun S11 => Q S11)))))))))) : V_X11_clause_184 l G a0 x1 x2 S Q := by
  refine mj_aload_n dX11_clause_184 rfl rfl ?_
  obtain ⟨b1, eb1, h⟩ := h
  refine mj_getP dX11_clause_185 fl_X11_28_10 hk_a0 rfl ⟨b1, eb1, fun hk_b1 => ?_⟩
  refine mj_iload_n dX11_clause_188 rfl rfl ?_
  refine mj_aload_n dX11_clause_189 rfl rfl ?_
  obtain ⟨b2, eb2, h⟩ := h
  refine mj_getP dX11_clause_190 fl_X11_25_10 hk_a0 rfl ⟨b2, eb2, fun hk_b2 => ?_⟩
  refine mj_iload_n dX11_clause_193 rfl rfl ?_
  refine mj_iald dX11_clause_194 (Or.inl hk_b2) ⟨h.1, ?_⟩
  replace h := h.2
  refine mj_iast dX11_clause_195 hk_b1 ⟨h.1, ?_⟩
  replace h := h.2
  obtain ⟨S3, eS3⟩ : ∃ z, z = m_si S b1 (x1).toNatClampNeg (m_gi S b2 (x1).toNatClampNeg) := ⟨_, rfl⟩
  rw [← eS3]
  replace h := h S3 eS3
  have hk_a0 : m_kd S3 a0 = 10 := by rw [eS3]; exact hk_a0
  have hk_b1 : m_kd S3 b1 = 100 := by rw [eS3]; exact hk_b1
  have hk_b2 : m_kd S3 b2 = 100 := by rw [eS3]; exact hk_b2
  refine mj_iload_n dX11_clause_196 rfl rfl ?_
  refine mj_if_eq (tgt := 251) dX11_clause_197 (by decide) ⟨fun hc => ?_, fun hc => ?_⟩
  · replace h := h.1 hc
    exact mj_lessm [true, true, false] rfl h
  · replace h := h.2 hc
    refine mj_aload_n dX11_clause_200 rfl rfl ?_
    refine mj_getI dX11_clause_201 fl_X11_119_10 hk_a0 rfl ?_
    refine mj_iconst (v := (-1)) dX11_clause_204 (by decide) ?_
    refine mj_icmp_ne (tgt := 251) dX11_clause_205 (by decide) ⟨fun hc => ?_, fun hc => ?_⟩
    · replace h := h.1 hc
      exact mj_lessm [true, true, false] rfl h
    · replace h := h.2 hc
      refine mj_aload_n dX11_clause_208 rfl rfl ?_
      refine mj_callVi (as := []) (st := []) dX11_clause_209 cal_X11_look lk_X11_131 im_X11_look se_X11_look (ci := 10) rfl (by decide) hk_a0 h rfl (Nat.le_of_ble_eq_true rfl) (by decide) ⟨Nat.le_of_ble_eq_true rfl, Nat.le_of_ble_eq_true rfl⟩ (fun S4 r5 h hn_r5 hp => ?_)
      have hk_a0 : m_kd S4 a0 = 10 := m_kd_pre hp hk_a0 (by decide)
      have hk_b1 : m_kd S4 b1 = 100 := m_kd_pre hp hk_b1 (by decide)
      have hk_b2 : m_kd S4 b2 = 100 := m_kd_pre hp hk_b2 (by decide)
      refine mj_bipush (v := 63) dX11_clause_212 (by decide) ?_
      refine mj_icmp_eq (tgt := 222) dX11_clause_214 (by decide) ⟨fun hc => ?_, fun hc => ?_⟩
      · replace h := h.1 hc
        refine mj_aload_n dX11_clause_222 rfl rfl ?_
        refine mj_dup dX11_clause_223 rfl ?_
        refine mj_getI dX11_clause_224 fl_X11_112_10 hk_a0 rfl ?_
        refine mj_iconst (v := 1) dX11_clause_227 (by decide) ?_
        refine mj_iadd dX11_clause_228 ?_
        refine mj_putI dX11_clause_229 fl_X11_112_10 hk_a0 (Or.inl rfl) rfl rfl rfl ?_
        obtain ⟨S6, eS6⟩ : ∃ z, z = m_si S4 a0 3 ((m_gi S4 a0 3) + (1 : Int32)) := ⟨_, rfl⟩
        rw [← eS6]
        replace h := h S6 eS6
        have hk_a0 : m_kd S6 a0 = 10 := by rw [eS6]; exact hk_a0
        have hk_b1 : m_kd S6 b1 = 100 := by rw [eS6]; exact hk_b1
        have hk_b2 : m_kd S6 b2 = 100 := by rw [eS6]; exact hk_b2
        refine mj_aload_n dX11_clause_232 rfl rfl ?_
        obtain ⟨b7, eb7, h⟩ := h
        refine mj_getP dX11_clause_233 fl_X11_28_10 hk_a0 rfl ⟨b7, eb7, fun hk_b7 => ?_⟩
        refine mj_iload_n dX11_clause_236 rfl rfl ?_
        refine mj_aload_n dX11_clause_237 rfl rfl ?_
        obtain ⟨b8, eb8, h⟩ := h
        refine mj_getP dX11_clause_238 fl_X11_19_10 hk_a0 rfl ⟨b8, eb8, fun hk_b8 => ?_⟩
        refine mj_aload_n dX11_clause_241 rfl rfl ?_
        refine mj_getI dX11_clause_242 fl_X11_122_10 hk_a0 rfl ?_
        refine mj_iald dX11_clause_245 (Or.inl hk_b8) ⟨h.1, ?_⟩
        replace h := h.2
        refine mj_iast dX11_clause_246 hk_b7 ⟨h.1, ?_⟩
        replace h := h.2
        obtain ⟨S9, eS9⟩ : ∃ z, z = m_si S6 b7 (x1).toNatClampNeg (m_gi S6 b8 ((m_gi S6 a0 14)).toNatClampNeg) := ⟨_, rfl⟩
        rw [← eS9]
        replace h := h S9 eS9
        have hk_a0 : m_kd S9 a0 = 10 := by rw [eS9]; exact hk_a0
        have hk_b1 : m_kd S9 b1 = 100 := by rw [eS9]; exact hk_b1
        have hk_b2 : m_kd S9 b2 = 100 := by rw [eS9]; exact hk_b2
        have hk_b7 : m_kd S9 b7 = 100 := by rw [eS9]; exact hk_b7
        have hk_b8 : m_kd S9 b8 = 100 := by rw [eS9]; exact hk_b8
        refine mj_aload_n dX11_clause_247 rfl rfl ?_
        refine mj_callVv (as := []) (st := []) dX11_clause_248 cal_X11_sum lk_X11_152 im_X11_sum se_X11_sum (ci := 10) rfl (by decide) hk_a0 h rfl (Nat.le_of_ble_eq_true rfl) (by decide) ⟨Nat.le_of_ble_eq_true rfl, Nat.le_of_ble_eq_true rfl⟩ (fun S10 h hp => ?_)
        have hk_a0 : m_kd S10 a0 = 10 := m_kd_pre hp hk_a0 (by decide)
        have hk_b1 : m_kd S10 b1 = 100 := m_kd_pre hp hk_b1 (by decide)
        have hk_b2 : m_kd S10 b2 = 100 := m_kd_pre hp hk_b2 (by decide)
        have hk_b7 : m_kd S10 b7 = 100 := m_kd_pre hp hk_b7 (by decide)
        have hk_b8 : m_kd S10 b8 = 100 := m_kd_pre hp hk_b8 (by decide)
        exact mj_lessm [true, true, false] rfl h
      · replace h := h.2 hc
        refine mj_aload_n dX11_clause_217 rfl rfl ?_
        refine mj_callVv (as := []) (st := []) dX11_clause_218 cal_X11_bad lk_X11_128 im_X11_bad se_X11_bad (ci := 10) rfl (by decide) hk_a0 h rfl (Nat.le_of_ble_eq_true rfl) (by decide) ⟨Nat.le_of_ble_eq_true rfl, Nat.le_of_ble_eq_true rfl⟩ (fun S11 h hp => ?_)
        have hk_a0 : m_kd S11 a0 = 10 := m_kd_pre hp hk_a0 (by decide)
        have hk_b1 : m_kd S11 b1 = 100 := m_kd_pre hp hk_b1 (by decide)
        have hk_b2 : m_kd S11 b2 = 100 := m_kd_pre hp hk_b2 (by decide)
        exact mj_retv dX11_clause_221 rfl ⟨Nat.le_of_ble_eq_true rfl, Nat.le_of_ble_eq_true rfl⟩ h
set_option maxRecDepth 20000 in
set_option maxHeartbeats 1000000 in
theorem b_X11_clause_251 {l : Launch} {G : mj_G} {a0 : Nat} {x1 : Int32} {S : mj_S} {Q : mj_S → Prop} (hk_a0 : m_kd S a0 = 10) (h : ∃ b1, m_gp S a0 12 = some b1 ∧ (∃ b2, m_gp S a0 8 = some b2 ∧ (vp_in (m_gi S a0 14) (m_ln S b2) ∧ (vp_in x1 (m_ln S b1) ∧ (∀ S3 : mj_S, S3 = m_si S b1 (x1).toNatClampNeg (m_gi S b2 ((m_gi S a0 14)).toNatClampNeg) → ∃ b4, m_gp S3 a0 9 = some b4 ∧ (vp_in (m_gi S3 a0 14) (m_ln S3 b4) ∧ (vp_in (m_gi S3 a0 14) (m_ln S3 b4) ∧ (∀ S5 : mj_S, S5 = m_si S3 b4 ((m_gi S3 a0 14)).toNatClampNeg ((m_gi S3 b4 ((m_gi S3 a0 14)).toNatClampNeg) + (1 : Int32)) → Q S5)))))))) : V_X11_clause_251 l G a0 x1 S Q := by
  refine mj_aload_n dX11_clause_251 rfl rfl ?_
  obtain ⟨b1, eb1, h⟩ := h
  refine mj_getP dX11_clause_252 fl_X11_31_10 hk_a0 rfl ⟨b1, eb1, fun hk_b1 => ?_⟩
  refine mj_iload_n dX11_clause_255 rfl rfl ?_
  refine mj_aload_n dX11_clause_256 rfl rfl ?_
  obtain ⟨b2, eb2, h⟩ := h
  refine mj_getP dX11_clause_257 fl_X11_19_10 hk_a0 rfl ⟨b2, eb2, fun hk_b2 => ?_⟩
  refine mj_aload_n dX11_clause_260 rfl rfl ?_
  refine mj_getI dX11_clause_261 fl_X11_122_10 hk_a0 rfl ?_
  refine mj_iald dX11_clause_264 (Or.inl hk_b2) ⟨h.1, ?_⟩
  replace h := h.2
  refine mj_iast dX11_clause_265 hk_b1 ⟨h.1, ?_⟩
  replace h := h.2
  obtain ⟨S3, eS3⟩ : ∃ z, z = m_si S b1 (x1).toNatClampNeg (m_gi S b2 ((m_gi S a0 14)).toNatClampNeg) := ⟨_, rfl⟩
  rw [← eS3]
  replace h := h S3 eS3
  have hk_a0 : m_kd S3 a0 = 10 := by rw [eS3]; exact hk_a0
  have hk_b1 : m_kd S3 b1 = 100 := by rw [eS3]; exact hk_b1
  have hk_b2 : m_kd S3 b2 = 100 := by rw [eS3]; exact hk_b2
  refine mj_aload_n dX11_clause_266 rfl rfl ?_
  obtain ⟨b4, eb4, h⟩ := h
  refine mj_getP dX11_clause_267 fl_X11_22_10 hk_a0 rfl ⟨b4, eb4, fun hk_b4 => ?_⟩
  refine mj_aload_n dX11_clause_270 rfl rfl ?_
  refine mj_getI dX11_clause_271 fl_X11_122_10 hk_a0 rfl ?_
  refine mj_dup2 dX11_clause_274 rfl rfl ?_
  refine mj_iald dX11_clause_275 (Or.inl hk_b4) ⟨h.1, ?_⟩
  replace h := h.2
  refine mj_iconst (v := 1) dX11_clause_276 (by decide) ?_
  refine mj_iadd dX11_clause_277 ?_
  refine mj_iast dX11_clause_278 hk_b4 ⟨h.1, ?_⟩
  replace h := h.2
  obtain ⟨S5, eS5⟩ : ∃ z, z = m_si S3 b4 ((m_gi S3 a0 14)).toNatClampNeg ((m_gi S3 b4 ((m_gi S3 a0 14)).toNatClampNeg) + (1 : Int32)) := ⟨_, rfl⟩
  rw [← eS5]
  replace h := h S5 eS5
  have hk_a0 : m_kd S5 a0 = 10 := by rw [eS5]; exact hk_a0
  have hk_b1 : m_kd S5 b1 = 100 := by rw [eS5]; exact hk_b1
  have hk_b2 : m_kd S5 b2 = 100 := by rw [eS5]; exact hk_b2
  have hk_b4 : m_kd S5 b4 = 100 := by rw [eS5]; exact hk_b4
  exact mj_retv dX11_clause_279 rfl ⟨Nat.le_of_ble_eq_true rfl, Nat.le_of_ble_eq_true rfl⟩ h
abbrev V_X11_open_0 (l : Launch) (G : mj_G) (a0 : Nat) (x1 : Int32) (S : mj_S) (Q : mj_S → Prop) : Prop := mj_V l G (mj_room 1 0 0) RX11 cX11_open 2 none false 0 [some (.ref a0), some (.int x1)] [] S 0 0 (mj_std G none (mj_room 1 0 0) (mj_qv Q))
theorem e_X11_open {l : Launch} {G : mj_G} {a0 : Nat} {x1 : Int32} {S : mj_S} {Q : mj_S → Prop} (h : V_X11_open_0 l G a0 x1 S Q) : M_X11_open l G a0 x1 S Q := mj_enter (r := 0) (ini := false) (by decide +kernel) (fun h => by cases h) (fun _ => Nat.le_of_ble_eq_true rfl) rfl h
set_option maxRecDepth 20000 in
set_option maxHeartbeats 1000000 in
theorem b_X11_open_0 {l : Launch} {G : mj_G} {a0 : Nat} {x1 : Int32} {S : mj_S} {Q : mj_S → Prop} (hk_a0 : m_kd S a0 = 10) (h : ∀ S1 : mj_S, S1 = m_si S a0 14 x1 → ∀ S2 : mj_S, S2 = m_si S1 a0 3 (0 : Int32) → ∀ S3 : mj_S, S3 = m_si S2 a0 4 (-1 : Int32) → ∀ S4 : mj_S, S4 = m_si S3 a0 5 (0 : Int32) → ∃ b5, m_gp S4 a0 8 = some b5 ∧ (vp_in x1 (m_ln S4 b5) ∧ (∀ S6 : mj_S, S6 = m_si S4 b5 (x1).toNatClampNeg (0 : Int32) → ∃ b7, m_gp S6 a0 9 = some b7 ∧ (vp_in x1 (m_ln S6 b7) ∧ (∀ S8 : mj_S, S8 = m_si S6 b7 (x1).toNatClampNeg (0 : Int32) → Q S8))))) : V_X11_open_0 l G a0 x1 S Q := by
  refine mj_aload_n dX11_open_0 rfl rfl ?_
  refine mj_iload_n dX11_open_1 rfl rfl ?_
  refine mj_putI dX11_open_2 fl_X11_122_10 hk_a0 (Or.inl rfl) rfl rfl rfl ?_
  obtain ⟨S1, eS1⟩ : ∃ z, z = m_si S a0 14 x1 := ⟨_, rfl⟩
  rw [← eS1]
  replace h := h S1 eS1
  have hk_a0 : m_kd S1 a0 = 10 := by rw [eS1]; exact hk_a0
  refine mj_aload_n dX11_open_5 rfl rfl ?_
  refine mj_iconst (v := 0) dX11_open_6 (by decide) ?_
  refine mj_putI dX11_open_7 fl_X11_112_10 hk_a0 (Or.inl rfl) rfl rfl rfl ?_
  obtain ⟨S2, eS2⟩ : ∃ z, z = m_si S1 a0 3 (0 : Int32) := ⟨_, rfl⟩
  rw [← eS2]
  replace h := h S2 eS2
  have hk_a0 : m_kd S2 a0 = 10 := by rw [eS2]; exact hk_a0
  refine mj_aload_n dX11_open_10 rfl rfl ?_
  refine mj_iconst (v := (-1)) dX11_open_11 (by decide) ?_
  refine mj_putI dX11_open_12 fl_X11_119_10 hk_a0 (Or.inl rfl) rfl rfl rfl ?_
  obtain ⟨S3, eS3⟩ : ∃ z, z = m_si S2 a0 4 (-1 : Int32) := ⟨_, rfl⟩
  rw [← eS3]
  replace h := h S3 eS3
  have hk_a0 : m_kd S3 a0 = 10 := by rw [eS3]; exact hk_a0
  refine mj_aload_n dX11_open_15 rfl rfl ?_
  refine mj_iconst (v := 0) dX11_open_16 (by decide) ?_
  refine mj_putI dX11_open_17 fl_X11_125_10 hk_a0 (Or.inl rfl) rfl rfl rfl ?_
  obtain ⟨S4, eS4⟩ : ∃ z, z = m_si S3 a0 5 (0 : Int32) := ⟨_, rfl⟩
  rw [← eS4]
  replace h := h S4 eS4
  have hk_a0 : m_kd S4 a0 = 10 := by rw [eS4]; exact hk_a0
  refine mj_aload_n dX11_open_20 rfl rfl ?_
  obtain ⟨b5, eb5, h⟩ := h
  refine mj_getP dX11_open_21 fl_X11_19_10 hk_a0 rfl ⟨b5, eb5, fun hk_b5 => ?_⟩
  refine mj_iload_n dX11_open_24 rfl rfl ?_
  refine mj_iconst (v := 0) dX11_open_25 (by decide) ?_
  refine mj_iast dX11_open_26 hk_b5 ⟨h.1, ?_⟩
  replace h := h.2
  obtain ⟨S6, eS6⟩ : ∃ z, z = m_si S4 b5 (x1).toNatClampNeg (0 : Int32) := ⟨_, rfl⟩
  rw [← eS6]
  replace h := h S6 eS6
  have hk_a0 : m_kd S6 a0 = 10 := by rw [eS6]; exact hk_a0
  have hk_b5 : m_kd S6 b5 = 100 := by rw [eS6]; exact hk_b5
  refine mj_aload_n dX11_open_27 rfl rfl ?_
  obtain ⟨b7, eb7, h⟩ := h
  refine mj_getP dX11_open_28 fl_X11_22_10 hk_a0 rfl ⟨b7, eb7, fun hk_b7 => ?_⟩
  refine mj_iload_n dX11_open_31 rfl rfl ?_
  refine mj_iconst (v := 0) dX11_open_32 (by decide) ?_
  refine mj_iast dX11_open_33 hk_b7 ⟨h.1, ?_⟩
  replace h := h.2
  obtain ⟨S8, eS8⟩ : ∃ z, z = m_si S6 b7 (x1).toNatClampNeg (0 : Int32) := ⟨_, rfl⟩
  rw [← eS8]
  replace h := h S8 eS8
  have hk_a0 : m_kd S8 a0 = 10 := by rw [eS8]; exact hk_a0
  have hk_b5 : m_kd S8 b5 = 100 := by rw [eS8]; exact hk_b5
  have hk_b7 : m_kd S8 b7 = 100 := by rw [eS8]; exact hk_b7
  exact mj_retv dX11_open_34 rfl ⟨Nat.le_of_ble_eq_true rfl, Nat.le_of_ble_eq_true rfl⟩ h
abbrev V_X11_atEnd_0 (l : Launch) (G : mj_G) (a0 : Nat) (S : mj_S) (Q : mj_S → Int32 → Prop) : Prop := mj_V l G (mj_room 3 0 0) RX11 cX11_atEnd 1 (some .int) false 0 [some (.ref a0)] [] S 0 0 (mj_std G (some .int) (mj_room 3 0 0) (mj_qi Q))
theorem e_X11_atEnd {l : Launch} {G : mj_G} {a0 : Nat} {S : mj_S} {Q : mj_S → Int32 → Prop} (h : V_X11_atEnd_0 l G a0 S Q) : M_X11_atEnd l G a0 S Q := mj_enter (r := 0) (ini := false) (by decide +kernel) (fun h => by cases h) (fun _ => Nat.le_of_ble_eq_true rfl) rfl h
set_option maxRecDepth 20000 in
set_option maxHeartbeats 1000000 in
theorem b_X11_atEnd_0 {l : Launch} {G : mj_G} {a0 : Nat} {S : mj_S} {Q : mj_S → Int32 → Prop} (hk_a0 : m_kd S a0 = 10) (h : ((¬ (m_gi S a0 4) = (-1 : Int32)) → Q S (m_gi S a0 4)) ∧ (((m_gi S a0 4) = (-1 : Int32)) → M_X11_look l G a0 S (fun S1 r2 => ((r2 = (-1 : Int32)) → Q S1 (m_gi S1 a0 4)) ∧ ((¬ (r2 = (-1 : Int32))) → M_X11_bad l G a0 S1 (fun S3 => Q S3 (m_gi S3 a0 4)))))) : V_X11_atEnd_0 l G a0 S Q := by
  refine mj_aload_n dX11_atEnd_0 rfl rfl ?_
  refine mj_getI dX11_atEnd_1 fl_X11_119_10 hk_a0 rfl ?_
  refine mj_iconst (v := (-1)) dX11_atEnd_4 (by decide) ?_
  refine mj_icmp_ne (tgt := 20) dX11_atEnd_5 (by decide) ⟨fun hc => ?_, fun hc => ?_⟩
  · replace h := h.1 hc
    refine mj_aload_n dX11_atEnd_20 rfl rfl ?_
    refine mj_getI dX11_atEnd_21 fl_X11_119_10 hk_a0 rfl ?_
    exact mj_reti dX11_atEnd_24 rfl ⟨Nat.le_of_ble_eq_true rfl, Nat.le_of_ble_eq_true rfl⟩ h
  · replace h := h.2 hc
    refine mj_aload_n dX11_atEnd_8 rfl rfl ?_
    refine mj_callVi (as := []) (st := []) dX11_atEnd_9 cal_X11_look lk_X11_131 im_X11_look se_X11_look (ci := 10) rfl (by decide) hk_a0 h rfl (Nat.le_of_ble_eq_true rfl) (by decide) ⟨Nat.le_of_ble_eq_true rfl, Nat.le_of_ble_eq_true rfl⟩ (fun S1 r2 h hn_r2 hp => ?_)
    have hk_a0 : m_kd S1 a0 = 10 := m_kd_pre hp hk_a0 (by decide)
    refine mj_iconst (v := (-1)) dX11_atEnd_12 (by decide) ?_
    refine mj_icmp_eq (tgt := 20) dX11_atEnd_13 (by decide) ⟨fun hc => ?_, fun hc => ?_⟩
    · replace h := h.1 hc
      refine mj_aload_n dX11_atEnd_20 rfl rfl ?_
      refine mj_getI dX11_atEnd_21 fl_X11_119_10 hk_a0 rfl ?_
      exact mj_reti dX11_atEnd_24 rfl ⟨Nat.le_of_ble_eq_true rfl, Nat.le_of_ble_eq_true rfl⟩ h
    · replace h := h.2 hc
      refine mj_aload_n dX11_atEnd_16 rfl rfl ?_
      refine mj_callVv (as := []) (st := []) dX11_atEnd_17 cal_X11_bad lk_X11_128 im_X11_bad se_X11_bad (ci := 10) rfl (by decide) hk_a0 h rfl (Nat.le_of_ble_eq_true rfl) (by decide) ⟨Nat.le_of_ble_eq_true rfl, Nat.le_of_ble_eq_true rfl⟩ (fun S3 h hp => ?_)
      have hk_a0 : m_kd S3 a0 = 10 := m_kd_pre hp hk_a0 (by decide)
      refine mj_aload_n dX11_atEnd_20 rfl rfl ?_
      refine mj_getI dX11_atEnd_21 fl_X11_119_10 hk_a0 rfl ?_
      exact mj_reti dX11_atEnd_24 rfl ⟨Nat.le_of_ble_eq_true rfl, Nat.le_of_ble_eq_true rfl⟩ h
abbrev V_X11_readLaw_0 (l : Launch) (G : mj_G) (a0 : Nat) (x1 : Int32) (S : mj_S) (Q : mj_S → Int32 → Prop) : Prop := mj_V l G (mj_room 82 0 0) RX11 cX11_readLaw 2 (some .int) false 0 [some (.ref a0), some (.int x1)] [] S 0 0 (mj_std G (some .int) (mj_room 82 0 0) (mj_qi Q))
abbrev V_X11_readLaw_9 (l : Launch) (G : mj_G) (a0 : Nat) (S : mj_S) (Q : mj_S → Int32 → Prop) : Prop := mj_V l G (mj_room 82 0 0) RX11 cX11_readLaw 2 (some .int) false 9 [some (.ref a0), none] [] S 0 0 (mj_std G (some .int) (mj_room 82 0 0) (mj_qi Q))
abbrev V_X11_readLaw_43 (l : Launch) (G : mj_G) (a0 : Nat) (S : mj_S) (Q : mj_S → Int32 → Prop) : Prop := mj_V l G (mj_room 82 0 0) RX11 cX11_readLaw 2 (some .int) false 43 [some (.ref a0), none] [] S 0 0 (mj_std G (some .int) (mj_room 82 0 0) (mj_qi Q))
theorem e_X11_readLaw {l : Launch} {G : mj_G} {a0 : Nat} {x1 : Int32} {S : mj_S} {Q : mj_S → Int32 → Prop} (h : V_X11_readLaw_0 l G a0 x1 S Q) : M_X11_readLaw l G a0 x1 S Q := mj_enter (r := 0) (ini := false) (by decide +kernel) (fun h => by cases h) (fun _ => Nat.le_of_ble_eq_true rfl) rfl h
set_option maxRecDepth 20000 in
set_option maxHeartbeats 1000000 in
theorem b_X11_readLaw_0 {l : Launch} {G : mj_G} {a0 : Nat} {x1 : Int32} {S : mj_S} {Q : mj_S → Int32 → Prop} (hk_a0 : m_kd S a0 = 10) (h : M_X11_open l G a0 x1 S (fun S1 => M_X11_clause l G a0 S1 (fun S2 => V_X11_readLaw_9 l G a0 S2 Q))) : V_X11_readLaw_0 l G a0 x1 S Q := by
  refine mj_aload_n dX11_readLaw_0 rfl rfl ?_
  refine mj_iload_n dX11_readLaw_1 rfl rfl ?_
  refine mj_callVv (as := [.int x1]) (st := []) dX11_readLaw_2 cal_X11_open lk_X11_183 im_X11_open se_X11_open (ci := 10) rfl (by decide) hk_a0 h rfl (Nat.le_of_ble_eq_true rfl) (by decide) ⟨Nat.le_of_ble_eq_true rfl, Nat.le_of_ble_eq_true rfl⟩ (fun S1 h hp => ?_)
  have hk_a0 : m_kd S1 a0 = 10 := m_kd_pre hp hk_a0 (by decide)
  refine mj_aload_n dX11_readLaw_5 rfl rfl ?_
  refine mj_callVv (as := []) (st := []) dX11_readLaw_6 cal_X11_clause lk_X11_186 im_X11_clause se_X11_clause (ci := 10) rfl (by decide) hk_a0 h rfl (Nat.le_of_ble_eq_true rfl) (by decide) ⟨Nat.le_of_ble_eq_true rfl, Nat.le_of_ble_eq_true rfl⟩ (fun S2 h hp => ?_)
  have hk_a0 : m_kd S2 a0 = 10 := m_kd_pre hp hk_a0 (by decide)
  exact mj_lessm [true, false] rfl h
set_option maxRecDepth 20000 in
set_option maxHeartbeats 1000000 in
theorem b_X11_readLaw_9 {l : Launch} {G : mj_G} {a0 : Nat} {S : mj_S} {Q : mj_S → Int32 → Prop} (hk_a0 : m_kd S a0 = 10) (h : ((¬ (m_gi S a0 4) = (-1 : Int32)) → V_X11_readLaw_43 l G a0 S Q) ∧ (((m_gi S a0 4) = (-1 : Int32)) → M_X11_look l G a0 S (fun S1 r2 => ((¬ r2 = (59 : Int32)) → V_X11_readLaw_43 l G a0 S1 Q) ∧ ((r2 = (59 : Int32)) → ∀ S3 : mj_S, S3 = m_si S1 a0 3 ((m_gi S1 a0 3) + (1 : Int32)) → M_X11_clause l G a0 S3 (fun S4 => V_X11_readLaw_9 l G a0 S4 Q))))) : V_X11_readLaw_9 l G a0 S Q := by
  refine mj_aload_n dX11_readLaw_9 rfl rfl ?_
  refine mj_getI dX11_readLaw_10 fl_X11_119_10 hk_a0 rfl ?_
  refine mj_iconst (v := (-1)) dX11_readLaw_13 (by decide) ?_
  refine mj_icmp_ne (tgt := 43) dX11_readLaw_14 (by decide) ⟨fun hc => ?_, fun hc => ?_⟩
  · replace h := h.1 hc
    exact h
  · replace h := h.2 hc
    refine mj_aload_n dX11_readLaw_17 rfl rfl ?_
    refine mj_callVi (as := []) (st := []) dX11_readLaw_18 cal_X11_look lk_X11_131 im_X11_look se_X11_look (ci := 10) rfl (by decide) hk_a0 h rfl (Nat.le_of_ble_eq_true rfl) (by decide) ⟨Nat.le_of_ble_eq_true rfl, Nat.le_of_ble_eq_true rfl⟩ (fun S1 r2 h hn_r2 hp => ?_)
    have hk_a0 : m_kd S1 a0 = 10 := m_kd_pre hp hk_a0 (by decide)
    refine mj_bipush (v := 59) dX11_readLaw_21 (by decide) ?_
    refine mj_icmp_ne (tgt := 43) dX11_readLaw_23 (by decide) ⟨fun hc => ?_, fun hc => ?_⟩
    · replace h := h.1 hc
      exact h
    · replace h := h.2 hc
      refine mj_aload_n dX11_readLaw_26 rfl rfl ?_
      refine mj_dup dX11_readLaw_27 rfl ?_
      refine mj_getI dX11_readLaw_28 fl_X11_112_10 hk_a0 rfl ?_
      refine mj_iconst (v := 1) dX11_readLaw_31 (by decide) ?_
      refine mj_iadd dX11_readLaw_32 ?_
      refine mj_putI dX11_readLaw_33 fl_X11_112_10 hk_a0 (Or.inl rfl) rfl rfl rfl ?_
      obtain ⟨S3, eS3⟩ : ∃ z, z = m_si S1 a0 3 ((m_gi S1 a0 3) + (1 : Int32)) := ⟨_, rfl⟩
      rw [← eS3]
      replace h := h S3 eS3
      have hk_a0 : m_kd S3 a0 = 10 := by rw [eS3]; exact hk_a0
      refine mj_aload_n dX11_readLaw_36 rfl rfl ?_
      refine mj_callVv (as := []) (st := []) dX11_readLaw_37 cal_X11_clause lk_X11_186 im_X11_clause se_X11_clause (ci := 10) rfl (by decide) hk_a0 h rfl (Nat.le_of_ble_eq_true rfl) (by decide) ⟨Nat.le_of_ble_eq_true rfl, Nat.le_of_ble_eq_true rfl⟩ (fun S4 h hp => ?_)
      have hk_a0 : m_kd S4 a0 = 10 := m_kd_pre hp hk_a0 (by decide)
      refine mj_goto (tgt := 9) dX11_readLaw_40 (by decide) ?_
      exact h
set_option maxRecDepth 20000 in
set_option maxHeartbeats 1000000 in
theorem b_X11_readLaw_43 {l : Launch} {G : mj_G} {a0 : Nat} {S : mj_S} {Q : mj_S → Int32 → Prop} (hk_a0 : m_kd S a0 = 10) (h : M_X11_atEnd l G a0 S (fun S1 r2 => Q S1 r2)) : V_X11_readLaw_43 l G a0 S Q := by
  refine mj_aload_n dX11_readLaw_43 rfl rfl ?_
  refine mj_callVi (as := []) (st := []) dX11_readLaw_44 cal_X11_atEnd lk_X11_189 im_X11_atEnd se_X11_atEnd (ci := 10) rfl (by decide) hk_a0 h rfl (Nat.le_of_ble_eq_true rfl) (by decide) ⟨Nat.le_of_ble_eq_true rfl, Nat.le_of_ble_eq_true rfl⟩ (fun S1 r2 h hn_r2 hp => ?_)
  have hk_a0 : m_kd S1 a0 = 10 := m_kd_pre hp hk_a0 (by decide)
  exact mj_reti dX11_readLaw_47 rfl ⟨Nat.le_of_ble_eq_true rfl, Nat.le_of_ble_eq_true rfl⟩ h
abbrev V_X11_bounded_0 (l : Launch) (G : mj_G) (y0 : Int64) (S : mj_S) (Q : mj_S → Int32 → Prop) : Prop := mj_V l G (mj_room 2 0 0) RX11 cX11_bounded 2 (some .int) false 0 [some (.long y0), none] [] S 0 0 (mj_std G (some .int) (mj_room 2 0 0) (mj_qi Q))
theorem e_X11_bounded {l : Launch} {G : mj_G} {y0 : Int64} {S : mj_S} {Q : mj_S → Int32 → Prop} (h : V_X11_bounded_0 l G y0 S Q) : M_X11_bounded l G y0 S Q := mj_enter (r := 0) (ini := false) (by decide +kernel) (fun h => by cases h) (fun _ => Nat.le_of_ble_eq_true rfl) rfl h
set_option maxRecDepth 20000 in
set_option maxHeartbeats 1000000 in
theorem b_X11_bounded_0 {l : Launch} {G : mj_G} {y0 : Int64} {S : mj_S} {Q : mj_S → Int32 → Prop} (h : M_J9_min_f86c9 l G (1000000 : Int64) y0 S (fun S1 r2 => M_J9_max_f86c9 l G (-1000000 : Int64) r2 S1 (fun S3 r4 => Q S3 ((r4).toInt32)))) : V_X11_bounded_0 l G y0 S Q := by
  refine mj_ldc2 dX11_bounded_0 cl_X11_192 ?_
  refine mj_ldc2 dX11_bounded_3 cl_X11_194 ?_
  refine mj_lload_n dX11_bounded_6 rfl rfl ?_
  refine mj_callSl (as := [.long (1000000 : Int64), .long y0]) (st := [.long (-1000000 : Int64)]) dX11_bounded_7 cal_J9_min_f86c9 lk_X11_196 sm_J9_min_f86c9 h rfl (Nat.le_of_ble_eq_true rfl) (by decide) ⟨Nat.le_of_ble_eq_true rfl, Nat.le_of_ble_eq_true rfl⟩ (fun S1 r2 h hn_r2 hp => ?_)
  refine mj_callSl (as := [.long (-1000000 : Int64), .long r2]) (st := []) dX11_bounded_10 cal_J9_max_f86c9 lk_X11_202 sm_J9_max_f86c9 h rfl (Nat.le_of_ble_eq_true rfl) (by decide) ⟨Nat.le_of_ble_eq_true rfl, Nat.le_of_ble_eq_true rfl⟩ (fun S3 r4 h hn_r4 hp => ?_)
  refine mj_l2i dX11_bounded_13 ?_
  exact mj_reti dX11_bounded_14 rfl ⟨Nat.le_of_ble_eq_true rfl, Nat.le_of_ble_eq_true rfl⟩ h
abbrev V_X11_worked_0 (l : Launch) (G : mj_G) (x0 : Int32) (y1 : Int64) (y3 : Int64) (S : mj_S) (Q : mj_S → Int32 → Prop) : Prop := mj_V l G (mj_room 3 0 0) RX11 cX11_worked 5 (some .int) false 0 [some (.int x0), some (.long y1), none, some (.long y3), none] [] S 0 0 (mj_std G (some .int) (mj_room 3 0 0) (mj_qi Q))
abbrev V_X11_worked_144 (l : Launch) (G : mj_G) (y1 : Int64) (y3 : Int64) (S : mj_S) (Q : mj_S → Int32 → Prop) : Prop := mj_V l G (mj_room 3 0 0) RX11 cX11_worked 5 (some .int) false 144 [none, some (.long y1), none, some (.long y3), none] [] S 0 0 (mj_std G (some .int) (mj_room 3 0 0) (mj_qi Q))
theorem e_X11_worked {l : Launch} {G : mj_G} {x0 : Int32} {y1 : Int64} {y3 : Int64} {S : mj_S} {Q : mj_S → Int32 → Prop} (h : V_X11_worked_0 l G x0 y1 y3 S Q) : M_X11_worked l G x0 y1 y3 S Q := mj_enter (r := 0) (ini := false) (by decide +kernel) (fun h => by cases h) (fun _ => Nat.le_of_ble_eq_true rfl) rfl h
set_option maxRecDepth 20000 in
set_option maxHeartbeats 1000000 in
theorem b_X11_worked_0 {l : Launch} {G : mj_G} {x0 : Int32} {y1 : Int64} {y3 : Int64} {S : mj_S} {Q : mj_S → Int32 → Prop} (h : (x0.toInt < 2 ∨ 10 < x0.toInt → V_X11_worked_144 l G y1 y3 S Q) ∧ (x0.toInt = 2 → M_X11_bounded l G (y1 + y3) S (fun S1 r2 => Q S1 r2)) ∧ (x0.toInt = 3 → M_X11_bounded l G (y1 - y3) S (fun S3 r4 => Q S3 r4)) ∧ (x0.toInt = 4 → M_X11_bounded l G (y1 * y3) S (fun S5 r6 => Q S5 r6)) ∧ (x0.toInt = 5 → ((¬ (lg_cmp y3 (0 : Int64)) = 0) → ¬ y3 = 0 ∧ (M_X11_bounded l G (y1 / y3) S (fun S7 r8 => Q S7 r8))) ∧ (((lg_cmp y3 (0 : Int64)) = 0) → Q S (0 : Int32))) ∧ (x0.toInt = 6 → ((¬ (lg_cmp y1 y3) = 0) → Q S (0 : Int32)) ∧ (((lg_cmp y1 y3) = 0) → Q S (1 : Int32))) ∧ (x0.toInt = 7 → ((0 ≤ (lg_cmp y1 y3)) → Q S (0 : Int32)) ∧ ((¬ (0 ≤ (lg_cmp y1 y3))) → Q S (1 : Int32))) ∧ (x0.toInt = 8 → (((lg_cmp y1 y3) ≤ 0) → Q S (0 : Int32)) ∧ ((¬ ((lg_cmp y1 y3) ≤ 0)) → Q S (1 : Int32))) ∧ (x0.toInt = 9 → V_X11_worked_144 l G y1 y3 S Q) ∧ (x0.toInt = 10 → (((lg_cmp y1 (0 : Int64)) = 0) → Q S (0 : Int32)) ∧ ((¬ ((lg_cmp y1 (0 : Int64)) = 0)) → (((lg_cmp y3 (0 : Int64)) = 0) → Q S (0 : Int32)) ∧ ((¬ ((lg_cmp y3 (0 : Int64)) = 0)) → Q S (1 : Int32))))) : V_X11_worked_0 l G x0 y1 y3 S Q := by
  refine mj_iload_n dX11_worked_0 rfl rfl ?_
  by_cases hlo : x0.toInt < 2 ∨ 10 < x0.toInt
  · replace h := h.1 hlo
    refine mj_tabOut (tgt := 144) dX11_worked_1 hlo (by decide) ?_
    exact mj_lessm [false, true, false, true, false] rfl h
  · replace h := h.2
    rcases (show x0.toInt = 2 ∨ x0.toInt = 3 ∨ x0.toInt = 4 ∨ x0.toInt = 5 ∨ x0.toInt = 6 ∨ x0.toInt = 7 ∨ x0.toInt = 8 ∨ x0.toInt = 9 ∨ x0.toInt = 10 by omega) with e | e | e | e | e | e | e | e | e
    · replace h := h.1 e
      refine mj_tabIn (tgt := 52) (off := 51) dX11_worked_1 (by omega) (by omega) (by rw [e]; rfl) (by decide) ?_
      refine mj_lload_n dX11_worked_52 rfl rfl ?_
      refine mj_lload_n dX11_worked_53 rfl rfl ?_
      refine mj_ladd dX11_worked_54 ?_
      refine mj_callSi (as := [.long (y1 + y3)]) (st := []) dX11_worked_55 cal_X11_bounded lk_X11_205 sm_X11_bounded h rfl (Nat.le_of_ble_eq_true rfl) (by decide) ⟨Nat.le_of_ble_eq_true rfl, Nat.le_of_ble_eq_true rfl⟩ (fun S1 r2 h hn_r2 hp => ?_)
      exact mj_reti dX11_worked_58 rfl ⟨Nat.le_of_ble_eq_true rfl, Nat.le_of_ble_eq_true rfl⟩ h
    · replace h := h.2.1 e
      refine mj_tabIn (tgt := 59) (off := 58) dX11_worked_1 (by omega) (by omega) (by rw [e]; rfl) (by decide) ?_
      refine mj_lload_n dX11_worked_59 rfl rfl ?_
      refine mj_lload_n dX11_worked_60 rfl rfl ?_
      refine mj_lsub dX11_worked_61 ?_
      refine mj_callSi (as := [.long (y1 - y3)]) (st := []) dX11_worked_62 cal_X11_bounded lk_X11_205 sm_X11_bounded h rfl (Nat.le_of_ble_eq_true rfl) (by decide) ⟨Nat.le_of_ble_eq_true rfl, Nat.le_of_ble_eq_true rfl⟩ (fun S3 r4 h hn_r4 hp => ?_)
      exact mj_reti dX11_worked_65 rfl ⟨Nat.le_of_ble_eq_true rfl, Nat.le_of_ble_eq_true rfl⟩ h
    · replace h := h.2.2.1 e
      refine mj_tabIn (tgt := 66) (off := 65) dX11_worked_1 (by omega) (by omega) (by rw [e]; rfl) (by decide) ?_
      refine mj_lload_n dX11_worked_66 rfl rfl ?_
      refine mj_lload_n dX11_worked_67 rfl rfl ?_
      refine mj_lmul dX11_worked_68 ?_
      refine mj_callSi (as := [.long (y1 * y3)]) (st := []) dX11_worked_69 cal_X11_bounded lk_X11_205 sm_X11_bounded h rfl (Nat.le_of_ble_eq_true rfl) (by decide) ⟨Nat.le_of_ble_eq_true rfl, Nat.le_of_ble_eq_true rfl⟩ (fun S5 r6 h hn_r6 hp => ?_)
      exact mj_reti dX11_worked_72 rfl ⟨Nat.le_of_ble_eq_true rfl, Nat.le_of_ble_eq_true rfl⟩ h
    · replace h := h.2.2.2.1 e
      refine mj_tabIn (tgt := 73) (off := 72) dX11_worked_1 (by omega) (by omega) (by rw [e]; rfl) (by decide) ?_
      refine mj_lload_n dX11_worked_73 rfl rfl ?_
      refine mj_lconst (v := 0) dX11_worked_74 (by decide) ?_
      refine mj_lcmp dX11_worked_75 ?_
      refine mj_if_ne (tgt := 83) dX11_worked_76 (by decide) ⟨fun hc => ?_, fun hc => ?_⟩
      · replace h := h.1 hc
        refine mj_lload_n dX11_worked_83 rfl rfl ?_
        refine mj_lload_n dX11_worked_84 rfl rfl ?_
        refine mj_ldiv dX11_worked_85 h.1 ?_
        replace h := h.2
        refine mj_callSi (as := [.long (y1 / y3)]) (st := []) dX11_worked_86 cal_X11_bounded lk_X11_205 sm_X11_bounded h rfl (Nat.le_of_ble_eq_true rfl) (by decide) ⟨Nat.le_of_ble_eq_true rfl, Nat.le_of_ble_eq_true rfl⟩ (fun S7 r8 h hn_r8 hp => ?_)
        exact mj_reti dX11_worked_89 rfl ⟨Nat.le_of_ble_eq_true rfl, Nat.le_of_ble_eq_true rfl⟩ h
      · replace h := h.2 hc
        refine mj_iconst (v := 0) dX11_worked_79 (by decide) ?_
        refine mj_goto (tgt := 89) dX11_worked_80 (by decide) ?_
        exact mj_reti dX11_worked_89 rfl ⟨Nat.le_of_ble_eq_true rfl, Nat.le_of_ble_eq_true rfl⟩ h
    · replace h := h.2.2.2.2.1 e
      refine mj_tabIn (tgt := 90) (off := 89) dX11_worked_1 (by omega) (by omega) (by rw [e]; rfl) (by decide) ?_
      refine mj_lload_n dX11_worked_90 rfl rfl ?_
      refine mj_lload_n dX11_worked_91 rfl rfl ?_
      refine mj_lcmp dX11_worked_92 ?_
      refine mj_if_ne (tgt := 100) dX11_worked_93 (by decide) ⟨fun hc => ?_, fun hc => ?_⟩
      · replace h := h.1 hc
        refine mj_iconst (v := 0) dX11_worked_100 (by decide) ?_
        exact mj_reti dX11_worked_101 rfl ⟨Nat.le_of_ble_eq_true rfl, Nat.le_of_ble_eq_true rfl⟩ h
      · replace h := h.2 hc
        refine mj_iconst (v := 1) dX11_worked_96 (by decide) ?_
        refine mj_goto (tgt := 101) dX11_worked_97 (by decide) ?_
        exact mj_reti dX11_worked_101 rfl ⟨Nat.le_of_ble_eq_true rfl, Nat.le_of_ble_eq_true rfl⟩ h
    · replace h := h.2.2.2.2.2.1 e
      refine mj_tabIn (tgt := 102) (off := 101) dX11_worked_1 (by omega) (by omega) (by rw [e]; rfl) (by decide) ?_
      refine mj_lload_n dX11_worked_102 rfl rfl ?_
      refine mj_lload_n dX11_worked_103 rfl rfl ?_
      refine mj_lcmp dX11_worked_104 ?_
      refine mj_if_ge (tgt := 112) dX11_worked_105 (by decide) ⟨fun hc => ?_, fun hc => ?_⟩
      · replace h := h.1 hc
        refine mj_iconst (v := 0) dX11_worked_112 (by decide) ?_
        exact mj_reti dX11_worked_113 rfl ⟨Nat.le_of_ble_eq_true rfl, Nat.le_of_ble_eq_true rfl⟩ h
      · replace h := h.2 hc
        refine mj_iconst (v := 1) dX11_worked_108 (by decide) ?_
        refine mj_goto (tgt := 113) dX11_worked_109 (by decide) ?_
        exact mj_reti dX11_worked_113 rfl ⟨Nat.le_of_ble_eq_true rfl, Nat.le_of_ble_eq_true rfl⟩ h
    · replace h := h.2.2.2.2.2.2.1 e
      refine mj_tabIn (tgt := 114) (off := 113) dX11_worked_1 (by omega) (by omega) (by rw [e]; rfl) (by decide) ?_
      refine mj_lload_n dX11_worked_114 rfl rfl ?_
      refine mj_lload_n dX11_worked_115 rfl rfl ?_
      refine mj_lcmp dX11_worked_116 ?_
      refine mj_if_le (tgt := 124) dX11_worked_117 (by decide) ⟨fun hc => ?_, fun hc => ?_⟩
      · replace h := h.1 hc
        refine mj_iconst (v := 0) dX11_worked_124 (by decide) ?_
        exact mj_reti dX11_worked_125 rfl ⟨Nat.le_of_ble_eq_true rfl, Nat.le_of_ble_eq_true rfl⟩ h
      · replace h := h.2 hc
        refine mj_iconst (v := 1) dX11_worked_120 (by decide) ?_
        refine mj_goto (tgt := 125) dX11_worked_121 (by decide) ?_
        exact mj_reti dX11_worked_125 rfl ⟨Nat.le_of_ble_eq_true rfl, Nat.le_of_ble_eq_true rfl⟩ h
    · replace h := h.2.2.2.2.2.2.2.1 e
      refine mj_tabIn (tgt := 144) (off := 143) dX11_worked_1 (by omega) (by omega) (by rw [e]; rfl) (by decide) ?_
      exact mj_lessm [false, true, false, true, false] rfl h
    · replace h := h.2.2.2.2.2.2.2.2 e
      refine mj_tabIn (tgt := 126) (off := 125) dX11_worked_1 (by omega) (by omega) (by rw [e]; rfl) (by decide) ?_
      refine mj_lload_n dX11_worked_126 rfl rfl ?_
      refine mj_lconst (v := 0) dX11_worked_127 (by decide) ?_
      refine mj_lcmp dX11_worked_128 ?_
      refine mj_if_eq (tgt := 142) dX11_worked_129 (by decide) ⟨fun hc => ?_, fun hc => ?_⟩
      · replace h := h.1 hc
        refine mj_iconst (v := 0) dX11_worked_142 (by decide) ?_
        exact mj_reti dX11_worked_143 rfl ⟨Nat.le_of_ble_eq_true rfl, Nat.le_of_ble_eq_true rfl⟩ h
      · replace h := h.2 hc
        refine mj_lload_n dX11_worked_132 rfl rfl ?_
        refine mj_lconst (v := 0) dX11_worked_133 (by decide) ?_
        refine mj_lcmp dX11_worked_134 ?_
        refine mj_if_eq (tgt := 142) dX11_worked_135 (by decide) ⟨fun hc => ?_, fun hc => ?_⟩
        · replace h := h.1 hc
          refine mj_iconst (v := 0) dX11_worked_142 (by decide) ?_
          exact mj_reti dX11_worked_143 rfl ⟨Nat.le_of_ble_eq_true rfl, Nat.le_of_ble_eq_true rfl⟩ h
        · replace h := h.2 hc
          refine mj_iconst (v := 1) dX11_worked_138 (by decide) ?_
          refine mj_goto (tgt := 143) dX11_worked_139 (by decide) ?_
          exact mj_reti dX11_worked_143 rfl ⟨Nat.le_of_ble_eq_true rfl, Nat.le_of_ble_eq_true rfl⟩ h
set_option maxRecDepth 20000 in
set_option maxHeartbeats 1000000 in
theorem b_X11_worked_144 {l : Launch} {G : mj_G} {y1 : Int64} {y3 : Int64} {S : mj_S} {Q : mj_S → Int32 → Prop} (h : ((¬ (lg_cmp y1 (0 : Int64)) = 0) → Q S (1 : Int32)) ∧ (((lg_cmp y1 (0 : Int64)) = 0) → (((lg_cmp y3 (0 : Int64)) = 0) → Q S (0 : Int32)) ∧ ((¬ ((lg_cmp y3 (0 : Int64)) = 0)) → Q S (1 : Int32)))) : V_X11_worked_144 l G y1 y3 S Q := by
  refine mj_lload_n dX11_worked_144 rfl rfl ?_
  refine mj_lconst (v := 0) dX11_worked_145 (by decide) ?_
  refine mj_lcmp dX11_worked_146 ?_
  refine mj_if_ne (tgt := 156) dX11_worked_147 (by decide) ⟨fun hc => ?_, fun hc => ?_⟩
  · replace h := h.1 hc
    refine mj_iconst (v := 1) dX11_worked_156 (by decide) ?_
    refine mj_goto (tgt := 161) dX11_worked_157 (by decide) ?_
    exact mj_reti dX11_worked_161 rfl ⟨Nat.le_of_ble_eq_true rfl, Nat.le_of_ble_eq_true rfl⟩ h
  · replace h := h.2 hc
    refine mj_lload_n dX11_worked_150 rfl rfl ?_
    refine mj_lconst (v := 0) dX11_worked_151 (by decide) ?_
    refine mj_lcmp dX11_worked_152 ?_
    refine mj_if_eq (tgt := 160) dX11_worked_153 (by decide) ⟨fun hc => ?_, fun hc => ?_⟩
    · replace h := h.1 hc
      refine mj_iconst (v := 0) dX11_worked_160 (by decide) ?_
      exact mj_reti dX11_worked_161 rfl ⟨Nat.le_of_ble_eq_true rfl, Nat.le_of_ble_eq_true rfl⟩ h
    · replace h := h.2 hc
      refine mj_iconst (v := 1) dX11_worked_156 (by decide) ?_
      refine mj_goto (tgt := 161) dX11_worked_157 (by decide) ?_
      exact mj_reti dX11_worked_161 rfl ⟨Nat.le_of_ble_eq_true rfl, Nat.le_of_ble_eq_true rfl⟩ h
