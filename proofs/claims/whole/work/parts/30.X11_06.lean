abbrev V_X11_lead_0 (l : Launch) (G : mj_G) (a0 : Nat) (x1 : Int32) (S : mj_S) (Q : mj_S → Int32 → Prop) : Prop := mj_V l G (mj_room 5 0 0) RX11 cX11_lead 2 (some .int) false 0 [some (.ref a0), some (.int x1)] [] S 0 0 (mj_std G (some .int) (mj_room 5 0 0) (mj_qi Q))
theorem e_X11_lead {l : Launch} {G : mj_G} {a0 : Nat} {x1 : Int32} {S : mj_S} {Q : mj_S → Int32 → Prop} (h : V_X11_lead_0 l G a0 x1 S Q) : M_X11_lead l G a0 x1 S Q := mj_enter (r := 0) (ini := false) (by decide +kernel) (fun h => by cases h) (fun _ => Nat.le_of_ble_eq_true rfl) rfl h
set_option maxRecDepth 20000 in
set_option maxHeartbeats 1000000 in
theorem b_X11_lead_0 {l : Launch} {G : mj_G} {a0 : Nat} {x1 : Int32} {S : mj_S} {Q : mj_S → Int32 → Prop} (hk_a0 : m_kd S a0 = 10) (h : (((m_gi S a0 25) ≤ 0) → Q S (-1 : Int32)) ∧ ((¬ ((m_gi S a0 25) ≤ 0)) → M_X11_in l G x1 (0 : Int32) (9 : Int32) S (fun S1 r2 => ((r2 = 0) → Q S1 (-1 : Int32)) ∧ ((¬ (r2 = 0)) → M_X11_lowEnough l G a0 x1 S1 (fun S3 r4 => Q S3 r4))))) : V_X11_lead_0 l G a0 x1 S Q := by
  refine mj_aload_n dX11_lead_0 rfl rfl ?_
  refine mj_getI dX11_lead_1 fl_X11_267_10 hk_a0 rfl ?_
  refine mj_if_le (tgt := 25) dX11_lead_4 (by decide) ⟨fun hc => ?_, fun hc => ?_⟩
  · replace h := h.1 hc
    refine mj_iconst (v := (-1)) dX11_lead_25 (by decide) ?_
    exact mj_reti dX11_lead_26 rfl ⟨Nat.le_of_ble_eq_true rfl, Nat.le_of_ble_eq_true rfl⟩ h
  · replace h := h.2 hc
    refine mj_iload_n dX11_lead_7 rfl rfl ?_
    refine mj_iconst (v := 0) dX11_lead_8 (by decide) ?_
    refine mj_bipush (v := 9) dX11_lead_9 (by decide) ?_
    refine mj_callSi (as := [.int x1, .int (0 : Int32), .int (9 : Int32)]) (st := []) dX11_lead_11 cal_X11_in lk_X11_217 sm_X11_in h rfl (Nat.le_of_ble_eq_true rfl) (by decide) ⟨Nat.le_of_ble_eq_true rfl, Nat.le_of_ble_eq_true rfl⟩ (fun S1 r2 h hn_r2 hp => ?_)
    have hk_a0 : m_kd S1 a0 = 10 := m_kd_pre hp hk_a0 (by decide)
    refine mj_if_eq (tgt := 25) dX11_lead_14 (by decide) ⟨fun hc => ?_, fun hc => ?_⟩
    · replace h := h.1 hc
      refine mj_iconst (v := (-1)) dX11_lead_25 (by decide) ?_
      exact mj_reti dX11_lead_26 rfl ⟨Nat.le_of_ble_eq_true rfl, Nat.le_of_ble_eq_true rfl⟩ h
    · replace h := h.2 hc
      refine mj_aload_n dX11_lead_17 rfl rfl ?_
      refine mj_iload_n dX11_lead_18 rfl rfl ?_
      refine mj_callVi (as := [.int x1]) (st := []) dX11_lead_19 cal_X11_lowEnough lk_X11_412 im_X11_lowEnough se_X11_lowEnough (ci := 10) rfl (by decide) hk_a0 h rfl (Nat.le_of_ble_eq_true rfl) (by decide) ⟨Nat.le_of_ble_eq_true rfl, Nat.le_of_ble_eq_true rfl⟩ (fun S3 r4 h hn_r4 hp => ?_)
      have hk_a0 : m_kd S3 a0 = 10 := m_kd_pre hp hk_a0 (by decide)
      refine mj_goto (tgt := 26) dX11_lead_22 (by decide) ?_
      exact mj_reti dX11_lead_26 rfl ⟨Nat.le_of_ble_eq_true rfl, Nat.le_of_ble_eq_true rfl⟩ h
abbrev V_X11_putAside_0 (l : Launch) (G : mj_G) (a0 : Nat) (S : mj_S) (Q : mj_S → Prop) : Prop := mj_V l G (mj_room 1 0 0) RX11 cX11_putAside 2 none false 0 [some (.ref a0), none] [] S 0 0 (mj_std G none (mj_room 1 0 0) (mj_qv Q))
abbrev V_X11_putAside_2 (l : Launch) (G : mj_G) (a0 : Nat) (x1 : Int32) (S : mj_S) (Q : mj_S → Prop) : Prop := mj_V l G (mj_room 1 0 0) RX11 cX11_putAside 2 none false 2 [some (.ref a0), some (.int x1)] [] S 0 0 (mj_std G none (mj_room 1 0 0) (mj_qv Q))
theorem e_X11_putAside {l : Launch} {G : mj_G} {a0 : Nat} {S : mj_S} {Q : mj_S → Prop} (h : V_X11_putAside_0 l G a0 S Q) : M_X11_putAside l G a0 S Q := mj_enter (r := 1) (ini := false) (by decide +kernel) (fun h => by cases h) (fun _ => Nat.le_of_ble_eq_true rfl) rfl h
set_option maxRecDepth 20000 in
set_option maxHeartbeats 1000000 in
theorem b_X11_putAside_0 {l : Launch} {G : mj_G} {a0 : Nat} {S : mj_S} {Q : mj_S → Prop} (hk_a0 : m_kd S a0 = 10) (h : V_X11_putAside_2 l G a0 (0 : Int32) S Q) : V_X11_putAside_0 l G a0 S Q := by
  refine mj_iconst (v := 0) dX11_putAside_0 (by decide) ?_
  refine mj_istore_n dX11_putAside_1 rfl (by decide) rfl rfl ?_
  exact h
set_option maxRecDepth 20000 in
set_option maxHeartbeats 1000000 in
theorem b_X11_putAside_2 {l : Launch} {G : mj_G} {a0 : Nat} {x1 : Int32} {S : mj_S} {Q : mj_S → Prop} (hk_a0 : m_kd S a0 = 10) (h : (((17 : Int32) < x1) → Q S) ∧ ((¬ ((17 : Int32) < x1)) → ∃ b1, m_gp S a0 39 = some b1 ∧ (∃ b2, m_gp S a0 28 = some b2 ∧ (vp_in x1 (m_ln S b2) ∧ (vp_in x1 (m_ln S b1) ∧ (∀ S3 : mj_S, S3 = m_si S b1 (x1).toNatClampNeg (m_gi S b2 (x1).toNatClampNeg) → ∀ v4 : Int32, v4 = x1 + (1 : Int32) → V_X11_putAside_2 l G a0 v4 S3 Q)))))) : V_X11_putAside_2 l G a0 x1 S Q := by
  refine mj_iload_n dX11_putAside_2 rfl rfl ?_
  refine mj_bipush (v := 17) dX11_putAside_3 (by decide) ?_
  refine mj_icmp_gt (tgt := 26) dX11_putAside_5 (by decide) ⟨fun hc => ?_, fun hc => ?_⟩
  · replace h := h.1 hc
    exact mj_retv dX11_putAside_26 rfl ⟨Nat.le_of_ble_eq_true rfl, Nat.le_of_ble_eq_true rfl⟩ h
  · replace h := h.2 hc
    refine mj_aload_n dX11_putAside_8 rfl rfl ?_
    obtain ⟨b1, eb1, h⟩ := h
    refine mj_getP dX11_putAside_9 fl_X11_83_10 hk_a0 rfl ⟨b1, eb1, fun hk_b1 => ?_⟩
    refine mj_iload_n dX11_putAside_12 rfl rfl ?_
    refine mj_aload_n dX11_putAside_13 rfl rfl ?_
    obtain ⟨b2, eb2, h⟩ := h
    refine mj_getP dX11_putAside_14 fl_X11_58_10 hk_a0 rfl ⟨b2, eb2, fun hk_b2 => ?_⟩
    refine mj_iload_n dX11_putAside_17 rfl rfl ?_
    refine mj_iald dX11_putAside_18 (Or.inl hk_b2) ⟨h.1, ?_⟩
    replace h := h.2
    refine mj_iast dX11_putAside_19 hk_b1 ⟨h.1, ?_⟩
    replace h := h.2
    obtain ⟨S3, eS3⟩ : ∃ z, z = m_si S b1 (x1).toNatClampNeg (m_gi S b2 (x1).toNatClampNeg) := ⟨_, rfl⟩
    rw [← eS3]
    replace h := h S3 eS3
    have hk_a0 : m_kd S3 a0 = 10 := by rw [eS3]; exact hk_a0
    have hk_b1 : m_kd S3 b1 = 100 := by rw [eS3]; exact hk_b1
    have hk_b2 : m_kd S3 b2 = 100 := by rw [eS3]; exact hk_b2
    obtain ⟨v4, ev4⟩ : ∃ z : Int32, z = x1 + (1 : Int32) := ⟨_, rfl⟩
    refine mj_iinc (v := v4) dX11_putAside_20 rfl (by rw [ev4]; rfl) (by decide) rfl rfl ?_
    replace h := h v4 ev4
    refine mj_goto (tgt := 2) dX11_putAside_23 (by decide) ?_
    exact h
abbrev V_X11_takeBack_0 (l : Launch) (G : mj_G) (a0 : Nat) (S : mj_S) (Q : mj_S → Prop) : Prop := mj_V l G (mj_room 1 0 0) RX11 cX11_takeBack 2 none false 0 [some (.ref a0), none] [] S 0 0 (mj_std G none (mj_room 1 0 0) (mj_qv Q))
abbrev V_X11_takeBack_2 (l : Launch) (G : mj_G) (a0 : Nat) (x1 : Int32) (S : mj_S) (Q : mj_S → Prop) : Prop := mj_V l G (mj_room 1 0 0) RX11 cX11_takeBack 2 none false 2 [some (.ref a0), some (.int x1)] [] S 0 0 (mj_std G none (mj_room 1 0 0) (mj_qv Q))
theorem e_X11_takeBack {l : Launch} {G : mj_G} {a0 : Nat} {S : mj_S} {Q : mj_S → Prop} (h : V_X11_takeBack_0 l G a0 S Q) : M_X11_takeBack l G a0 S Q := mj_enter (r := 1) (ini := false) (by decide +kernel) (fun h => by cases h) (fun _ => Nat.le_of_ble_eq_true rfl) rfl h
set_option maxRecDepth 20000 in
set_option maxHeartbeats 1000000 in
theorem b_X11_takeBack_0 {l : Launch} {G : mj_G} {a0 : Nat} {S : mj_S} {Q : mj_S → Prop} (hk_a0 : m_kd S a0 = 10) (h : V_X11_takeBack_2 l G a0 (0 : Int32) S Q) : V_X11_takeBack_0 l G a0 S Q := by
  refine mj_iconst (v := 0) dX11_takeBack_0 (by decide) ?_
  refine mj_istore_n dX11_takeBack_1 rfl (by decide) rfl rfl ?_
  exact h
set_option maxRecDepth 20000 in
set_option maxHeartbeats 1000000 in
theorem b_X11_takeBack_2 {l : Launch} {G : mj_G} {a0 : Nat} {x1 : Int32} {S : mj_S} {Q : mj_S → Prop} (hk_a0 : m_kd S a0 = 10) (h : (((17 : Int32) < x1) → Q S) ∧ ((¬ ((17 : Int32) < x1)) → ∃ b1, m_gp S a0 28 = some b1 ∧ (∃ b2, m_gp S a0 39 = some b2 ∧ (vp_in x1 (m_ln S b2) ∧ (vp_in x1 (m_ln S b1) ∧ (∀ S3 : mj_S, S3 = m_si S b1 (x1).toNatClampNeg (m_gi S b2 (x1).toNatClampNeg) → ∀ v4 : Int32, v4 = x1 + (1 : Int32) → V_X11_takeBack_2 l G a0 v4 S3 Q)))))) : V_X11_takeBack_2 l G a0 x1 S Q := by
  refine mj_iload_n dX11_takeBack_2 rfl rfl ?_
  refine mj_bipush (v := 17) dX11_takeBack_3 (by decide) ?_
  refine mj_icmp_gt (tgt := 26) dX11_takeBack_5 (by decide) ⟨fun hc => ?_, fun hc => ?_⟩
  · replace h := h.1 hc
    exact mj_retv dX11_takeBack_26 rfl ⟨Nat.le_of_ble_eq_true rfl, Nat.le_of_ble_eq_true rfl⟩ h
  · replace h := h.2 hc
    refine mj_aload_n dX11_takeBack_8 rfl rfl ?_
    obtain ⟨b1, eb1, h⟩ := h
    refine mj_getP dX11_takeBack_9 fl_X11_58_10 hk_a0 rfl ⟨b1, eb1, fun hk_b1 => ?_⟩
    refine mj_iload_n dX11_takeBack_12 rfl rfl ?_
    refine mj_aload_n dX11_takeBack_13 rfl rfl ?_
    obtain ⟨b2, eb2, h⟩ := h
    refine mj_getP dX11_takeBack_14 fl_X11_83_10 hk_a0 rfl ⟨b2, eb2, fun hk_b2 => ?_⟩
    refine mj_iload_n dX11_takeBack_17 rfl rfl ?_
    refine mj_iald dX11_takeBack_18 (Or.inl hk_b2) ⟨h.1, ?_⟩
    replace h := h.2
    refine mj_iast dX11_takeBack_19 hk_b1 ⟨h.1, ?_⟩
    replace h := h.2
    obtain ⟨S3, eS3⟩ : ∃ z, z = m_si S b1 (x1).toNatClampNeg (m_gi S b2 (x1).toNatClampNeg) := ⟨_, rfl⟩
    rw [← eS3]
    replace h := h S3 eS3
    have hk_a0 : m_kd S3 a0 = 10 := by rw [eS3]; exact hk_a0
    have hk_b1 : m_kd S3 b1 = 100 := by rw [eS3]; exact hk_b1
    have hk_b2 : m_kd S3 b2 = 100 := by rw [eS3]; exact hk_b2
    obtain ⟨v4, ev4⟩ : ∃ z : Int32, z = x1 + (1 : Int32) := ⟨_, rfl⟩
    refine mj_iinc (v := v4) dX11_takeBack_20 rfl (by rw [ev4]; rfl) (by decide) rfl rfl ?_
    replace h := h v4 ev4
    refine mj_goto (tgt := 2) dX11_takeBack_23 (by decide) ?_
    exact h
abbrev V_X11_first_0 (l : Launch) (G : mj_G) (a0 : Nat) (x1 : Int32) (S : mj_S) (Q : mj_S → Int32 → Prop) : Prop := mj_V l G (mj_room 10 0 0) RX11 cX11_first 4 (some .int) false 0 [some (.ref a0), some (.int x1), none, none] [] S 0 0 (mj_std G (some .int) (mj_room 10 0 0) (mj_qi Q))
abbrev V_X11_first_26 (l : Launch) (G : mj_G) (a0 : Nat) (x1 : Int32) (x2 : Int32) (x3 : Int32) (S : mj_S) (Q : mj_S → Int32 → Prop) : Prop := mj_V l G (mj_room 10 0 0) RX11 cX11_first 4 (some .int) false 26 [some (.ref a0), some (.int x1), some (.int x2), some (.int x3)] [] S 0 0 (mj_std G (some .int) (mj_room 10 0 0) (mj_qi Q))
abbrev V_X11_first_48 (l : Launch) (G : mj_G) (a0 : Nat) (x1 : Int32) (x2 : Int32) (x3 : Int32) (S : mj_S) (Q : mj_S → Int32 → Prop) : Prop := mj_V l G (mj_room 10 0 0) RX11 cX11_first 4 (some .int) false 48 [some (.ref a0), some (.int x1), some (.int x2), some (.int x3)] [] S 0 0 (mj_std G (some .int) (mj_room 10 0 0) (mj_qi Q))
theorem e_X11_first {l : Launch} {G : mj_G} {a0 : Nat} {x1 : Int32} {S : mj_S} {Q : mj_S → Int32 → Prop} (h : V_X11_first_0 l G a0 x1 S Q) : M_X11_first l G a0 x1 S Q := mj_enter (r := 2) (ini := false) (by decide +kernel) (fun h => by cases h) (fun _ => Nat.le_of_ble_eq_true rfl) rfl h
set_option maxRecDepth 20000 in
set_option maxHeartbeats 1000000 in
theorem b_X11_first_0 {l : Launch} {G : mj_G} {a0 : Nat} {x1 : Int32} {S : mj_S} {Q : mj_S → Int32 → Prop} (hk_a0 : m_kd S a0 = 10) (h : (((m_gi S a0 25) = 0) → Q S (-1 : Int32)) ∧ ((¬ ((m_gi S a0 25) = 0)) → M_X11_in l G x1 (0 : Int32) (1 : Int32) S (fun S1 r2 => ((¬ r2 = 0) → M_X11_putAside l G a0 S1 (fun S3 => V_X11_first_26 l G a0 x1 (0 : Int32) (0 : Int32) S3 Q)) ∧ ((r2 = 0) → Q S1 (-1 : Int32))))) : V_X11_first_0 l G a0 x1 S Q := by
  refine mj_aload_n dX11_first_0 rfl rfl ?_
  refine mj_getI dX11_first_1 fl_X11_267_10 hk_a0 rfl ?_
  refine mj_if_eq (tgt := 16) dX11_first_4 (by decide) ⟨fun hc => ?_, fun hc => ?_⟩
  · replace h := h.1 hc
    refine mj_iconst (v := (-1)) dX11_first_16 (by decide) ?_
    exact mj_reti dX11_first_17 rfl ⟨Nat.le_of_ble_eq_true rfl, Nat.le_of_ble_eq_true rfl⟩ h
  · replace h := h.2 hc
    refine mj_iload_n dX11_first_7 rfl rfl ?_
    refine mj_iconst (v := 0) dX11_first_8 (by decide) ?_
    refine mj_iconst (v := 1) dX11_first_9 (by decide) ?_
    refine mj_callSi (as := [.int x1, .int (0 : Int32), .int (1 : Int32)]) (st := []) dX11_first_10 cal_X11_in lk_X11_217 sm_X11_in h rfl (Nat.le_of_ble_eq_true rfl) (by decide) ⟨Nat.le_of_ble_eq_true rfl, Nat.le_of_ble_eq_true rfl⟩ (fun S1 r2 h hn_r2 hp => ?_)
    have hk_a0 : m_kd S1 a0 = 10 := m_kd_pre hp hk_a0 (by decide)
    refine mj_if_ne (tgt := 18) dX11_first_13 (by decide) ⟨fun hc => ?_, fun hc => ?_⟩
    · replace h := h.1 hc
      refine mj_aload_n dX11_first_18 rfl rfl ?_
      refine mj_callVv (as := []) (st := []) dX11_first_19 cal_X11_putAside lk_X11_415 im_X11_putAside se_X11_putAside (ci := 10) rfl (by decide) hk_a0 h rfl (Nat.le_of_ble_eq_true rfl) (by decide) ⟨Nat.le_of_ble_eq_true rfl, Nat.le_of_ble_eq_true rfl⟩ (fun S3 h hp => ?_)
      have hk_a0 : m_kd S3 a0 = 10 := m_kd_pre hp hk_a0 (by decide)
      refine mj_iconst (v := 0) dX11_first_22 (by decide) ?_
      refine mj_istore_n dX11_first_23 rfl (by decide) rfl rfl ?_
      refine mj_iconst (v := 0) dX11_first_24 (by decide) ?_
      refine mj_istore_n dX11_first_25 rfl (by decide) rfl rfl ?_
      exact h
    · replace h := h.2 hc
      refine mj_iconst (v := (-1)) dX11_first_16 (by decide) ?_
      exact mj_reti dX11_first_17 rfl ⟨Nat.le_of_ble_eq_true rfl, Nat.le_of_ble_eq_true rfl⟩ h
set_option maxRecDepth 20000 in
set_option maxHeartbeats 1000000 in
theorem b_X11_first_26 {l : Launch} {G : mj_G} {a0 : Nat} {x1 : Int32} {x2 : Int32} {x3 : Int32} {S : mj_S} {Q : mj_S → Int32 → Prop} (hk_a0 : m_kd S a0 = 10) (h : (((200 : Int32) ≤ x2) → V_X11_first_48 l G a0 x1 x2 x3 S Q) ∧ ((¬ ((200 : Int32) ≤ x2)) → ((¬ x3 = 0) → V_X11_first_48 l G a0 x1 x2 x3 S Q) ∧ ((x3 = 0) → M_X11_live l G a0 S (fun S1 r2 => ∀ v3 : Int32, v3 = x2 + (1 : Int32) → V_X11_first_26 l G a0 x1 v3 r2 S1 Q)))) : V_X11_first_26 l G a0 x1 x2 x3 S Q := by
  refine mj_iload_n dX11_first_26 rfl rfl ?_
  refine mj_sipush (v := 200) dX11_first_27 (by decide) ?_
  refine mj_icmp_ge (tgt := 48) dX11_first_30 (by decide) ⟨fun hc => ?_, fun hc => ?_⟩
  · replace h := h.1 hc
    exact h
  · replace h := h.2 hc
    refine mj_iload_n dX11_first_33 rfl rfl ?_
    refine mj_if_ne (tgt := 48) dX11_first_34 (by decide) ⟨fun hc => ?_, fun hc => ?_⟩
    · replace h := h.1 hc
      exact h
    · replace h := h.2 hc
      refine mj_aload_n dX11_first_37 rfl rfl ?_
      refine mj_callVi (as := []) (st := []) dX11_first_38 cal_X11_live lk_X11_371 im_X11_live se_X11_live (ci := 10) rfl (by decide) hk_a0 h rfl (Nat.le_of_ble_eq_true rfl) (by decide) ⟨Nat.le_of_ble_eq_true rfl, Nat.le_of_ble_eq_true rfl⟩ (fun S1 r2 h hn_r2 hp => ?_)
      have hk_a0 : m_kd S1 a0 = 10 := m_kd_pre hp hk_a0 (by decide)
      refine mj_istore_n dX11_first_41 rfl (by decide) rfl rfl ?_
      obtain ⟨v3, ev3⟩ : ∃ z : Int32, z = x2 + (1 : Int32) := ⟨_, rfl⟩
      refine mj_iinc (v := v3) dX11_first_42 rfl (by rw [ev3]; rfl) (by decide) rfl rfl ?_
      replace h := h v3 ev3
      refine mj_goto (tgt := 26) dX11_first_45 (by decide) ?_
      exact h
set_option maxRecDepth 20000 in
set_option maxHeartbeats 1000000 in
theorem b_X11_first_48 {l : Launch} {G : mj_G} {a0 : Nat} {x1 : Int32} {x2 : Int32} {x3 : Int32} {S : mj_S} {Q : mj_S → Int32 → Prop} (hk_a0 : m_kd S a0 = 10) (h : M_X11_takeBack l G a0 S (fun S1 => ((¬ x3 = 0) → ((¬ x1 = 0) → Q S1 x2) ∧ ((x1 = 0) → M_X11_nameOf l G a0 x3 S1 (fun S2 r3 => Q S2 r3))) ∧ ((x3 = 0) → Q S1 (-1 : Int32)))) : V_X11_first_48 l G a0 x1 x2 x3 S Q := by
  refine mj_aload_n dX11_first_48 rfl rfl ?_
  refine mj_callVv (as := []) (st := []) dX11_first_49 cal_X11_takeBack lk_X11_418 im_X11_takeBack se_X11_takeBack (ci := 10) rfl (by decide) hk_a0 h rfl (Nat.le_of_ble_eq_true rfl) (by decide) ⟨Nat.le_of_ble_eq_true rfl, Nat.le_of_ble_eq_true rfl⟩ (fun S1 h hp => ?_)
  have hk_a0 : m_kd S1 a0 = 10 := m_kd_pre hp hk_a0 (by decide)
  refine mj_iload_n dX11_first_52 rfl rfl ?_
  refine mj_if_ne (tgt := 60) dX11_first_53 (by decide) ⟨fun hc => ?_, fun hc => ?_⟩
  · replace h := h.1 hc
    refine mj_iload_n dX11_first_60 rfl rfl ?_
    refine mj_if_ne (tgt := 72) dX11_first_61 (by decide) ⟨fun hc => ?_, fun hc => ?_⟩
    · replace h := h.1 hc
      refine mj_iload_n dX11_first_72 rfl rfl ?_
      exact mj_reti dX11_first_73 rfl ⟨Nat.le_of_ble_eq_true rfl, Nat.le_of_ble_eq_true rfl⟩ h
    · replace h := h.2 hc
      refine mj_aload_n dX11_first_64 rfl rfl ?_
      refine mj_iload_n dX11_first_65 rfl rfl ?_
      refine mj_callVi (as := [.int x3]) (st := []) dX11_first_66 cal_X11_nameOf lk_X11_325 im_X11_nameOf se_X11_nameOf (ci := 10) rfl (by decide) hk_a0 h rfl (Nat.le_of_ble_eq_true rfl) (by decide) ⟨Nat.le_of_ble_eq_true rfl, Nat.le_of_ble_eq_true rfl⟩ (fun S2 r3 h hn_r3 hp => ?_)
      have hk_a0 : m_kd S2 a0 = 10 := m_kd_pre hp hk_a0 (by decide)
      refine mj_goto (tgt := 73) dX11_first_69 (by decide) ?_
      exact mj_reti dX11_first_73 rfl ⟨Nat.le_of_ble_eq_true rfl, Nat.le_of_ble_eq_true rfl⟩ h
  · replace h := h.2 hc
    refine mj_iconst (v := (-1)) dX11_first_56 (by decide) ?_
    refine mj_goto (tgt := 73) dX11_first_57 (by decide) ?_
    exact mj_reti dX11_first_73 rfl ⟨Nat.le_of_ble_eq_true rfl, Nat.le_of_ble_eq_true rfl⟩ h
abbrev V_X11_clothOfAll_0 (l : Launch) (G : mj_G) (a0 : Nat) (S : mj_S) (Q : mj_S → Int32 → Prop) : Prop := mj_V l G (mj_room 1 0 0) RX11 cX11_clothOfAll 3 (some .int) false 0 [some (.ref a0), none, none] [] S 0 0 (mj_std G (some .int) (mj_room 1 0 0) (mj_qi Q))
abbrev V_X11_clothOfAll_4 (l : Launch) (G : mj_G) (a0 : Nat) (x1 : Int32) (x2 : Int32) (S : mj_S) (Q : mj_S → Int32 → Prop) : Prop := mj_V l G (mj_room 1 0 0) RX11 cX11_clothOfAll 3 (some .int) false 4 [some (.ref a0), some (.int x1), some (.int x2)] [] S 0 0 (mj_std G (some .int) (mj_room 1 0 0) (mj_qi Q))
theorem e_X11_clothOfAll {l : Launch} {G : mj_G} {a0 : Nat} {S : mj_S} {Q : mj_S → Int32 → Prop} (h : V_X11_clothOfAll_0 l G a0 S Q) : M_X11_clothOfAll l G a0 S Q := mj_enter (r := 2) (ini := false) (by decide +kernel) (fun h => by cases h) (fun _ => Nat.le_of_ble_eq_true rfl) rfl h
set_option maxRecDepth 20000 in
set_option maxHeartbeats 1000000 in
theorem b_X11_clothOfAll_0 {l : Launch} {G : mj_G} {a0 : Nat} {S : mj_S} {Q : mj_S → Int32 → Prop} (hk_a0 : m_kd S a0 = 10) (h : V_X11_clothOfAll_4 l G a0 (0 : Int32) (0 : Int32) S Q) : V_X11_clothOfAll_0 l G a0 S Q := by
  refine mj_iconst (v := 0) dX11_clothOfAll_0 (by decide) ?_
  refine mj_istore_n dX11_clothOfAll_1 rfl (by decide) rfl rfl ?_
  refine mj_iconst (v := 0) dX11_clothOfAll_2 (by decide) ?_
  refine mj_istore_n dX11_clothOfAll_3 rfl (by decide) rfl rfl ?_
  exact h
set_option maxRecDepth 20000 in
set_option maxHeartbeats 1000000 in
theorem b_X11_clothOfAll_4 {l : Launch} {G : mj_G} {a0 : Nat} {x1 : Int32} {x2 : Int32} {S : mj_S} {Q : mj_S → Int32 → Prop} (hk_a0 : m_kd S a0 = 10) (h : (((m_gi S a0 26) ≤ x2) → Q S x1) ∧ ((¬ ((m_gi S a0 26) ≤ x2)) → ∃ b1, m_gp S a0 28 = some b1 ∧ (vp_in ((0 : Int32) + x2) (m_ln S b1) ∧ (∀ v2 : Int32, v2 = (x1 + (m_gi S b1 (((0 : Int32) + x2)).toNatClampNeg)) → ∀ v3 : Int32, v3 = x2 + (1 : Int32) → V_X11_clothOfAll_4 l G a0 v2 v3 S Q)))) : V_X11_clothOfAll_4 l G a0 x1 x2 S Q := by
  refine mj_iload_n dX11_clothOfAll_4 rfl rfl ?_
  refine mj_aload_n dX11_clothOfAll_5 rfl rfl ?_
  refine mj_getI dX11_clothOfAll_6 fl_X11_261_10 hk_a0 rfl ?_
  refine mj_icmp_ge (tgt := 29) dX11_clothOfAll_9 (by decide) ⟨fun hc => ?_, fun hc => ?_⟩
  · replace h := h.1 hc
    refine mj_iload_n dX11_clothOfAll_29 rfl rfl ?_
    exact mj_reti dX11_clothOfAll_30 rfl ⟨Nat.le_of_ble_eq_true rfl, Nat.le_of_ble_eq_true rfl⟩ h
  · replace h := h.2 hc
    refine mj_iload_n dX11_clothOfAll_12 rfl rfl ?_
    refine mj_aload_n dX11_clothOfAll_13 rfl rfl ?_
    obtain ⟨b1, eb1, h⟩ := h
    refine mj_getP dX11_clothOfAll_14 fl_X11_58_10 hk_a0 rfl ⟨b1, eb1, fun hk_b1 => ?_⟩
    refine mj_iconst (v := 0) dX11_clothOfAll_17 (by decide) ?_
    refine mj_iload_n dX11_clothOfAll_18 rfl rfl ?_
    refine mj_iadd dX11_clothOfAll_19 ?_
    refine mj_iald dX11_clothOfAll_20 (Or.inl hk_b1) ⟨h.1, ?_⟩
    replace h := h.2
    refine mj_iadd dX11_clothOfAll_21 ?_
    refine mj_nmi (fun v2 ev2 => ?_)
    replace h := h v2 ev2
    refine mj_istore_n dX11_clothOfAll_22 rfl (by decide) rfl rfl ?_
    obtain ⟨v3, ev3⟩ : ∃ z : Int32, z = x2 + (1 : Int32) := ⟨_, rfl⟩
    refine mj_iinc (v := v3) dX11_clothOfAll_23 rfl (by rw [ev3]; rfl) (by decide) rfl rfl ?_
    replace h := h v3 ev3
    refine mj_goto (tgt := 4) dX11_clothOfAll_26 (by decide) ?_
    exact h
abbrev V_X11_cloth_0 (l : Launch) (G : mj_G) (a0 : Nat) (x1 : Int32) (S : mj_S) (Q : mj_S → Int32 → Prop) : Prop := mj_V l G (mj_room 10 0 0) RX11 cX11_cloth 4 (some .int) false 0 [some (.ref a0), some (.int x1), none, none] [] S 0 0 (mj_std G (some .int) (mj_room 10 0 0) (mj_qi Q))
abbrev V_X11_cloth_30 (l : Launch) (G : mj_G) (a0 : Nat) (x1 : Int32) (x2 : Int32) (x3 : Int32) (S : mj_S) (Q : mj_S → Int32 → Prop) : Prop := mj_V l G (mj_room 10 0 0) RX11 cX11_cloth 4 (some .int) false 30 [some (.ref a0), some (.int x1), some (.int x2), some (.int x3)] [] S 0 0 (mj_std G (some .int) (mj_room 10 0 0) (mj_qi Q))
theorem e_X11_cloth {l : Launch} {G : mj_G} {a0 : Nat} {x1 : Int32} {S : mj_S} {Q : mj_S → Int32 → Prop} (h : V_X11_cloth_0 l G a0 x1 S Q) : M_X11_cloth l G a0 x1 S Q := mj_enter (r := 2) (ini := false) (by decide +kernel) (fun h => by cases h) (fun _ => Nat.le_of_ble_eq_true rfl) rfl h
set_option maxRecDepth 20000 in
set_option maxHeartbeats 1000000 in
theorem b_X11_cloth_0 {l : Launch} {G : mj_G} {a0 : Nat} {x1 : Int32} {S : mj_S} {Q : mj_S → Int32 → Prop} (hk_a0 : m_kd S a0 = 10) (h : (((m_gi S a0 25) = 0) → Q S (-1 : Int32)) ∧ ((¬ ((m_gi S a0 25) = 0)) → M_X11_in l G x1 (1 : Int32) (60 : Int32) S (fun S1 r2 => ((¬ r2 = 0) → M_X11_clothOfAll l G a0 S1 (fun S3 r4 => M_X11_putAside l G a0 S3 (fun S5 => V_X11_cloth_30 l G a0 x1 r4 (0 : Int32) S5 Q))) ∧ ((r2 = 0) → Q S1 (-1 : Int32))))) : V_X11_cloth_0 l G a0 x1 S Q := by
  refine mj_aload_n dX11_cloth_0 rfl rfl ?_
  refine mj_getI dX11_cloth_1 fl_X11_267_10 hk_a0 rfl ?_
  refine mj_if_eq (tgt := 17) dX11_cloth_4 (by decide) ⟨fun hc => ?_, fun hc => ?_⟩
  · replace h := h.1 hc
    refine mj_iconst (v := (-1)) dX11_cloth_17 (by decide) ?_
    exact mj_reti dX11_cloth_18 rfl ⟨Nat.le_of_ble_eq_true rfl, Nat.le_of_ble_eq_true rfl⟩ h
  · replace h := h.2 hc
    refine mj_iload_n dX11_cloth_7 rfl rfl ?_
    refine mj_iconst (v := 1) dX11_cloth_8 (by decide) ?_
    refine mj_bipush (v := 60) dX11_cloth_9 (by decide) ?_
    refine mj_callSi (as := [.int x1, .int (1 : Int32), .int (60 : Int32)]) (st := []) dX11_cloth_11 cal_X11_in lk_X11_217 sm_X11_in h rfl (Nat.le_of_ble_eq_true rfl) (by decide) ⟨Nat.le_of_ble_eq_true rfl, Nat.le_of_ble_eq_true rfl⟩ (fun S1 r2 h hn_r2 hp => ?_)
    have hk_a0 : m_kd S1 a0 = 10 := m_kd_pre hp hk_a0 (by decide)
    refine mj_if_ne (tgt := 19) dX11_cloth_14 (by decide) ⟨fun hc => ?_, fun hc => ?_⟩
    · replace h := h.1 hc
      refine mj_aload_n dX11_cloth_19 rfl rfl ?_
      refine mj_callVi (as := []) (st := []) dX11_cloth_20 cal_X11_clothOfAll lk_X11_421 im_X11_clothOfAll se_X11_clothOfAll (ci := 10) rfl (by decide) hk_a0 h rfl (Nat.le_of_ble_eq_true rfl) (by decide) ⟨Nat.le_of_ble_eq_true rfl, Nat.le_of_ble_eq_true rfl⟩ (fun S3 r4 h hn_r4 hp => ?_)
      have hk_a0 : m_kd S3 a0 = 10 := m_kd_pre hp hk_a0 (by decide)
      refine mj_istore_n dX11_cloth_23 rfl (by decide) rfl rfl ?_
      refine mj_aload_n dX11_cloth_24 rfl rfl ?_
      refine mj_callVv (as := []) (st := []) dX11_cloth_25 cal_X11_putAside lk_X11_415 im_X11_putAside se_X11_putAside (ci := 10) rfl (by decide) hk_a0 h rfl (Nat.le_of_ble_eq_true rfl) (by decide) ⟨Nat.le_of_ble_eq_true rfl, Nat.le_of_ble_eq_true rfl⟩ (fun S5 h hp => ?_)
      have hk_a0 : m_kd S5 a0 = 10 := m_kd_pre hp hk_a0 (by decide)
      refine mj_iconst (v := 0) dX11_cloth_28 (by decide) ?_
      refine mj_istore_n dX11_cloth_29 rfl (by decide) rfl rfl ?_
      exact h
    · replace h := h.2 hc
      refine mj_iconst (v := (-1)) dX11_cloth_17 (by decide) ?_
      exact mj_reti dX11_cloth_18 rfl ⟨Nat.le_of_ble_eq_true rfl, Nat.le_of_ble_eq_true rfl⟩ h
set_option maxRecDepth 20000 in
set_option maxHeartbeats 1000000 in
theorem b_X11_cloth_30 {l : Launch} {G : mj_G} {a0 : Nat} {x1 : Int32} {x2 : Int32} {x3 : Int32} {S : mj_S} {Q : mj_S → Int32 → Prop} (hk_a0 : m_kd S a0 = 10) (h : ((x1 ≤ x3) → M_X11_clothOfAll l G a0 S (fun S1 r2 => ∀ v3 : Int32, v3 = (x2 - r2) → M_X11_takeBack l G a0 S1 (fun S4 => Q S4 v3))) ∧ ((¬ (x1 ≤ x3)) → M_X11_live l G a0 S (fun S5 r6 => ∀ v7 : Int32, v7 = x3 + (1 : Int32) → V_X11_cloth_30 l G a0 x1 x2 v7 S5 Q))) : V_X11_cloth_30 l G a0 x1 x2 x3 S Q := by
  refine mj_iload_n dX11_cloth_30 rfl rfl ?_
  refine mj_iload_n dX11_cloth_31 rfl rfl ?_
  refine mj_icmp_ge (tgt := 46) dX11_cloth_32 (by decide) ⟨fun hc => ?_, fun hc => ?_⟩
  · replace h := h.1 hc
    refine mj_iload_n dX11_cloth_46 rfl rfl ?_
    refine mj_aload_n dX11_cloth_47 rfl rfl ?_
    refine mj_callVi (as := []) (st := [.int x2]) dX11_cloth_48 cal_X11_clothOfAll lk_X11_421 im_X11_clothOfAll se_X11_clothOfAll (ci := 10) rfl (by decide) hk_a0 h rfl (Nat.le_of_ble_eq_true rfl) (by decide) ⟨Nat.le_of_ble_eq_true rfl, Nat.le_of_ble_eq_true rfl⟩ (fun S1 r2 h hn_r2 hp => ?_)
    have hk_a0 : m_kd S1 a0 = 10 := m_kd_pre hp hk_a0 (by decide)
    refine mj_isub dX11_cloth_51 ?_
    refine mj_nmi (fun v3 ev3 => ?_)
    replace h := h v3 ev3
    refine mj_istore_n dX11_cloth_52 rfl (by decide) rfl rfl ?_
    refine mj_aload_n dX11_cloth_53 rfl rfl ?_
    refine mj_callVv (as := []) (st := []) dX11_cloth_54 cal_X11_takeBack lk_X11_418 im_X11_takeBack se_X11_takeBack (ci := 10) rfl (by decide) hk_a0 h rfl (Nat.le_of_ble_eq_true rfl) (by decide) ⟨Nat.le_of_ble_eq_true rfl, Nat.le_of_ble_eq_true rfl⟩ (fun S4 h hp => ?_)
    have hk_a0 : m_kd S4 a0 = 10 := m_kd_pre hp hk_a0 (by decide)
    refine mj_iload_n dX11_cloth_57 rfl rfl ?_
    exact mj_reti dX11_cloth_58 rfl ⟨Nat.le_of_ble_eq_true rfl, Nat.le_of_ble_eq_true rfl⟩ h
  · replace h := h.2 hc
    refine mj_aload_n dX11_cloth_35 rfl rfl ?_
    refine mj_callVi (as := []) (st := []) dX11_cloth_36 cal_X11_live lk_X11_371 im_X11_live se_X11_live (ci := 10) rfl (by decide) hk_a0 h rfl (Nat.le_of_ble_eq_true rfl) (by decide) ⟨Nat.le_of_ble_eq_true rfl, Nat.le_of_ble_eq_true rfl⟩ (fun S5 r6 h hn_r6 hp => ?_)
    have hk_a0 : m_kd S5 a0 = 10 := m_kd_pre hp hk_a0 (by decide)
    refine mj_pop dX11_cloth_39 rfl ?_
    obtain ⟨v7, ev7⟩ : ∃ z : Int32, z = x3 + (1 : Int32) := ⟨_, rfl⟩
    refine mj_iinc (v := v7) dX11_cloth_40 rfl (by rw [ev7]; rfl) (by decide) rfl rfl ?_
    replace h := h v7 ev7
    refine mj_goto (tgt := 30) dX11_cloth_43 (by decide) ?_
    exact h
abbrev V_X11_turnOf_0 (l : Launch) (G : mj_G) (a0 : Nat) (x1 : Int32) (x2 : Int32) (S : mj_S) (Q : mj_S → Int32 → Prop) : Prop := mj_V l G (mj_room 7 0 0) RX11 cX11_turnOf 3 (some .int) false 0 [some (.ref a0), some (.int x1), some (.int x2)] [] S 0 0 (mj_std G (some .int) (mj_room 7 0 0) (mj_qi Q))
theorem e_X11_turnOf {l : Launch} {G : mj_G} {a0 : Nat} {x1 : Int32} {x2 : Int32} {S : mj_S} {Q : mj_S → Int32 → Prop} (h : V_X11_turnOf_0 l G a0 x1 x2 S Q) : M_X11_turnOf l G a0 x1 x2 S Q := mj_enter (r := 0) (ini := false) (by decide +kernel) (fun h => by cases h) (fun _ => Nat.le_of_ble_eq_true rfl) rfl h
set_option maxRecDepth 20000 in
set_option maxHeartbeats 1000000 in
theorem b_X11_turnOf_0 {l : Launch} {G : mj_G} {a0 : Nat} {x1 : Int32} {x2 : Int32} {S : mj_S} {Q : mj_S → Int32 → Prop} (hk_a0 : m_kd S a0 = 10) (h : M_X11_isCurtain l G a0 x2 S (fun S1 r2 => ((r2 = 0) → Q S1 (0 : Int32)) ∧ ((¬ (r2 = 0)) → M_X11_isFallen l G a0 x2 S1 (fun S3 r4 => ((¬ r4 = 0) → Q S3 (0 : Int32)) ∧ ((r4 = 0) → M_X11_hasRight l G a0 x1 x2 S3 (fun S5 r6 => ((r6 = 0) → Q S5 (0 : Int32)) ∧ ((¬ (r6 = 0)) → Q S5 ((1 : Int32) <<< (x2 &&& 31))))))))) : V_X11_turnOf_0 l G a0 x1 x2 S Q := by
  refine mj_aload_n dX11_turnOf_0 rfl rfl ?_
  refine mj_iload_n dX11_turnOf_1 rfl rfl ?_
  refine mj_callVi (as := [.int x2]) (st := []) dX11_turnOf_2 cal_X11_isCurtain lk_X11_295 im_X11_isCurtain se_X11_isCurtain (ci := 10) rfl (by decide) hk_a0 h rfl (Nat.le_of_ble_eq_true rfl) (by decide) ⟨Nat.le_of_ble_eq_true rfl, Nat.le_of_ble_eq_true rfl⟩ (fun S1 r2 h hn_r2 hp => ?_)
  have hk_a0 : m_kd S1 a0 = 10 := m_kd_pre hp hk_a0 (by decide)
  refine mj_if_eq (tgt := 31) dX11_turnOf_5 (by decide) ⟨fun hc => ?_, fun hc => ?_⟩
  · replace h := h.1 hc
    refine mj_iconst (v := 0) dX11_turnOf_31 (by decide) ?_
    exact mj_reti dX11_turnOf_32 rfl ⟨Nat.le_of_ble_eq_true rfl, Nat.le_of_ble_eq_true rfl⟩ h
  · replace h := h.2 hc
    refine mj_aload_n dX11_turnOf_8 rfl rfl ?_
    refine mj_iload_n dX11_turnOf_9 rfl rfl ?_
    refine mj_callVi (as := [.int x2]) (st := []) dX11_turnOf_10 cal_X11_isFallen lk_X11_298 im_X11_isFallen se_X11_isFallen (ci := 10) rfl (by decide) hk_a0 h rfl (Nat.le_of_ble_eq_true rfl) (by decide) ⟨Nat.le_of_ble_eq_true rfl, Nat.le_of_ble_eq_true rfl⟩ (fun S3 r4 h hn_r4 hp => ?_)
    have hk_a0 : m_kd S3 a0 = 10 := m_kd_pre hp hk_a0 (by decide)
    refine mj_if_ne (tgt := 31) dX11_turnOf_13 (by decide) ⟨fun hc => ?_, fun hc => ?_⟩
    · replace h := h.1 hc
      refine mj_iconst (v := 0) dX11_turnOf_31 (by decide) ?_
      exact mj_reti dX11_turnOf_32 rfl ⟨Nat.le_of_ble_eq_true rfl, Nat.le_of_ble_eq_true rfl⟩ h
    · replace h := h.2 hc
      refine mj_aload_n dX11_turnOf_16 rfl rfl ?_
      refine mj_iload_n dX11_turnOf_17 rfl rfl ?_
      refine mj_iload_n dX11_turnOf_18 rfl rfl ?_
      refine mj_callVi (as := [.int x1, .int x2]) (st := []) dX11_turnOf_19 cal_X11_hasRight lk_X11_353 im_X11_hasRight se_X11_hasRight (ci := 10) rfl (by decide) hk_a0 h rfl (Nat.le_of_ble_eq_true rfl) (by decide) ⟨Nat.le_of_ble_eq_true rfl, Nat.le_of_ble_eq_true rfl⟩ (fun S5 r6 h hn_r6 hp => ?_)
      have hk_a0 : m_kd S5 a0 = 10 := m_kd_pre hp hk_a0 (by decide)
      refine mj_if_eq (tgt := 31) dX11_turnOf_22 (by decide) ⟨fun hc => ?_, fun hc => ?_⟩
      · replace h := h.1 hc
        refine mj_iconst (v := 0) dX11_turnOf_31 (by decide) ?_
        exact mj_reti dX11_turnOf_32 rfl ⟨Nat.le_of_ble_eq_true rfl, Nat.le_of_ble_eq_true rfl⟩ h
      · replace h := h.2 hc
        refine mj_iconst (v := 1) dX11_turnOf_25 (by decide) ?_
        refine mj_iload_n dX11_turnOf_26 rfl rfl ?_
        refine mj_ishl dX11_turnOf_27 ?_
        refine mj_goto (tgt := 32) dX11_turnOf_28 (by decide) ?_
        exact mj_reti dX11_turnOf_32 rfl ⟨Nat.le_of_ble_eq_true rfl, Nat.le_of_ble_eq_true rfl⟩ h
abbrev V_X11_hasBy_0 (l : Launch) (G : mj_G) (a0 : Nat) (x1 : Int32) (x2 : Int32) (S : mj_S) (Q : mj_S → Int32 → Prop) : Prop := mj_V l G (mj_room 5 0 0) RX11 cX11_hasBy 4 (some .int) false 0 [some (.ref a0), some (.int x1), some (.int x2), none] [] S 0 0 (mj_std G (some .int) (mj_room 5 0 0) (mj_qi Q))
theorem e_X11_hasBy {l : Launch} {G : mj_G} {a0 : Nat} {x1 : Int32} {x2 : Int32} {S : mj_S} {Q : mj_S → Int32 → Prop} (h : V_X11_hasBy_0 l G a0 x1 x2 S Q) : M_X11_hasBy l G a0 x1 x2 S Q := mj_enter (r := 1) (ini := false) (by decide +kernel) (fun h => by cases h) (fun _ => Nat.le_of_ble_eq_true rfl) rfl h
set_option maxRecDepth 20000 in
set_option maxHeartbeats 1000000 in
theorem b_X11_hasBy_0 {l : Launch} {G : mj_G} {a0 : Nat} {x1 : Int32} {x2 : Int32} {S : mj_S} {Q : mj_S → Int32 → Prop} (hk_a0 : m_kd S a0 = 10) (h : ∃ b1, m_gp S a0 28 = some b1 ∧ (vp_in ((11 : Int32) + x1) (m_ln S b1) ∧ (M_X11_hanging l G a0 S (fun S2 r3 => M_X11_joinedBy l G a0 (m_gi S b1 (((11 : Int32) + x1)).toNatClampNeg) (r3 ^^^ x2) S2 (fun S4 r5 => M_J6_bitCount_0f7a4 l G r5 S4 (fun S6 r7 => M_X11_lordOf l G a0 r5 S6 (fun S8 r9 => ((¬ r9 = x1) → Q S8 (r7 * (1 : Int32))) ∧ ((r9 = x1) → Q S8 (r7 * (2 : Int32)))))))))) : V_X11_hasBy_0 l G a0 x1 x2 S Q := by
  refine mj_aload_n dX11_hasBy_0 rfl rfl ?_
  refine mj_aload_n dX11_hasBy_1 rfl rfl ?_
  obtain ⟨b1, eb1, h⟩ := h
  refine mj_getP dX11_hasBy_2 fl_X11_58_10 hk_a0 rfl ⟨b1, eb1, fun hk_b1 => ?_⟩
  refine mj_bipush (v := 11) dX11_hasBy_5 (by decide) ?_
  refine mj_iload_n dX11_hasBy_7 rfl rfl ?_
  refine mj_iadd dX11_hasBy_8 ?_
  refine mj_iald dX11_hasBy_9 (Or.inl hk_b1) ⟨h.1, ?_⟩
  replace h := h.2
  refine mj_aload_n dX11_hasBy_10 rfl rfl ?_
  refine mj_callVi (as := []) (st := [.int (m_gi S b1 (((11 : Int32) + x1)).toNatClampNeg), .ref a0]) dX11_hasBy_11 cal_X11_hanging lk_X11_314 im_X11_hanging se_X11_hanging (ci := 10) rfl (by decide) hk_a0 h rfl (Nat.le_of_ble_eq_true rfl) (by decide) ⟨Nat.le_of_ble_eq_true rfl, Nat.le_of_ble_eq_true rfl⟩ (fun S2 r3 h hn_r3 hp => ?_)
  have hk_a0 : m_kd S2 a0 = 10 := m_kd_pre hp hk_a0 (by decide)
  have hk_b1 : m_kd S2 b1 = 100 := m_kd_pre hp hk_b1 (by decide)
  refine mj_iload_n dX11_hasBy_14 rfl rfl ?_
  refine mj_ixor dX11_hasBy_15 ?_
  refine mj_callVi (as := [.int (m_gi S b1 (((11 : Int32) + x1)).toNatClampNeg), .int (r3 ^^^ x2)]) (st := []) dX11_hasBy_16 cal_X11_joinedBy lk_X11_317 im_X11_joinedBy se_X11_joinedBy (ci := 10) rfl (by decide) hk_a0 h rfl (Nat.le_of_ble_eq_true rfl) (by decide) ⟨Nat.le_of_ble_eq_true rfl, Nat.le_of_ble_eq_true rfl⟩ (fun S4 r5 h hn_r5 hp => ?_)
  have hk_a0 : m_kd S4 a0 = 10 := m_kd_pre hp hk_a0 (by decide)
  have hk_b1 : m_kd S4 b1 = 100 := m_kd_pre hp hk_b1 (by decide)
  refine mj_istore_n dX11_hasBy_19 rfl (by decide) rfl rfl ?_
  refine mj_iload_n dX11_hasBy_20 rfl rfl ?_
  refine mj_callSi (as := [.int r5]) (st := []) dX11_hasBy_21 cal_J6_bitCount_0f7a4 lk_X11_400 sm_J6_bitCount_0f7a4 h rfl (Nat.le_of_ble_eq_true rfl) (by decide) ⟨Nat.le_of_ble_eq_true rfl, Nat.le_of_ble_eq_true rfl⟩ (fun S6 r7 h hn_r7 hp => ?_)
  have hk_a0 : m_kd S6 a0 = 10 := m_kd_pre hp hk_a0 (by decide)
  have hk_b1 : m_kd S6 b1 = 100 := m_kd_pre hp hk_b1 (by decide)
  refine mj_aload_n dX11_hasBy_24 rfl rfl ?_
  refine mj_iload_n dX11_hasBy_25 rfl rfl ?_
  refine mj_callVi (as := [.int r5]) (st := [.int r7]) dX11_hasBy_26 cal_X11_lordOf lk_X11_347 im_X11_lordOf se_X11_lordOf (ci := 10) rfl (by decide) hk_a0 h rfl (Nat.le_of_ble_eq_true rfl) (by decide) ⟨Nat.le_of_ble_eq_true rfl, Nat.le_of_ble_eq_true rfl⟩ (fun S8 r9 h hn_r9 hp => ?_)
  have hk_a0 : m_kd S8 a0 = 10 := m_kd_pre hp hk_a0 (by decide)
  have hk_b1 : m_kd S8 b1 = 100 := m_kd_pre hp hk_b1 (by decide)
  refine mj_iload_n dX11_hasBy_29 rfl rfl ?_
  refine mj_icmp_ne (tgt := 37) dX11_hasBy_30 (by decide) ⟨fun hc => ?_, fun hc => ?_⟩
  · replace h := h.1 hc
    refine mj_iconst (v := 1) dX11_hasBy_37 (by decide) ?_
    refine mj_imul dX11_hasBy_38 ?_
    exact mj_reti dX11_hasBy_39 rfl ⟨Nat.le_of_ble_eq_true rfl, Nat.le_of_ble_eq_true rfl⟩ h
  · replace h := h.2 hc
    refine mj_iconst (v := 2) dX11_hasBy_33 (by decide) ?_
    refine mj_goto (tgt := 38) dX11_hasBy_34 (by decide) ?_
    refine mj_imul dX11_hasBy_38 ?_
    exact mj_reti dX11_hasBy_39 rfl ⟨Nat.le_of_ble_eq_true rfl, Nat.le_of_ble_eq_true rfl⟩ h
abbrev V_X11_gameOf_0 (l : Launch) (G : mj_G) (a0 : Nat) (x1 : Int32) (x2 : Int32) (x3 : Int32) (x4 : Int32) (x5 : Int32) (S : mj_S) (Q : mj_S → Int32 → Prop) : Prop := mj_V l G (mj_room 8 0 0) RX11 cX11_gameOf 6 (some .int) false 0 [some (.ref a0), some (.int x1), some (.int x2), some (.int x3), some (.int x4), some (.int x5)] [] S 0 0 (mj_std G (some .int) (mj_room 8 0 0) (mj_qi Q))
theorem e_X11_gameOf {l : Launch} {G : mj_G} {a0 : Nat} {x1 : Int32} {x2 : Int32} {x3 : Int32} {x4 : Int32} {x5 : Int32} {S : mj_S} {Q : mj_S → Int32 → Prop} (h : V_X11_gameOf_0 l G a0 x1 x2 x3 x4 x5 S Q) : M_X11_gameOf l G a0 x1 x2 x3 x4 x5 S Q := mj_enter (r := 0) (ini := false) (by decide +kernel) (fun h => by cases h) (fun _ => Nat.le_of_ble_eq_true rfl) rfl h
set_option maxRecDepth 20000 in
set_option maxHeartbeats 1000000 in
theorem b_X11_gameOf_0 {l : Launch} {G : mj_G} {a0 : Nat} {x1 : Int32} {x2 : Int32} {x3 : Int32} {x4 : Int32} {x5 : Int32} {S : mj_S} {Q : mj_S → Int32 → Prop} (hk_a0 : m_kd S a0 = 10) (h : M_X11_turnOf l G a0 x1 x3 S (fun S1 r2 => M_X11_turnOf l G a0 x2 x4 S1 (fun S3 r4 => M_X11_hasBy l G a0 x5 (r2 ||| r4) S3 (fun S5 r6 => Q S5 r6)))) : V_X11_gameOf_0 l G a0 x1 x2 x3 x4 x5 S Q := by
  refine mj_aload_n dX11_gameOf_0 rfl rfl ?_
  refine mj_iload dX11_gameOf_1 rfl ?_
  refine mj_aload_n dX11_gameOf_3 rfl rfl ?_
  refine mj_iload_n dX11_gameOf_4 rfl rfl ?_
  refine mj_iload_n dX11_gameOf_5 rfl rfl ?_
  refine mj_callVi (as := [.int x1, .int x3]) (st := [.int x5, .ref a0]) dX11_gameOf_6 cal_X11_turnOf lk_X11_424 im_X11_turnOf se_X11_turnOf (ci := 10) rfl (by decide) hk_a0 h rfl (Nat.le_of_ble_eq_true rfl) (by decide) ⟨Nat.le_of_ble_eq_true rfl, Nat.le_of_ble_eq_true rfl⟩ (fun S1 r2 h hn_r2 hp => ?_)
  have hk_a0 : m_kd S1 a0 = 10 := m_kd_pre hp hk_a0 (by decide)
  refine mj_aload_n dX11_gameOf_9 rfl rfl ?_
  refine mj_iload_n dX11_gameOf_10 rfl rfl ?_
  refine mj_iload dX11_gameOf_11 rfl ?_
  refine mj_callVi (as := [.int x2, .int x4]) (st := [.int r2, .int x5, .ref a0]) dX11_gameOf_13 cal_X11_turnOf lk_X11_424 im_X11_turnOf se_X11_turnOf (ci := 10) rfl (by decide) hk_a0 h rfl (Nat.le_of_ble_eq_true rfl) (by decide) ⟨Nat.le_of_ble_eq_true rfl, Nat.le_of_ble_eq_true rfl⟩ (fun S3 r4 h hn_r4 hp => ?_)
  have hk_a0 : m_kd S3 a0 = 10 := m_kd_pre hp hk_a0 (by decide)
  refine mj_ior dX11_gameOf_16 ?_
  refine mj_callVi (as := [.int x5, .int (r2 ||| r4)]) (st := []) dX11_gameOf_17 cal_X11_hasBy lk_X11_427 im_X11_hasBy se_X11_hasBy (ci := 10) rfl (by decide) hk_a0 h rfl (Nat.le_of_ble_eq_true rfl) (by decide) ⟨Nat.le_of_ble_eq_true rfl, Nat.le_of_ble_eq_true rfl⟩ (fun S5 r6 h hn_r6 hp => ?_)
  have hk_a0 : m_kd S5 a0 = 10 := m_kd_pre hp hk_a0 (by decide)
  exact mj_reti dX11_gameOf_20 rfl ⟨Nat.le_of_ble_eq_true rfl, Nat.le_of_ble_eq_true rfl⟩ h
abbrev V_X11_areTwo_0 (l : Launch) (G : mj_G) (a0 : Nat) (x1 : Int32) (x2 : Int32) (S : mj_S) (Q : mj_S → Int32 → Prop) : Prop := mj_V l G (mj_room 3 0 0) RX11 cX11_areTwo 3 (some .boolean) false 0 [some (.ref a0), some (.int x1), some (.int x2)] [] S 0 0 (mj_std G (some .boolean) (mj_room 3 0 0) (mj_qi Q))
theorem e_X11_areTwo {l : Launch} {G : mj_G} {a0 : Nat} {x1 : Int32} {x2 : Int32} {S : mj_S} {Q : mj_S → Int32 → Prop} (h : V_X11_areTwo_0 l G a0 x1 x2 S Q) : M_X11_areTwo l G a0 x1 x2 S Q := mj_enter (r := 0) (ini := false) (by decide +kernel) (fun h => by cases h) (fun _ => Nat.le_of_ble_eq_true rfl) rfl h
set_option maxRecDepth 20000 in
set_option maxHeartbeats 1000000 in
theorem b_X11_areTwo_0 {l : Launch} {G : mj_G} {a0 : Nat} {x1 : Int32} {x2 : Int32} {S : mj_S} {Q : mj_S → Int32 → Prop} (hk_a0 : m_kd S a0 = 10) (h : M_X11_isPerson l G a0 x1 S (fun S1 r2 => ((r2 = 0) → Q S1 (0 : Int32)) ∧ ((¬ (r2 = 0)) → M_X11_isPerson l G a0 x2 S1 (fun S3 r4 => ((r4 = 0) → Q S3 (0 : Int32)) ∧ ((¬ (r4 = 0)) → ((x1 = x2) → Q S3 (0 : Int32)) ∧ ((¬ (x1 = x2)) → Q S3 (1 : Int32))))))) : V_X11_areTwo_0 l G a0 x1 x2 S Q := by
  refine mj_aload_n dX11_areTwo_0 rfl rfl ?_
  refine mj_iload_n dX11_areTwo_1 rfl rfl ?_
  refine mj_callVi (as := [.int x1]) (st := []) dX11_areTwo_2 cal_X11_isPerson lk_X11_344 im_X11_isPerson se_X11_isPerson (ci := 10) rfl (by decide) hk_a0 h rfl (Nat.le_of_ble_eq_true rfl) (by decide) ⟨Nat.le_of_ble_eq_true rfl, Nat.le_of_ble_eq_true rfl⟩ (fun S1 r2 h hn_r2 hp => ?_)
  have hk_a0 : m_kd S1 a0 = 10 := m_kd_pre hp hk_a0 (by decide)
  refine mj_if_eq (tgt := 25) dX11_areTwo_5 (by decide) ⟨fun hc => ?_, fun hc => ?_⟩
  · replace h := h.1 hc
    refine mj_iconst (v := 0) dX11_areTwo_25 (by decide) ?_
    exact mj_retz dX11_areTwo_26 rfl (rfl) ⟨Nat.le_of_ble_eq_true rfl, Nat.le_of_ble_eq_true rfl⟩ h
  · replace h := h.2 hc
    refine mj_aload_n dX11_areTwo_8 rfl rfl ?_
    refine mj_iload_n dX11_areTwo_9 rfl rfl ?_
    refine mj_callVi (as := [.int x2]) (st := []) dX11_areTwo_10 cal_X11_isPerson lk_X11_344 im_X11_isPerson se_X11_isPerson (ci := 10) rfl (by decide) hk_a0 h rfl (Nat.le_of_ble_eq_true rfl) (by decide) ⟨Nat.le_of_ble_eq_true rfl, Nat.le_of_ble_eq_true rfl⟩ (fun S3 r4 h hn_r4 hp => ?_)
    have hk_a0 : m_kd S3 a0 = 10 := m_kd_pre hp hk_a0 (by decide)
    refine mj_if_eq (tgt := 25) dX11_areTwo_13 (by decide) ⟨fun hc => ?_, fun hc => ?_⟩
    · replace h := h.1 hc
      refine mj_iconst (v := 0) dX11_areTwo_25 (by decide) ?_
      exact mj_retz dX11_areTwo_26 rfl (rfl) ⟨Nat.le_of_ble_eq_true rfl, Nat.le_of_ble_eq_true rfl⟩ h
    · replace h := h.2 hc
      refine mj_iload_n dX11_areTwo_16 rfl rfl ?_
      refine mj_iload_n dX11_areTwo_17 rfl rfl ?_
      refine mj_icmp_eq (tgt := 25) dX11_areTwo_18 (by decide) ⟨fun hc => ?_, fun hc => ?_⟩
      · replace h := h.1 hc
        refine mj_iconst (v := 0) dX11_areTwo_25 (by decide) ?_
        exact mj_retz dX11_areTwo_26 rfl (rfl) ⟨Nat.le_of_ble_eq_true rfl, Nat.le_of_ble_eq_true rfl⟩ h
      · replace h := h.2 hc
        refine mj_iconst (v := 1) dX11_areTwo_21 (by decide) ?_
        refine mj_goto (tgt := 26) dX11_areTwo_22 (by decide) ?_
        exact mj_retz dX11_areTwo_26 rfl (rfl) ⟨Nat.le_of_ble_eq_true rfl, Nat.le_of_ble_eq_true rfl⟩ h
abbrev V_X11_game_0 (l : Launch) (G : mj_G) (a0 : Nat) (x1 : Int32) (x2 : Int32) (x3 : Int32) (x4 : Int32) (x5 : Int32) (S : mj_S) (Q : mj_S → Int32 → Prop) : Prop := mj_V l G (mj_room 9 0 0) RX11 cX11_game 6 (some .int) false 0 [some (.ref a0), some (.int x1), some (.int x2), some (.int x3), some (.int x4), some (.int x5)] [] S 0 0 (mj_std G (some .int) (mj_room 9 0 0) (mj_qi Q))
abbrev V_X11_game_64 (l : Launch) (G : mj_G) (c0 : Nat) (s1 : Int32) (s2 : Int32) (s3 : Int32) (s4 : Int32) (s5 : Int32) (S : mj_S) (Q : mj_S → Int32 → Prop) : Prop := mj_V l G (mj_room 9 0 0) RX11 cX11_game 6 (some .int) false 64 [none, none, none, none, none, none] [.int s5, .int s4, .int s3, .int s2, .int s1, .ref c0] S 0 0 (mj_std G (some .int) (mj_room 9 0 0) (mj_qi Q))
theorem e_X11_game {l : Launch} {G : mj_G} {a0 : Nat} {x1 : Int32} {x2 : Int32} {x3 : Int32} {x4 : Int32} {x5 : Int32} {S : mj_S} {Q : mj_S → Int32 → Prop} (h : V_X11_game_0 l G a0 x1 x2 x3 x4 x5 S Q) : M_X11_game l G a0 x1 x2 x3 x4 x5 S Q := mj_enter (r := 0) (ini := false) (by decide +kernel) (fun h => by cases h) (fun _ => Nat.le_of_ble_eq_true rfl) rfl h
set_option maxRecDepth 20000 in
set_option maxHeartbeats 1000000 in
theorem b_X11_game_0 {l : Launch} {G : mj_G} {a0 : Nat} {x1 : Int32} {x2 : Int32} {x3 : Int32} {x4 : Int32} {x5 : Int32} {S : mj_S} {Q : mj_S → Int32 → Prop} (hk_a0 : m_kd S a0 = 10) (h : M_X11_areTwo l G a0 x1 x2 S (fun S1 r2 => ((r2 = 0) → Q S1 (-1000000 : Int32)) ∧ ((¬ (r2 = 0)) → M_X11_in l G x3 (0 : Int32) (m_gi S1 a0 26) S1 (fun S3 r4 => ((r4 = 0) → Q S3 (-1000000 : Int32)) ∧ ((¬ (r4 = 0)) → M_X11_in l G x4 (0 : Int32) (m_gi S3 a0 26) S3 (fun S5 r6 => ((r6 = 0) → Q S5 (-1000000 : Int32)) ∧ ((¬ (r6 = 0)) → M_X11_in l G x5 (0 : Int32) (1 : Int32) S5 (fun S7 r8 => ((¬ r8 = 0) → ((¬ x5 = 0) → V_X11_game_64 l G a0 x1 x2 x3 x4 x2 S7 Q) ∧ ((x5 = 0) → V_X11_game_64 l G a0 x1 x2 x3 x4 x1 S7 Q)) ∧ ((r8 = 0) → Q S7 (-1000000 : Int32)))))))))) : V_X11_game_0 l G a0 x1 x2 x3 x4 x5 S Q := by
  refine mj_aload_n dX11_game_0 rfl rfl ?_
  refine mj_iload_n dX11_game_1 rfl rfl ?_
  refine mj_iload_n dX11_game_2 rfl rfl ?_
  refine mj_callVi (as := [.int x1, .int x2]) (st := []) dX11_game_3 cal_X11_areTwo lk_X11_430 im_X11_areTwo se_X11_areTwo (ci := 10) rfl (by decide) hk_a0 h rfl (Nat.le_of_ble_eq_true rfl) (by decide) ⟨Nat.le_of_ble_eq_true rfl, Nat.le_of_ble_eq_true rfl⟩ (fun S1 r2 h hn_r2 hp => ?_)
  have hk_a0 : m_kd S1 a0 = 10 := m_kd_pre hp hk_a0 (by decide)
  refine mj_if_eq (tgt := 44) dX11_game_6 (by decide) ⟨fun hc => ?_, fun hc => ?_⟩
  · replace h := h.1 hc
    refine mj_ldcw dX11_game_44 co_X11_433 ?_
    exact mj_reti dX11_game_47 rfl ⟨Nat.le_of_ble_eq_true rfl, Nat.le_of_ble_eq_true rfl⟩ h
  · replace h := h.2 hc
    refine mj_iload_n dX11_game_9 rfl rfl ?_
    refine mj_iconst (v := 0) dX11_game_10 (by decide) ?_
    refine mj_aload_n dX11_game_11 rfl rfl ?_
    refine mj_getI dX11_game_12 fl_X11_261_10 hk_a0 rfl ?_
    refine mj_callSi (as := [.int x3, .int (0 : Int32), .int (m_gi S1 a0 26)]) (st := []) dX11_game_15 cal_X11_in lk_X11_217 sm_X11_in h rfl (Nat.le_of_ble_eq_true rfl) (by decide) ⟨Nat.le_of_ble_eq_true rfl, Nat.le_of_ble_eq_true rfl⟩ (fun S3 r4 h hn_r4 hp => ?_)
    have hk_a0 : m_kd S3 a0 = 10 := m_kd_pre hp hk_a0 (by decide)
    refine mj_if_eq (tgt := 44) dX11_game_18 (by decide) ⟨fun hc => ?_, fun hc => ?_⟩
    · replace h := h.1 hc
      refine mj_ldcw dX11_game_44 co_X11_433 ?_
      exact mj_reti dX11_game_47 rfl ⟨Nat.le_of_ble_eq_true rfl, Nat.le_of_ble_eq_true rfl⟩ h
    · replace h := h.2 hc
      refine mj_iload dX11_game_21 rfl ?_
      refine mj_iconst (v := 0) dX11_game_23 (by decide) ?_
      refine mj_aload_n dX11_game_24 rfl rfl ?_
      refine mj_getI dX11_game_25 fl_X11_261_10 hk_a0 rfl ?_
      refine mj_callSi (as := [.int x4, .int (0 : Int32), .int (m_gi S3 a0 26)]) (st := []) dX11_game_28 cal_X11_in lk_X11_217 sm_X11_in h rfl (Nat.le_of_ble_eq_true rfl) (by decide) ⟨Nat.le_of_ble_eq_true rfl, Nat.le_of_ble_eq_true rfl⟩ (fun S5 r6 h hn_r6 hp => ?_)
      have hk_a0 : m_kd S5 a0 = 10 := m_kd_pre hp hk_a0 (by decide)
      refine mj_if_eq (tgt := 44) dX11_game_31 (by decide) ⟨fun hc => ?_, fun hc => ?_⟩
      · replace h := h.1 hc
        refine mj_ldcw dX11_game_44 co_X11_433 ?_
        exact mj_reti dX11_game_47 rfl ⟨Nat.le_of_ble_eq_true rfl, Nat.le_of_ble_eq_true rfl⟩ h
      · replace h := h.2 hc
        refine mj_iload dX11_game_34 rfl ?_
        refine mj_iconst (v := 0) dX11_game_36 (by decide) ?_
        refine mj_iconst (v := 1) dX11_game_37 (by decide) ?_
        refine mj_callSi (as := [.int x5, .int (0 : Int32), .int (1 : Int32)]) (st := []) dX11_game_38 cal_X11_in lk_X11_217 sm_X11_in h rfl (Nat.le_of_ble_eq_true rfl) (by decide) ⟨Nat.le_of_ble_eq_true rfl, Nat.le_of_ble_eq_true rfl⟩ (fun S7 r8 h hn_r8 hp => ?_)
        have hk_a0 : m_kd S7 a0 = 10 := m_kd_pre hp hk_a0 (by decide)
        refine mj_if_ne (tgt := 48) dX11_game_41 (by decide) ⟨fun hc => ?_, fun hc => ?_⟩
        · replace h := h.1 hc
          refine mj_aload_n dX11_game_48 rfl rfl ?_
          refine mj_iload_n dX11_game_49 rfl rfl ?_
          refine mj_iload_n dX11_game_50 rfl rfl ?_
          refine mj_iload_n dX11_game_51 rfl rfl ?_
          refine mj_iload dX11_game_52 rfl ?_
          refine mj_iload dX11_game_54 rfl ?_
          refine mj_if_ne (tgt := 63) dX11_game_56 (by decide) ⟨fun hc => ?_, fun hc => ?_⟩
          · replace h := h.1 hc
            refine mj_iload_n dX11_game_63 rfl rfl ?_
            exact mj_lessm [false, false, false, false, false, false] rfl h
          · replace h := h.2 hc
            refine mj_iload_n dX11_game_59 rfl rfl ?_
            refine mj_goto (tgt := 64) dX11_game_60 (by decide) ?_
            exact mj_lessm [false, false, false, false, false, false] rfl h
        · replace h := h.2 hc
          refine mj_ldcw dX11_game_44 co_X11_433 ?_
          exact mj_reti dX11_game_47 rfl ⟨Nat.le_of_ble_eq_true rfl, Nat.le_of_ble_eq_true rfl⟩ h
set_option maxRecDepth 20000 in
set_option maxHeartbeats 1000000 in
theorem b_X11_game_64 {l : Launch} {G : mj_G} {c0 : Nat} {s1 : Int32} {s2 : Int32} {s3 : Int32} {s4 : Int32} {s5 : Int32} {S : mj_S} {Q : mj_S → Int32 → Prop} (hk_c0 : m_kd S c0 = 10) (h : M_X11_gameOf l G c0 s1 s2 s3 s4 s5 S (fun S1 r2 => Q S1 r2)) : V_X11_game_64 l G c0 s1 s2 s3 s4 s5 S Q := by
  refine mj_callVi (as := [.int s1, .int s2, .int s3, .int s4, .int s5]) (st := []) dX11_game_64 cal_X11_gameOf lk_X11_434 im_X11_gameOf se_X11_gameOf (ci := 10) rfl (by decide) hk_c0 h rfl (Nat.le_of_ble_eq_true rfl) (by decide) ⟨Nat.le_of_ble_eq_true rfl, Nat.le_of_ble_eq_true rfl⟩ (fun S1 r2 h hn_r2 hp => ?_)
  have hk_c0 : m_kd S1 c0 = 10 := m_kd_pre hp hk_c0 (by decide)
  exact mj_reti dX11_game_67 rfl ⟨Nat.le_of_ble_eq_true rfl, Nat.le_of_ble_eq_true rfl⟩ h
abbrev V_X11_layGame_0 (l : Launch) (G : mj_G) (a0 : Nat) (x1 : Int32) (x2 : Int32) (S : mj_S) (Q : mj_S → Prop) : Prop := mj_V l G (mj_room 9 0 0) RX11 cX11_layGame 4 none false 0 [some (.ref a0), some (.int x1), some (.int x2), none] [] S 0 0 (mj_std G none (mj_room 9 0 0) (mj_qv Q))
abbrev V_X11_layGame_2 (l : Launch) (G : mj_G) (a0 : Nat) (x1 : Int32) (x2 : Int32) (x3 : Int32) (S : mj_S) (Q : mj_S → Prop) : Prop := mj_V l G (mj_room 9 0 0) RX11 cX11_layGame 4 none false 2 [some (.ref a0), some (.int x1), some (.int x2), some (.int x3)] [] S 0 0 (mj_std G none (mj_room 9 0 0) (mj_qv Q))
theorem e_X11_layGame {l : Launch} {G : mj_G} {a0 : Nat} {x1 : Int32} {x2 : Int32} {S : mj_S} {Q : mj_S → Prop} (h : V_X11_layGame_0 l G a0 x1 x2 S Q) : M_X11_layGame l G a0 x1 x2 S Q := mj_enter (r := 1) (ini := false) (by decide +kernel) (fun h => by cases h) (fun _ => Nat.le_of_ble_eq_true rfl) rfl h
set_option maxRecDepth 20000 in
set_option maxHeartbeats 1000000 in
theorem b_X11_layGame_0 {l : Launch} {G : mj_G} {a0 : Nat} {x1 : Int32} {x2 : Int32} {S : mj_S} {Q : mj_S → Prop} (hk_a0 : m_kd S a0 = 10) (h : V_X11_layGame_2 l G a0 x1 x2 (0 : Int32) S Q) : V_X11_layGame_0 l G a0 x1 x2 S Q := by
  refine mj_iconst (v := 0) dX11_layGame_0 (by decide) ?_
  refine mj_istore_n dX11_layGame_1 rfl (by decide) rfl rfl ?_
  exact h
set_option maxRecDepth 20000 in
set_option maxHeartbeats 1000000 in
theorem b_X11_layGame_2 {l : Launch} {G : mj_G} {a0 : Nat} {x1 : Int32} {x2 : Int32} {x3 : Int32} {S : mj_S} {Q : mj_S → Prop} (hk_a0 : m_kd S a0 = 10) (h : (((((m_gi S a0 26) + (1 : Int32)) * ((m_gi S a0 26) + (1 : Int32))) ≤ x3) → Q S) ∧ ((¬ ((((m_gi S a0 26) + (1 : Int32)) * ((m_gi S a0 26) + (1 : Int32))) ≤ x3)) → ∃ b1, m_gp S a0 40 = some b1 ∧ (¬ ((m_gi S a0 26) + (1 : Int32)) = 0 ∧ (¬ ((m_gi S a0 26) + (1 : Int32)) = 0 ∧ (M_X11_gameOf l G a0 x1 x2 (x3 / ((m_gi S a0 26) + (1 : Int32))) (x3 - x3 / ((m_gi S a0 26) + (1 : Int32)) * ((m_gi S a0 26) + (1 : Int32))) x1 S (fun S2 r3 => vp_in x3 (m_ln S2 b1) ∧ (∀ S4 : mj_S, S4 = m_si S2 b1 (x3).toNatClampNeg r3 → ∃ b5, m_gp S4 a0 41 = some b5 ∧ (¬ ((m_gi S4 a0 26) + (1 : Int32)) = 0 ∧ (¬ ((m_gi S4 a0 26) + (1 : Int32)) = 0 ∧ (M_X11_gameOf l G a0 x1 x2 (x3 / ((m_gi S4 a0 26) + (1 : Int32))) (x3 - x3 / ((m_gi S4 a0 26) + (1 : Int32)) * ((m_gi S4 a0 26) + (1 : Int32))) x2 S4 (fun S6 r7 => vp_in x3 (m_ln S6 b5) ∧ (∀ S8 : mj_S, S8 = m_si S6 b5 (x3).toNatClampNeg r7 → ∀ v9 : Int32, v9 = x3 + (1 : Int32) → V_X11_layGame_2 l G a0 x1 x2 v9 S8 Q)))))))))))) : V_X11_layGame_2 l G a0 x1 x2 x3 S Q := by
  refine mj_iload_n dX11_layGame_2 rfl rfl ?_
  refine mj_aload_n dX11_layGame_3 rfl rfl ?_
  refine mj_getI dX11_layGame_4 fl_X11_261_10 hk_a0 rfl ?_
  refine mj_iconst (v := 1) dX11_layGame_7 (by decide) ?_
  refine mj_iadd dX11_layGame_8 ?_
  refine mj_aload_n dX11_layGame_9 rfl rfl ?_
  refine mj_getI dX11_layGame_10 fl_X11_261_10 hk_a0 rfl ?_
  refine mj_iconst (v := 1) dX11_layGame_13 (by decide) ?_
  refine mj_iadd dX11_layGame_14 ?_
  refine mj_imul dX11_layGame_15 ?_
  refine mj_icmp_ge (tgt := 83) dX11_layGame_16 (by decide) ⟨fun hc => ?_, fun hc => ?_⟩
  · replace h := h.1 hc
    exact mj_retv dX11_layGame_83 rfl ⟨Nat.le_of_ble_eq_true rfl, Nat.le_of_ble_eq_true rfl⟩ h
  · replace h := h.2 hc
    refine mj_aload_n dX11_layGame_19 rfl rfl ?_
    obtain ⟨b1, eb1, h⟩ := h
    refine mj_getP dX11_layGame_20 fl_X11_86_10 hk_a0 rfl ⟨b1, eb1, fun hk_b1 => ?_⟩
    refine mj_iload_n dX11_layGame_23 rfl rfl ?_
    refine mj_aload_n dX11_layGame_24 rfl rfl ?_
    refine mj_iload_n dX11_layGame_25 rfl rfl ?_
    refine mj_iload_n dX11_layGame_26 rfl rfl ?_
    refine mj_iload_n dX11_layGame_27 rfl rfl ?_
    refine mj_aload_n dX11_layGame_28 rfl rfl ?_
    refine mj_getI dX11_layGame_29 fl_X11_261_10 hk_a0 rfl ?_
    refine mj_iconst (v := 1) dX11_layGame_32 (by decide) ?_
    refine mj_iadd dX11_layGame_33 ?_
    refine mj_idiv dX11_layGame_34 h.1 ?_
    replace h := h.2
    refine mj_iload_n dX11_layGame_35 rfl rfl ?_
    refine mj_aload_n dX11_layGame_36 rfl rfl ?_
    refine mj_getI dX11_layGame_37 fl_X11_261_10 hk_a0 rfl ?_
    refine mj_iconst (v := 1) dX11_layGame_40 (by decide) ?_
    refine mj_iadd dX11_layGame_41 ?_
    refine mj_irem dX11_layGame_42 h.1 ?_
    replace h := h.2
    refine mj_iload_n dX11_layGame_43 rfl rfl ?_
    refine mj_callVi (as := [.int x1, .int x2, .int (x3 / ((m_gi S a0 26) + (1 : Int32))), .int (x3 - x3 / ((m_gi S a0 26) + (1 : Int32)) * ((m_gi S a0 26) + (1 : Int32))), .int x1]) (st := [.int x3, .ref b1]) dX11_layGame_44 cal_X11_gameOf lk_X11_434 im_X11_gameOf se_X11_gameOf (ci := 10) rfl (by decide) hk_a0 h rfl (Nat.le_of_ble_eq_true rfl) (by decide) ⟨Nat.le_of_ble_eq_true rfl, Nat.le_of_ble_eq_true rfl⟩ (fun S2 r3 h hn_r3 hp => ?_)
    have hk_a0 : m_kd S2 a0 = 10 := m_kd_pre hp hk_a0 (by decide)
    have hk_b1 : m_kd S2 b1 = 100 := m_kd_pre hp hk_b1 (by decide)
    refine mj_iast dX11_layGame_47 hk_b1 ⟨h.1, ?_⟩
    replace h := h.2
    obtain ⟨S4, eS4⟩ : ∃ z, z = m_si S2 b1 (x3).toNatClampNeg r3 := ⟨_, rfl⟩
    rw [← eS4]
    replace h := h S4 eS4
    have hk_a0 : m_kd S4 a0 = 10 := by rw [eS4]; exact hk_a0
    have hk_b1 : m_kd S4 b1 = 100 := by rw [eS4]; exact hk_b1
    refine mj_aload_n dX11_layGame_48 rfl rfl ?_
    obtain ⟨b5, eb5, h⟩ := h
    refine mj_getP dX11_layGame_49 fl_X11_89_10 hk_a0 rfl ⟨b5, eb5, fun hk_b5 => ?_⟩
    refine mj_iload_n dX11_layGame_52 rfl rfl ?_
    refine mj_aload_n dX11_layGame_53 rfl rfl ?_
    refine mj_iload_n dX11_layGame_54 rfl rfl ?_
    refine mj_iload_n dX11_layGame_55 rfl rfl ?_
    refine mj_iload_n dX11_layGame_56 rfl rfl ?_
    refine mj_aload_n dX11_layGame_57 rfl rfl ?_
    refine mj_getI dX11_layGame_58 fl_X11_261_10 hk_a0 rfl ?_
    refine mj_iconst (v := 1) dX11_layGame_61 (by decide) ?_
    refine mj_iadd dX11_layGame_62 ?_
    refine mj_idiv dX11_layGame_63 h.1 ?_
    replace h := h.2
    refine mj_iload_n dX11_layGame_64 rfl rfl ?_
    refine mj_aload_n dX11_layGame_65 rfl rfl ?_
    refine mj_getI dX11_layGame_66 fl_X11_261_10 hk_a0 rfl ?_
    refine mj_iconst (v := 1) dX11_layGame_69 (by decide) ?_
    refine mj_iadd dX11_layGame_70 ?_
    refine mj_irem dX11_layGame_71 h.1 ?_
    replace h := h.2
    refine mj_iload_n dX11_layGame_72 rfl rfl ?_
    refine mj_callVi (as := [.int x1, .int x2, .int (x3 / ((m_gi S4 a0 26) + (1 : Int32))), .int (x3 - x3 / ((m_gi S4 a0 26) + (1 : Int32)) * ((m_gi S4 a0 26) + (1 : Int32))), .int x2]) (st := [.int x3, .ref b5]) dX11_layGame_73 cal_X11_gameOf lk_X11_434 im_X11_gameOf se_X11_gameOf (ci := 10) rfl (by decide) hk_a0 h rfl (Nat.le_of_ble_eq_true rfl) (by decide) ⟨Nat.le_of_ble_eq_true rfl, Nat.le_of_ble_eq_true rfl⟩ (fun S6 r7 h hn_r7 hp => ?_)
    have hk_a0 : m_kd S6 a0 = 10 := m_kd_pre hp hk_a0 (by decide)
    have hk_b1 : m_kd S6 b1 = 100 := m_kd_pre hp hk_b1 (by decide)
    have hk_b5 : m_kd S6 b5 = 100 := m_kd_pre hp hk_b5 (by decide)
    refine mj_iast dX11_layGame_76 hk_b5 ⟨h.1, ?_⟩
    replace h := h.2
    obtain ⟨S8, eS8⟩ : ∃ z, z = m_si S6 b5 (x3).toNatClampNeg r7 := ⟨_, rfl⟩
    rw [← eS8]
    replace h := h S8 eS8
    have hk_a0 : m_kd S8 a0 = 10 := by rw [eS8]; exact hk_a0
    have hk_b1 : m_kd S8 b1 = 100 := by rw [eS8]; exact hk_b1
    have hk_b5 : m_kd S8 b5 = 100 := by rw [eS8]; exact hk_b5
    obtain ⟨v9, ev9⟩ : ∃ z : Int32, z = x3 + (1 : Int32) := ⟨_, rfl⟩
    refine mj_iinc (v := v9) dX11_layGame_77 rfl (by rw [ev9]; rfl) (by decide) rfl rfl ?_
    replace h := h v9 ev9
    refine mj_goto (tgt := 2) dX11_layGame_80 (by decide) ?_
    exact h
abbrev V_X11_isRest_0 (l : Launch) (G : mj_G) (a0 : Nat) (x1 : Int32) (x2 : Int32) (S : mj_S) (Q : mj_S → Int32 → Prop) : Prop := mj_V l G (mj_room 1 0 0) RX11 cX11_isRest 5 (some .boolean) false 0 [some (.ref a0), some (.int x1), some (.int x2), none, none] [] S 0 0 (mj_std G (some .boolean) (mj_room 1 0 0) (mj_qi Q))
abbrev V_X11_isRest_10 (l : Launch) (G : mj_G) (a0 : Nat) (x1 : Int32) (x2 : Int32) (x3 : Int32) (x4 : Int32) (S : mj_S) (Q : mj_S → Int32 → Prop) : Prop := mj_V l G (mj_room 1 0 0) RX11 cX11_isRest 5 (some .boolean) false 10 [some (.ref a0), some (.int x1), some (.int x2), some (.int x3), some (.int x4)] [] S 0 0 (mj_std G (some .boolean) (mj_room 1 0 0) (mj_qi Q))
theorem e_X11_isRest {l : Launch} {G : mj_G} {a0 : Nat} {x1 : Int32} {x2 : Int32} {S : mj_S} {Q : mj_S → Int32 → Prop} (h : V_X11_isRest_0 l G a0 x1 x2 S Q) : M_X11_isRest l G a0 x1 x2 S Q := mj_enter (r := 2) (ini := false) (by decide +kernel) (fun h => by cases h) (fun _ => Nat.le_of_ble_eq_true rfl) rfl h
set_option maxRecDepth 20000 in
set_option maxHeartbeats 1000000 in
theorem b_X11_isRest_0 {l : Launch} {G : mj_G} {a0 : Nat} {x1 : Int32} {x2 : Int32} {S : mj_S} {Q : mj_S → Int32 → Prop} (hk_a0 : m_kd S a0 = 10) (h : ∀ v1 : Int32, v1 = ((m_gi S a0 26) + (1 : Int32)) → V_X11_isRest_10 l G a0 x1 x2 v1 (0 : Int32) S Q) : V_X11_isRest_0 l G a0 x1 x2 S Q := by
  refine mj_aload_n dX11_isRest_0 rfl rfl ?_
  refine mj_getI dX11_isRest_1 fl_X11_261_10 hk_a0 rfl ?_
  refine mj_iconst (v := 1) dX11_isRest_4 (by decide) ?_
  refine mj_iadd dX11_isRest_5 ?_
  refine mj_nmi (fun v1 ev1 => ?_)
  replace h := h v1 ev1
  refine mj_istore_n dX11_isRest_6 rfl (by decide) rfl rfl ?_
  refine mj_iconst (v := 0) dX11_isRest_7 (by decide) ?_
  refine mj_istore dX11_isRest_8 (by decide) rfl rfl ?_
  exact h
set_option maxRecDepth 20000 in
set_option maxHeartbeats 1000000 in
theorem b_X11_isRest_10 {l : Launch} {G : mj_G} {a0 : Nat} {x1 : Int32} {x2 : Int32} {x3 : Int32} {x4 : Int32} {S : mj_S} {Q : mj_S → Int32 → Prop} (hk_a0 : m_kd S a0 = 10) (h : ((x3 ≤ x4) → Q S (1 : Int32)) ∧ ((¬ (x3 ≤ x4)) → ∃ b1, m_gp S a0 40 = some b1 ∧ (vp_in ((x3 * x4) + x2) (m_ln S b1) ∧ (∃ b2, m_gp S a0 40 = some b2 ∧ (vp_in ((x3 * x1) + x2) (m_ln S b2) ∧ ((((m_gi S b2 (((x3 * x1) + x2)).toNatClampNeg) < (m_gi S b1 (((x3 * x4) + x2)).toNatClampNeg)) → Q S (0 : Int32)) ∧ ((¬ ((m_gi S b2 (((x3 * x1) + x2)).toNatClampNeg) < (m_gi S b1 (((x3 * x4) + x2)).toNatClampNeg))) → ∃ b3, m_gp S a0 41 = some b3 ∧ (vp_in ((x3 * x1) + x4) (m_ln S b3) ∧ (∃ b4, m_gp S a0 41 = some b4 ∧ (vp_in ((x3 * x1) + x2) (m_ln S b4) ∧ ((((m_gi S b3 (((x3 * x1) + x4)).toNatClampNeg) ≤ (m_gi S b4 (((x3 * x1) + x2)).toNatClampNeg)) → ∀ v5 : Int32, v5 = x4 + (1 : Int32) → V_X11_isRest_10 l G a0 x1 x2 x3 v5 S Q) ∧ ((¬ ((m_gi S b3 (((x3 * x1) + x4)).toNatClampNeg) ≤ (m_gi S b4 (((x3 * x1) + x2)).toNatClampNeg))) → Q S (0 : Int32))))))))))))) : V_X11_isRest_10 l G a0 x1 x2 x3 x4 S Q := by
  refine mj_iload dX11_isRest_10 rfl ?_
  refine mj_iload_n dX11_isRest_12 rfl rfl ?_
  refine mj_icmp_ge (tgt := 72) dX11_isRest_13 (by decide) ⟨fun hc => ?_, fun hc => ?_⟩
  · replace h := h.1 hc
    refine mj_iconst (v := 1) dX11_isRest_72 (by decide) ?_
    exact mj_retz dX11_isRest_73 rfl (rfl) ⟨Nat.le_of_ble_eq_true rfl, Nat.le_of_ble_eq_true rfl⟩ h
  · replace h := h.2 hc
    refine mj_aload_n dX11_isRest_16 rfl rfl ?_
    obtain ⟨b1, eb1, h⟩ := h
    refine mj_getP dX11_isRest_17 fl_X11_86_10 hk_a0 rfl ⟨b1, eb1, fun hk_b1 => ?_⟩
    refine mj_iload_n dX11_isRest_20 rfl rfl ?_
    refine mj_iload dX11_isRest_21 rfl ?_
    refine mj_imul dX11_isRest_23 ?_
    refine mj_iload_n dX11_isRest_24 rfl rfl ?_
    refine mj_iadd dX11_isRest_25 ?_
    refine mj_iald dX11_isRest_26 (Or.inl hk_b1) ⟨h.1, ?_⟩
    replace h := h.2
    refine mj_aload_n dX11_isRest_27 rfl rfl ?_
    obtain ⟨b2, eb2, h⟩ := h
    refine mj_getP dX11_isRest_28 fl_X11_86_10 hk_a0 rfl ⟨b2, eb2, fun hk_b2 => ?_⟩
    refine mj_iload_n dX11_isRest_31 rfl rfl ?_
    refine mj_iload_n dX11_isRest_32 rfl rfl ?_
    refine mj_imul dX11_isRest_33 ?_
    refine mj_iload_n dX11_isRest_34 rfl rfl ?_
    refine mj_iadd dX11_isRest_35 ?_
    refine mj_iald dX11_isRest_36 (Or.inl hk_b2) ⟨h.1, ?_⟩
    replace h := h.2
    refine mj_icmp_gt (tgt := 64) dX11_isRest_37 (by decide) ⟨fun hc => ?_, fun hc => ?_⟩
    · replace h := h.1 hc
      refine mj_iconst (v := 0) dX11_isRest_64 (by decide) ?_
      exact mj_retz dX11_isRest_65 rfl (rfl) ⟨Nat.le_of_ble_eq_true rfl, Nat.le_of_ble_eq_true rfl⟩ h
    · replace h := h.2 hc
      refine mj_aload_n dX11_isRest_40 rfl rfl ?_
      obtain ⟨b3, eb3, h⟩ := h
      refine mj_getP dX11_isRest_41 fl_X11_89_10 hk_a0 rfl ⟨b3, eb3, fun hk_b3 => ?_⟩
      refine mj_iload_n dX11_isRest_44 rfl rfl ?_
      refine mj_iload_n dX11_isRest_45 rfl rfl ?_
      refine mj_imul dX11_isRest_46 ?_
      refine mj_iload dX11_isRest_47 rfl ?_
      refine mj_iadd dX11_isRest_49 ?_
      refine mj_iald dX11_isRest_50 (Or.inl hk_b3) ⟨h.1, ?_⟩
      replace h := h.2
      refine mj_aload_n dX11_isRest_51 rfl rfl ?_
      obtain ⟨b4, eb4, h⟩ := h
      refine mj_getP dX11_isRest_52 fl_X11_89_10 hk_a0 rfl ⟨b4, eb4, fun hk_b4 => ?_⟩
      refine mj_iload_n dX11_isRest_55 rfl rfl ?_
      refine mj_iload_n dX11_isRest_56 rfl rfl ?_
      refine mj_imul dX11_isRest_57 ?_
      refine mj_iload_n dX11_isRest_58 rfl rfl ?_
      refine mj_iadd dX11_isRest_59 ?_
      refine mj_iald dX11_isRest_60 (Or.inl hk_b4) ⟨h.1, ?_⟩
      replace h := h.2
      refine mj_icmp_le (tgt := 66) dX11_isRest_61 (by decide) ⟨fun hc => ?_, fun hc => ?_⟩
      · replace h := h.1 hc
        obtain ⟨v5, ev5⟩ : ∃ z : Int32, z = x4 + (1 : Int32) := ⟨_, rfl⟩
        refine mj_iinc (v := v5) dX11_isRest_66 rfl (by rw [ev5]; rfl) (by decide) rfl rfl ?_
        replace h := h v5 ev5
        refine mj_goto (tgt := 10) dX11_isRest_69 (by decide) ?_
        exact h
      · replace h := h.2 hc
        refine mj_iconst (v := 0) dX11_isRest_64 (by decide) ?_
        exact mj_retz dX11_isRest_65 rfl (rfl) ⟨Nat.le_of_ble_eq_true rfl, Nat.le_of_ble_eq_true rfl⟩ h
abbrev V_X11_rests_0 (l : Launch) (G : mj_G) (a0 : Nat) (x1 : Int32) (x2 : Int32) (x3 : Int32) (S : mj_S) (Q : mj_S → Int32 → Prop) : Prop := mj_V l G (mj_room 10 0 0) RX11 cX11_rests 7 (some .int) false 0 [some (.ref a0), some (.int x1), some (.int x2), some (.int x3), none, none, none] [] S 0 0 (mj_std G (some .int) (mj_room 10 0 0) (mj_qi Q))
abbrev V_X11_rests_28 (l : Launch) (G : mj_G) (a0 : Nat) (x3 : Int32) (x4 : Int32) (x5 : Int32) (S : mj_S) (Q : mj_S → Int32 → Prop) : Prop := mj_V l G (mj_room 10 0 0) RX11 cX11_rests 7 (some .int) false 28 [some (.ref a0), none, none, some (.int x3), some (.int x4), some (.int x5), none] [] S 0 0 (mj_std G (some .int) (mj_room 10 0 0) (mj_qi Q))
abbrev V_X11_rests_40 (l : Launch) (G : mj_G) (a0 : Nat) (x3 : Int32) (x4 : Int32) (x5 : Int32) (x6 : Int32) (S : mj_S) (Q : mj_S → Int32 → Prop) : Prop := mj_V l G (mj_room 10 0 0) RX11 cX11_rests 7 (some .int) false 40 [some (.ref a0), none, none, some (.int x3), some (.int x4), some (.int x5), some (.int x6)] [] S 0 0 (mj_std G (some .int) (mj_room 10 0 0) (mj_qi Q))
theorem e_X11_rests {l : Launch} {G : mj_G} {a0 : Nat} {x1 : Int32} {x2 : Int32} {x3 : Int32} {S : mj_S} {Q : mj_S → Int32 → Prop} (h : V_X11_rests_0 l G a0 x1 x2 x3 S Q) : M_X11_rests l G a0 x1 x2 x3 S Q := mj_enter (r := 3) (ini := false) (by decide +kernel) (fun h => by cases h) (fun _ => Nat.le_of_ble_eq_true rfl) rfl h
set_option maxRecDepth 20000 in
set_option maxHeartbeats 1000000 in
theorem b_X11_rests_0 {l : Launch} {G : mj_G} {a0 : Nat} {x1 : Int32} {x2 : Int32} {x3 : Int32} {S : mj_S} {Q : mj_S → Int32 → Prop} (hk_a0 : m_kd S a0 = 10) (h : M_X11_areTwo l G a0 x1 x2 S (fun S1 r2 => ((r2 = 0) → Q S1 (-1 : Int32)) ∧ ((¬ (r2 = 0)) → (((-1 : Int32) ≤ x3) → M_X11_layGame l G a0 x1 x2 S1 (fun S3 => V_X11_rests_28 l G a0 x3 (0 : Int32) (0 : Int32) S3 Q)) ∧ ((¬ ((-1 : Int32) ≤ x3)) → Q S1 (-1 : Int32))))) : V_X11_rests_0 l G a0 x1 x2 x3 S Q := by
  refine mj_aload_n dX11_rests_0 rfl rfl ?_
  refine mj_iload_n dX11_rests_1 rfl rfl ?_
  refine mj_iload_n dX11_rests_2 rfl rfl ?_
  refine mj_callVi (as := [.int x1, .int x2]) (st := []) dX11_rests_3 cal_X11_areTwo lk_X11_430 im_X11_areTwo se_X11_areTwo (ci := 10) rfl (by decide) hk_a0 h rfl (Nat.le_of_ble_eq_true rfl) (by decide) ⟨Nat.le_of_ble_eq_true rfl, Nat.le_of_ble_eq_true rfl⟩ (fun S1 r2 h hn_r2 hp => ?_)
  have hk_a0 : m_kd S1 a0 = 10 := m_kd_pre hp hk_a0 (by decide)
  refine mj_if_eq (tgt := 14) dX11_rests_6 (by decide) ⟨fun hc => ?_, fun hc => ?_⟩
  · replace h := h.1 hc
    refine mj_iconst (v := (-1)) dX11_rests_14 (by decide) ?_
    exact mj_reti dX11_rests_15 rfl ⟨Nat.le_of_ble_eq_true rfl, Nat.le_of_ble_eq_true rfl⟩ h
  · replace h := h.2 hc
    refine mj_iload_n dX11_rests_9 rfl rfl ?_
    refine mj_iconst (v := (-1)) dX11_rests_10 (by decide) ?_
    refine mj_icmp_ge (tgt := 16) dX11_rests_11 (by decide) ⟨fun hc => ?_, fun hc => ?_⟩
    · replace h := h.1 hc
      refine mj_aload_n dX11_rests_16 rfl rfl ?_
      refine mj_iload_n dX11_rests_17 rfl rfl ?_
      refine mj_iload_n dX11_rests_18 rfl rfl ?_
      refine mj_callVv (as := [.int x1, .int x2]) (st := []) dX11_rests_19 cal_X11_layGame lk_X11_438 im_X11_layGame se_X11_layGame (ci := 10) rfl (by decide) hk_a0 h rfl (Nat.le_of_ble_eq_true rfl) (by decide) ⟨Nat.le_of_ble_eq_true rfl, Nat.le_of_ble_eq_true rfl⟩ (fun S3 h hp => ?_)
      have hk_a0 : m_kd S3 a0 = 10 := m_kd_pre hp hk_a0 (by decide)
      refine mj_iconst (v := 0) dX11_rests_22 (by decide) ?_
      refine mj_istore dX11_rests_23 (by decide) rfl rfl ?_
      refine mj_iconst (v := 0) dX11_rests_25 (by decide) ?_
      refine mj_istore dX11_rests_26 (by decide) rfl rfl ?_
      exact mj_lessm [true, false, false, true, true, true, false] rfl h
    · replace h := h.2 hc
      refine mj_iconst (v := (-1)) dX11_rests_14 (by decide) ?_
      exact mj_reti dX11_rests_15 rfl ⟨Nat.le_of_ble_eq_true rfl, Nat.le_of_ble_eq_true rfl⟩ h
set_option maxRecDepth 20000 in
set_option maxHeartbeats 1000000 in
theorem b_X11_rests_28 {l : Launch} {G : mj_G} {a0 : Nat} {x3 : Int32} {x4 : Int32} {x5 : Int32} {S : mj_S} {Q : mj_S → Int32 → Prop} (hk_a0 : m_kd S a0 = 10) (h : (((m_gi S a0 26) < x5) → ((¬ x3 = (-1 : Int32)) → Q S (-1 : Int32)) ∧ ((x3 = (-1 : Int32)) → Q S x4)) ∧ ((¬ ((m_gi S a0 26) < x5)) → V_X11_rests_40 l G a0 x3 x4 x5 (0 : Int32) S Q)) : V_X11_rests_28 l G a0 x3 x4 x5 S Q := by
  refine mj_iload dX11_rests_28 rfl ?_
  refine mj_aload_n dX11_rests_30 rfl rfl ?_
  refine mj_getI dX11_rests_31 fl_X11_261_10 hk_a0 rfl ?_
  refine mj_icmp_gt (tgt := 90) dX11_rests_34 (by decide) ⟨fun hc => ?_, fun hc => ?_⟩
  · replace h := h.1 hc
    refine mj_iload_n dX11_rests_90 rfl rfl ?_
    refine mj_iconst (v := (-1)) dX11_rests_91 (by decide) ?_
    refine mj_icmp_ne (tgt := 100) dX11_rests_92 (by decide) ⟨fun hc => ?_, fun hc => ?_⟩
    · replace h := h.1 hc
      refine mj_iconst (v := (-1)) dX11_rests_100 (by decide) ?_
      exact mj_reti dX11_rests_101 rfl ⟨Nat.le_of_ble_eq_true rfl, Nat.le_of_ble_eq_true rfl⟩ h
    · replace h := h.2 hc
      refine mj_iload dX11_rests_95 rfl ?_
      refine mj_goto (tgt := 101) dX11_rests_97 (by decide) ?_
      exact mj_reti dX11_rests_101 rfl ⟨Nat.le_of_ble_eq_true rfl, Nat.le_of_ble_eq_true rfl⟩ h
  · replace h := h.2 hc
    refine mj_iconst (v := 0) dX11_rests_37 (by decide) ?_
    refine mj_istore dX11_rests_38 (by decide) rfl rfl ?_
    exact h
set_option maxRecDepth 20000 in
set_option maxHeartbeats 1000000 in
theorem b_X11_rests_40 {l : Launch} {G : mj_G} {a0 : Nat} {x3 : Int32} {x4 : Int32} {x5 : Int32} {x6 : Int32} {S : mj_S} {Q : mj_S → Int32 → Prop} (hk_a0 : m_kd S a0 = 10) (h : (((m_gi S a0 26) < x6) → ∀ v1 : Int32, v1 = x5 + (1 : Int32) → V_X11_rests_28 l G a0 x3 x4 v1 S Q) ∧ ((¬ ((m_gi S a0 26) < x6)) → M_X11_isRest l G a0 x5 x6 S (fun S2 r3 => ((r3 = 0) → ∀ v4 : Int32, v4 = x6 + (1 : Int32) → V_X11_rests_40 l G a0 x3 x4 x5 v4 S2 Q) ∧ ((¬ (r3 = 0)) → ((¬ x4 = x3) → ∀ v5 : Int32, v5 = x4 + (1 : Int32) → ∀ v6 : Int32, v6 = x6 + (1 : Int32) → V_X11_rests_40 l G a0 x3 v5 x5 v6 S2 Q) ∧ ((x4 = x3) → Q S2 (((10 : Int32) * x5) + x6)))))) : V_X11_rests_40 l G a0 x3 x4 x5 x6 S Q := by
  refine mj_iload dX11_rests_40 rfl ?_
  refine mj_aload_n dX11_rests_42 rfl rfl ?_
  refine mj_getI dX11_rests_43 fl_X11_261_10 hk_a0 rfl ?_
  refine mj_icmp_gt (tgt := 84) dX11_rests_46 (by decide) ⟨fun hc => ?_, fun hc => ?_⟩
  · replace h := h.1 hc
    obtain ⟨v1, ev1⟩ : ∃ z : Int32, z = x5 + (1 : Int32) := ⟨_, rfl⟩
    refine mj_iinc (v := v1) dX11_rests_84 rfl (by rw [ev1]; rfl) (by decide) rfl rfl ?_
    replace h := h v1 ev1
    refine mj_goto (tgt := 28) dX11_rests_87 (by decide) ?_
    exact mj_lessm [true, false, false, true, true, true, false] rfl h
  · replace h := h.2 hc
    refine mj_aload_n dX11_rests_49 rfl rfl ?_
    refine mj_iload dX11_rests_50 rfl ?_
    refine mj_iload dX11_rests_52 rfl ?_
    refine mj_callVi (as := [.int x5, .int x6]) (st := []) dX11_rests_54 cal_X11_isRest lk_X11_441 im_X11_isRest se_X11_isRest (ci := 10) rfl (by decide) hk_a0 h rfl (Nat.le_of_ble_eq_true rfl) (by decide) ⟨Nat.le_of_ble_eq_true rfl, Nat.le_of_ble_eq_true rfl⟩ (fun S2 r3 h hn_r3 hp => ?_)
    have hk_a0 : m_kd S2 a0 = 10 := m_kd_pre hp hk_a0 (by decide)
    refine mj_if_eq (tgt := 78) dX11_rests_57 (by decide) ⟨fun hc => ?_, fun hc => ?_⟩
    · replace h := h.1 hc
      obtain ⟨v4, ev4⟩ : ∃ z : Int32, z = x6 + (1 : Int32) := ⟨_, rfl⟩
      refine mj_iinc (v := v4) dX11_rests_78 rfl (by rw [ev4]; rfl) (by decide) rfl rfl ?_
      replace h := h v4 ev4
      refine mj_goto (tgt := 40) dX11_rests_81 (by decide) ?_
      exact h
    · replace h := h.2 hc
      refine mj_iload dX11_rests_60 rfl ?_
      refine mj_iload_n dX11_rests_62 rfl rfl ?_
      refine mj_icmp_ne (tgt := 75) dX11_rests_63 (by decide) ⟨fun hc => ?_, fun hc => ?_⟩
      · replace h := h.1 hc
        obtain ⟨v5, ev5⟩ : ∃ z : Int32, z = x4 + (1 : Int32) := ⟨_, rfl⟩
        refine mj_iinc (v := v5) dX11_rests_75 rfl (by rw [ev5]; rfl) (by decide) rfl rfl ?_
        replace h := h v5 ev5
        obtain ⟨v6, ev6⟩ : ∃ z : Int32, z = x6 + (1 : Int32) := ⟨_, rfl⟩
        refine mj_iinc (v := v6) dX11_rests_78 rfl (by rw [ev6]; rfl) (by decide) rfl rfl ?_
        replace h := h v6 ev6
        refine mj_goto (tgt := 40) dX11_rests_81 (by decide) ?_
        exact h
      · replace h := h.2 hc
        refine mj_bipush (v := 10) dX11_rests_66 (by decide) ?_
        refine mj_iload dX11_rests_68 rfl ?_
        refine mj_imul dX11_rests_70 ?_
        refine mj_iload dX11_rests_71 rfl ?_
        refine mj_iadd dX11_rests_73 ?_
        exact mj_reti dX11_rests_74 rfl ⟨Nat.le_of_ble_eq_true rfl, Nat.le_of_ble_eq_true rfl⟩ h
abbrev V_X11_treaty_0 (l : Launch) (G : mj_G) (a0 : Nat) (x1 : Int32) (x2 : Int32) (S : mj_S) (Q : mj_S → Int32 → Prop) : Prop := mj_V l G (mj_room 8 0 0) RX11 cX11_treaty 4 (some .int) false 0 [some (.ref a0), some (.int x1), some (.int x2), none] [] S 0 0 (mj_std G (some .int) (mj_room 8 0 0) (mj_qi Q))
abbrev V_X11_treaty_13 (l : Launch) (G : mj_G) (a0 : Nat) (x1 : Int32) (x2 : Int32) (x3 : Int32) (S : mj_S) (Q : mj_S → Int32 → Prop) : Prop := mj_V l G (mj_room 8 0 0) RX11 cX11_treaty 4 (some .int) false 13 [some (.ref a0), some (.int x1), some (.int x2), some (.int x3)] [] S 0 0 (mj_std G (some .int) (mj_room 8 0 0) (mj_qi Q))
theorem e_X11_treaty {l : Launch} {G : mj_G} {a0 : Nat} {x1 : Int32} {x2 : Int32} {S : mj_S} {Q : mj_S → Int32 → Prop} (h : V_X11_treaty_0 l G a0 x1 x2 S Q) : M_X11_treaty l G a0 x1 x2 S Q := mj_enter (r := 1) (ini := false) (by decide +kernel) (fun h => by cases h) (fun _ => Nat.le_of_ble_eq_true rfl) rfl h
set_option maxRecDepth 20000 in
set_option maxHeartbeats 1000000 in
theorem b_X11_treaty_0 {l : Launch} {G : mj_G} {a0 : Nat} {x1 : Int32} {x2 : Int32} {S : mj_S} {Q : mj_S → Int32 → Prop} (hk_a0 : m_kd S a0 = 10) (h : M_X11_areTwo l G a0 x1 x2 S (fun S1 r2 => ((¬ r2 = 0) → V_X11_treaty_13 l G a0 x1 x2 (0 : Int32) S1 Q) ∧ ((r2 = 0) → Q S1 (-1 : Int32)))) : V_X11_treaty_0 l G a0 x1 x2 S Q := by
  refine mj_aload_n dX11_treaty_0 rfl rfl ?_
  refine mj_iload_n dX11_treaty_1 rfl rfl ?_
  refine mj_iload_n dX11_treaty_2 rfl rfl ?_
  refine mj_callVi (as := [.int x1, .int x2]) (st := []) dX11_treaty_3 cal_X11_areTwo lk_X11_430 im_X11_areTwo se_X11_areTwo (ci := 10) rfl (by decide) hk_a0 h rfl (Nat.le_of_ble_eq_true rfl) (by decide) ⟨Nat.le_of_ble_eq_true rfl, Nat.le_of_ble_eq_true rfl⟩ (fun S1 r2 h hn_r2 hp => ?_)
  have hk_a0 : m_kd S1 a0 = 10 := m_kd_pre hp hk_a0 (by decide)
  refine mj_if_ne (tgt := 11) dX11_treaty_6 (by decide) ⟨fun hc => ?_, fun hc => ?_⟩
  · replace h := h.1 hc
    refine mj_iconst (v := 0) dX11_treaty_11 (by decide) ?_
    refine mj_istore_n dX11_treaty_12 rfl (by decide) rfl rfl ?_
    exact h
  · replace h := h.2 hc
    refine mj_iconst (v := (-1)) dX11_treaty_9 (by decide) ?_
    exact mj_reti dX11_treaty_10 rfl ⟨Nat.le_of_ble_eq_true rfl, Nat.le_of_ble_eq_true rfl⟩ h
set_option maxRecDepth 20000 in
set_option maxHeartbeats 1000000 in
theorem b_X11_treaty_13 {l : Launch} {G : mj_G} {a0 : Nat} {x1 : Int32} {x2 : Int32} {x3 : Int32} {S : mj_S} {Q : mj_S → Int32 → Prop} (hk_a0 : m_kd S a0 = 10) (h : (((m_gi S a0 26) ≤ x3) → Q S (1 : Int32)) ∧ ((¬ ((m_gi S a0 26) ≤ x3)) → M_X11_turnOf l G a0 x1 x3 S (fun S1 r2 => M_X11_hasBy l G a0 x1 r2 S1 (fun S3 r4 => M_X11_hasBy l G a0 x1 (0 : Int32) S3 (fun S5 r6 => ((r6 < r4) → Q S5 (0 : Int32)) ∧ ((¬ (r6 < r4)) → M_X11_turnOf l G a0 x2 x3 S5 (fun S7 r8 => M_X11_hasBy l G a0 x2 r8 S7 (fun S9 r10 => M_X11_hasBy l G a0 x2 (0 : Int32) S9 (fun S11 r12 => ((r10 ≤ r12) → ∀ v13 : Int32, v13 = x3 + (1 : Int32) → V_X11_treaty_13 l G a0 x1 x2 v13 S11 Q) ∧ ((¬ (r10 ≤ r12)) → Q S11 (0 : Int32))))))))))) : V_X11_treaty_13 l G a0 x1 x2 x3 S Q := by
  refine mj_iload_n dX11_treaty_13 rfl rfl ?_
  refine mj_aload_n dX11_treaty_14 rfl rfl ?_
  refine mj_getI dX11_treaty_15 fl_X11_261_10 hk_a0 rfl ?_
  refine mj_icmp_ge (tgt := 69) dX11_treaty_18 (by decide) ⟨fun hc => ?_, fun hc => ?_⟩
  · replace h := h.1 hc
    refine mj_iconst (v := 1) dX11_treaty_69 (by decide) ?_
    exact mj_reti dX11_treaty_70 rfl ⟨Nat.le_of_ble_eq_true rfl, Nat.le_of_ble_eq_true rfl⟩ h
  · replace h := h.2 hc
    refine mj_aload_n dX11_treaty_21 rfl rfl ?_
    refine mj_iload_n dX11_treaty_22 rfl rfl ?_
    refine mj_aload_n dX11_treaty_23 rfl rfl ?_
    refine mj_iload_n dX11_treaty_24 rfl rfl ?_
    refine mj_iload_n dX11_treaty_25 rfl rfl ?_
    refine mj_callVi (as := [.int x1, .int x3]) (st := [.int x1, .ref a0]) dX11_treaty_26 cal_X11_turnOf lk_X11_424 im_X11_turnOf se_X11_turnOf (ci := 10) rfl (by decide) hk_a0 h rfl (Nat.le_of_ble_eq_true rfl) (by decide) ⟨Nat.le_of_ble_eq_true rfl, Nat.le_of_ble_eq_true rfl⟩ (fun S1 r2 h hn_r2 hp => ?_)
    have hk_a0 : m_kd S1 a0 = 10 := m_kd_pre hp hk_a0 (by decide)
    refine mj_callVi (as := [.int x1, .int r2]) (st := []) dX11_treaty_29 cal_X11_hasBy lk_X11_427 im_X11_hasBy se_X11_hasBy (ci := 10) rfl (by decide) hk_a0 h rfl (Nat.le_of_ble_eq_true rfl) (by decide) ⟨Nat.le_of_ble_eq_true rfl, Nat.le_of_ble_eq_true rfl⟩ (fun S3 r4 h hn_r4 hp => ?_)
    have hk_a0 : m_kd S3 a0 = 10 := m_kd_pre hp hk_a0 (by decide)
    refine mj_aload_n dX11_treaty_32 rfl rfl ?_
    refine mj_iload_n dX11_treaty_33 rfl rfl ?_
    refine mj_iconst (v := 0) dX11_treaty_34 (by decide) ?_
    refine mj_callVi (as := [.int x1, .int (0 : Int32)]) (st := [.int r4]) dX11_treaty_35 cal_X11_hasBy lk_X11_427 im_X11_hasBy se_X11_hasBy (ci := 10) rfl (by decide) hk_a0 h rfl (Nat.le_of_ble_eq_true rfl) (by decide) ⟨Nat.le_of_ble_eq_true rfl, Nat.le_of_ble_eq_true rfl⟩ (fun S5 r6 h hn_r6 hp => ?_)
    have hk_a0 : m_kd S5 a0 = 10 := m_kd_pre hp hk_a0 (by decide)
    refine mj_icmp_gt (tgt := 61) dX11_treaty_38 (by decide) ⟨fun hc => ?_, fun hc => ?_⟩
    · replace h := h.1 hc
      refine mj_iconst (v := 0) dX11_treaty_61 (by decide) ?_
      exact mj_reti dX11_treaty_62 rfl ⟨Nat.le_of_ble_eq_true rfl, Nat.le_of_ble_eq_true rfl⟩ h
    · replace h := h.2 hc
      refine mj_aload_n dX11_treaty_41 rfl rfl ?_
      refine mj_iload_n dX11_treaty_42 rfl rfl ?_
      refine mj_aload_n dX11_treaty_43 rfl rfl ?_
      refine mj_iload_n dX11_treaty_44 rfl rfl ?_
      refine mj_iload_n dX11_treaty_45 rfl rfl ?_
      refine mj_callVi (as := [.int x2, .int x3]) (st := [.int x2, .ref a0]) dX11_treaty_46 cal_X11_turnOf lk_X11_424 im_X11_turnOf se_X11_turnOf (ci := 10) rfl (by decide) hk_a0 h rfl (Nat.le_of_ble_eq_true rfl) (by decide) ⟨Nat.le_of_ble_eq_true rfl, Nat.le_of_ble_eq_true rfl⟩ (fun S7 r8 h hn_r8 hp => ?_)
      have hk_a0 : m_kd S7 a0 = 10 := m_kd_pre hp hk_a0 (by decide)
      refine mj_callVi (as := [.int x2, .int r8]) (st := []) dX11_treaty_49 cal_X11_hasBy lk_X11_427 im_X11_hasBy se_X11_hasBy (ci := 10) rfl (by decide) hk_a0 h rfl (Nat.le_of_ble_eq_true rfl) (by decide) ⟨Nat.le_of_ble_eq_true rfl, Nat.le_of_ble_eq_true rfl⟩ (fun S9 r10 h hn_r10 hp => ?_)
      have hk_a0 : m_kd S9 a0 = 10 := m_kd_pre hp hk_a0 (by decide)
      refine mj_aload_n dX11_treaty_52 rfl rfl ?_
      refine mj_iload_n dX11_treaty_53 rfl rfl ?_
      refine mj_iconst (v := 0) dX11_treaty_54 (by decide) ?_
      refine mj_callVi (as := [.int x2, .int (0 : Int32)]) (st := [.int r10]) dX11_treaty_55 cal_X11_hasBy lk_X11_427 im_X11_hasBy se_X11_hasBy (ci := 10) rfl (by decide) hk_a0 h rfl (Nat.le_of_ble_eq_true rfl) (by decide) ⟨Nat.le_of_ble_eq_true rfl, Nat.le_of_ble_eq_true rfl⟩ (fun S11 r12 h hn_r12 hp => ?_)
      have hk_a0 : m_kd S11 a0 = 10 := m_kd_pre hp hk_a0 (by decide)
      refine mj_icmp_le (tgt := 63) dX11_treaty_58 (by decide) ⟨fun hc => ?_, fun hc => ?_⟩
      · replace h := h.1 hc
        obtain ⟨v13, ev13⟩ : ∃ z : Int32, z = x3 + (1 : Int32) := ⟨_, rfl⟩
        refine mj_iinc (v := v13) dX11_treaty_63 rfl (by rw [ev13]; rfl) (by decide) rfl rfl ?_
        replace h := h v13 ev13
        refine mj_goto (tgt := 13) dX11_treaty_66 (by decide) ?_
        exact h
      · replace h := h.2 hc
        refine mj_iconst (v := 0) dX11_treaty_61 (by decide) ?_
        exact mj_reti dX11_treaty_62 rfl ⟨Nat.le_of_ble_eq_true rfl, Nat.le_of_ble_eq_true rfl⟩ h
abbrev V_X11_air_0 (l : Launch) (G : mj_G) (a0 : Nat) (x1 : Int32) (S : mj_S) (Q : mj_S → Int32 → Prop) : Prop := mj_V l G (mj_room 6 0 0) RX11 cX11_air 3 (some .int) false 0 [some (.ref a0), some (.int x1), none] [] S 0 0 (mj_std G (some .int) (mj_room 6 0 0) (mj_qi Q))
theorem e_X11_air {l : Launch} {G : mj_G} {a0 : Nat} {x1 : Int32} {S : mj_S} {Q : mj_S → Int32 → Prop} (h : V_X11_air_0 l G a0 x1 S Q) : M_X11_air l G a0 x1 S Q := mj_enter (r := 1) (ini := false) (by decide +kernel) (fun h => by cases h) (fun _ => Nat.le_of_ble_eq_true rfl) rfl h
set_option maxRecDepth 20000 in
set_option maxHeartbeats 1000000 in
theorem b_X11_air_0 {l : Launch} {G : mj_G} {a0 : Nat} {x1 : Int32} {S : mj_S} {Q : mj_S → Int32 → Prop} (hk_a0 : m_kd S a0 = 10) (h : M_X11_isPerson l G a0 x1 S (fun S1 r2 => ((¬ r2 = 0) → ∃ b3, m_gp S1 a0 28 = some b3 ∧ (vp_in ((11 : Int32) + x1) (m_ln S1 b3) ∧ (M_X11_stateOf l G a0 (m_gi S1 b3 (((11 : Int32) + x1)).toNatClampNeg) S1 (fun S4 r5 => M_J6_bitCount_0f7a4 l G r5 S4 (fun S6 r7 => M_X11_personsIn l G a0 r5 S6 (fun S8 r9 => ¬ r9 = 0 ∧ (Q S8 (r7 / r9)))))))) ∧ ((r2 = 0) → Q S1 (-1 : Int32)))) : V_X11_air_0 l G a0 x1 S Q := by
  refine mj_aload_n dX11_air_0 rfl rfl ?_
  refine mj_iload_n dX11_air_1 rfl rfl ?_
  refine mj_callVi (as := [.int x1]) (st := []) dX11_air_2 cal_X11_isPerson lk_X11_344 im_X11_isPerson se_X11_isPerson (ci := 10) rfl (by decide) hk_a0 h rfl (Nat.le_of_ble_eq_true rfl) (by decide) ⟨Nat.le_of_ble_eq_true rfl, Nat.le_of_ble_eq_true rfl⟩ (fun S1 r2 h hn_r2 hp => ?_)
  have hk_a0 : m_kd S1 a0 = 10 := m_kd_pre hp hk_a0 (by decide)
  refine mj_if_ne (tgt := 10) dX11_air_5 (by decide) ⟨fun hc => ?_, fun hc => ?_⟩
  · replace h := h.1 hc
    refine mj_aload_n dX11_air_10 rfl rfl ?_
    refine mj_aload_n dX11_air_11 rfl rfl ?_
    obtain ⟨b3, eb3, h⟩ := h
    refine mj_getP dX11_air_12 fl_X11_58_10 hk_a0 rfl ⟨b3, eb3, fun hk_b3 => ?_⟩
    refine mj_bipush (v := 11) dX11_air_15 (by decide) ?_
    refine mj_iload_n dX11_air_17 rfl rfl ?_
    refine mj_iadd dX11_air_18 ?_
    refine mj_iald dX11_air_19 (Or.inl hk_b3) ⟨h.1, ?_⟩
    replace h := h.2
    refine mj_callVi (as := [.int (m_gi S1 b3 (((11 : Int32) + x1)).toNatClampNeg)]) (st := []) dX11_air_20 cal_X11_stateOf lk_X11_328 im_X11_stateOf se_X11_stateOf (ci := 10) rfl (by decide) hk_a0 h rfl (Nat.le_of_ble_eq_true rfl) (by decide) ⟨Nat.le_of_ble_eq_true rfl, Nat.le_of_ble_eq_true rfl⟩ (fun S4 r5 h hn_r5 hp => ?_)
    have hk_a0 : m_kd S4 a0 = 10 := m_kd_pre hp hk_a0 (by decide)
    have hk_b3 : m_kd S4 b3 = 100 := m_kd_pre hp hk_b3 (by decide)
    refine mj_istore_n dX11_air_23 rfl (by decide) rfl rfl ?_
    refine mj_iload_n dX11_air_24 rfl rfl ?_
    refine mj_callSi (as := [.int r5]) (st := []) dX11_air_25 cal_J6_bitCount_0f7a4 lk_X11_400 sm_J6_bitCount_0f7a4 h rfl (Nat.le_of_ble_eq_true rfl) (by decide) ⟨Nat.le_of_ble_eq_true rfl, Nat.le_of_ble_eq_true rfl⟩ (fun S6 r7 h hn_r7 hp => ?_)
    have hk_a0 : m_kd S6 a0 = 10 := m_kd_pre hp hk_a0 (by decide)
    have hk_b3 : m_kd S6 b3 = 100 := m_kd_pre hp hk_b3 (by decide)
    refine mj_aload_n dX11_air_28 rfl rfl ?_
    refine mj_iload_n dX11_air_29 rfl rfl ?_
    refine mj_callVi (as := [.int r5]) (st := [.int r7]) dX11_air_30 cal_X11_personsIn lk_X11_444 im_X11_personsIn se_X11_personsIn (ci := 10) rfl (by decide) hk_a0 h rfl (Nat.le_of_ble_eq_true rfl) (by decide) ⟨Nat.le_of_ble_eq_true rfl, Nat.le_of_ble_eq_true rfl⟩ (fun S8 r9 h hn_r9 hp => ?_)
    have hk_a0 : m_kd S8 a0 = 10 := m_kd_pre hp hk_a0 (by decide)
    have hk_b3 : m_kd S8 b3 = 100 := m_kd_pre hp hk_b3 (by decide)
    refine mj_idiv dX11_air_33 h.1 ?_
    replace h := h.2
    exact mj_reti dX11_air_34 rfl ⟨Nat.le_of_ble_eq_true rfl, Nat.le_of_ble_eq_true rfl⟩ h
  · replace h := h.2 hc
    refine mj_iconst (v := (-1)) dX11_air_8 (by decide) ?_
    exact mj_reti dX11_air_9 rfl ⟨Nat.le_of_ble_eq_true rfl, Nat.le_of_ble_eq_true rfl⟩ h
abbrev V_X11_faded_0 (l : Launch) (G : mj_G) (a0 : Nat) (x1 : Int32) (x2 : Int32) (S : mj_S) (Q : mj_S → Int32 → Prop) : Prop := mj_V l G (mj_room 3 0 0) RX11 cX11_faded 3 (some .int) false 0 [some (.ref a0), some (.int x1), some (.int x2)] [] S 0 0 (mj_std G (some .int) (mj_room 3 0 0) (mj_qi Q))
theorem e_X11_faded {l : Launch} {G : mj_G} {a0 : Nat} {x1 : Int32} {x2 : Int32} {S : mj_S} {Q : mj_S → Int32 → Prop} (h : V_X11_faded_0 l G a0 x1 x2 S Q) : M_X11_faded l G a0 x1 x2 S Q := mj_enter (r := 0) (ini := false) (by decide +kernel) (fun h => by cases h) (fun _ => Nat.le_of_ble_eq_true rfl) rfl h
set_option maxRecDepth 20000 in
set_option maxHeartbeats 1000000 in
theorem b_X11_faded_0 {l : Launch} {G : mj_G} {a0 : Nat} {x1 : Int32} {x2 : Int32} {S : mj_S} {Q : mj_S → Int32 → Prop} (hk_a0 : m_kd S a0 = 10) (h : M_X11_isCurtain l G a0 x1 S (fun S1 r2 => ((r2 = 0) → Q S1 (-1 : Int32)) ∧ ((¬ (r2 = 0)) → ((¬ (m_gi S1 a0 44) = (10 : Int32)) → ∃ b3, m_gp S1 a0 42 = some b3 ∧ (vp_in (m_gi S1 a0 44) (m_ln S1 b3) ∧ (∀ S4 : mj_S, S4 = m_si S1 b3 ((m_gi S1 a0 44)).toNatClampNeg x1 → ∃ b5, m_gp S4 a0 43 = some b5 ∧ (vp_in (m_gi S4 a0 44) (m_ln S4 b5) ∧ (∀ S6 : mj_S, S6 = m_si S4 b5 ((m_gi S4 a0 44)).toNatClampNeg (vp_nar .boolean x2) → ∀ S7 : mj_S, S7 = m_si S6 a0 44 ((m_gi S6 a0 44) + (1 : Int32)) → Q S7 (m_gi S7 a0 44)))))) ∧ (((m_gi S1 a0 44) = (10 : Int32)) → Q S1 (-1 : Int32))))) : V_X11_faded_0 l G a0 x1 x2 S Q := by
  refine mj_aload_n dX11_faded_0 rfl rfl ?_
  refine mj_iload_n dX11_faded_1 rfl rfl ?_
  refine mj_callVi (as := [.int x1]) (st := []) dX11_faded_2 cal_X11_isCurtain lk_X11_295 im_X11_isCurtain se_X11_isCurtain (ci := 10) rfl (by decide) hk_a0 h rfl (Nat.le_of_ble_eq_true rfl) (by decide) ⟨Nat.le_of_ble_eq_true rfl, Nat.le_of_ble_eq_true rfl⟩ (fun S1 r2 h hn_r2 hp => ?_)
  have hk_a0 : m_kd S1 a0 = 10 := m_kd_pre hp hk_a0 (by decide)
  refine mj_if_eq (tgt := 17) dX11_faded_5 (by decide) ⟨fun hc => ?_, fun hc => ?_⟩
  · replace h := h.1 hc
    refine mj_iconst (v := (-1)) dX11_faded_17 (by decide) ?_
    exact mj_reti dX11_faded_18 rfl ⟨Nat.le_of_ble_eq_true rfl, Nat.le_of_ble_eq_true rfl⟩ h
  · replace h := h.2 hc
    refine mj_aload_n dX11_faded_8 rfl rfl ?_
    refine mj_getI dX11_faded_9 fl_X11_279_10 hk_a0 rfl ?_
    refine mj_bipush (v := 10) dX11_faded_12 (by decide) ?_
    refine mj_icmp_ne (tgt := 19) dX11_faded_14 (by decide) ⟨fun hc => ?_, fun hc => ?_⟩
    · replace h := h.1 hc
      refine mj_aload_n dX11_faded_19 rfl rfl ?_
      obtain ⟨b3, eb3, h⟩ := h
      refine mj_getP dX11_faded_20 fl_X11_92_10 hk_a0 rfl ⟨b3, eb3, fun hk_b3 => ?_⟩
      refine mj_aload_n dX11_faded_23 rfl rfl ?_
      refine mj_getI dX11_faded_24 fl_X11_279_10 hk_a0 rfl ?_
      refine mj_iload_n dX11_faded_27 rfl rfl ?_
      refine mj_iast dX11_faded_28 hk_b3 ⟨h.1, ?_⟩
      replace h := h.2
      obtain ⟨S4, eS4⟩ : ∃ z, z = m_si S1 b3 ((m_gi S1 a0 44)).toNatClampNeg x1 := ⟨_, rfl⟩
      rw [← eS4]
      replace h := h S4 eS4
      have hk_a0 : m_kd S4 a0 = 10 := by rw [eS4]; exact hk_a0
      have hk_b3 : m_kd S4 b3 = 100 := by rw [eS4]; exact hk_b3
      refine mj_aload_n dX11_faded_29 rfl rfl ?_
      obtain ⟨b5, eb5, h⟩ := h
      refine mj_getP dX11_faded_30 fl_X11_95_10 hk_a0 rfl ⟨b5, eb5, fun hk_b5 => ?_⟩
      refine mj_aload_n dX11_faded_33 rfl rfl ?_
      refine mj_getI dX11_faded_34 fl_X11_279_10 hk_a0 rfl ?_
      refine mj_iload_n dX11_faded_37 rfl rfl ?_
      refine mj_bast dX11_faded_38 hk_b5 ⟨h.1, ?_⟩
      replace h := h.2
      obtain ⟨S6, eS6⟩ : ∃ z, z = m_si S4 b5 ((m_gi S4 a0 44)).toNatClampNeg (vp_nar .boolean x2) := ⟨_, rfl⟩
      rw [← eS6]
      replace h := h S6 eS6
      have hk_a0 : m_kd S6 a0 = 10 := by rw [eS6]; exact hk_a0
      have hk_b3 : m_kd S6 b3 = 100 := by rw [eS6]; exact hk_b3
      have hk_b5 : m_kd S6 b5 = 101 := by rw [eS6]; exact hk_b5
      refine mj_aload_n dX11_faded_39 rfl rfl ?_
      refine mj_dup dX11_faded_40 rfl ?_
      refine mj_getI dX11_faded_41 fl_X11_279_10 hk_a0 rfl ?_
      refine mj_iconst (v := 1) dX11_faded_44 (by decide) ?_
      refine mj_iadd dX11_faded_45 ?_
      refine mj_putI dX11_faded_46 fl_X11_279_10 hk_a0 (Or.inl rfl) rfl rfl rfl ?_
      obtain ⟨S7, eS7⟩ : ∃ z, z = m_si S6 a0 44 ((m_gi S6 a0 44) + (1 : Int32)) := ⟨_, rfl⟩
      rw [← eS7]
      replace h := h S7 eS7
      have hk_a0 : m_kd S7 a0 = 10 := by rw [eS7]; exact hk_a0
      have hk_b3 : m_kd S7 b3 = 100 := by rw [eS7]; exact hk_b3
      have hk_b5 : m_kd S7 b5 = 101 := by rw [eS7]; exact hk_b5
      refine mj_aload_n dX11_faded_49 rfl rfl ?_
      refine mj_getI dX11_faded_50 fl_X11_279_10 hk_a0 rfl ?_
      exact mj_reti dX11_faded_53 rfl ⟨Nat.le_of_ble_eq_true rfl, Nat.le_of_ble_eq_true rfl⟩ h
    · replace h := h.2 hc
      refine mj_iconst (v := (-1)) dX11_faded_17 (by decide) ?_
      exact mj_reti dX11_faded_18 rfl ⟨Nat.le_of_ble_eq_true rfl, Nat.le_of_ble_eq_true rfl⟩ h
abbrev V_X11_couldLean_0 (l : Launch) (G : mj_G) (a0 : Nat) (x1 : Int32) (x2 : Int32) (S : mj_S) (Q : mj_S → Int32 → Prop) : Prop := mj_V l G (mj_room 4 0 0) RX11 cX11_couldLean 4 (some .boolean) false 0 [some (.ref a0), some (.int x1), some (.int x2), none] [] S 0 0 (mj_std G (some .boolean) (mj_room 4 0 0) (mj_qi Q))
abbrev V_X11_couldLean_2 (l : Launch) (G : mj_G) (a0 : Nat) (x1 : Int32) (x2 : Int32) (x3 : Int32) (S : mj_S) (Q : mj_S → Int32 → Prop) : Prop := mj_V l G (mj_room 4 0 0) RX11 cX11_couldLean 4 (some .boolean) false 2 [some (.ref a0), some (.int x1), some (.int x2), some (.int x3)] [] S 0 0 (mj_std G (some .boolean) (mj_room 4 0 0) (mj_qi Q))
theorem e_X11_couldLean {l : Launch} {G : mj_G} {a0 : Nat} {x1 : Int32} {x2 : Int32} {S : mj_S} {Q : mj_S → Int32 → Prop} (h : V_X11_couldLean_0 l G a0 x1 x2 S Q) : M_X11_couldLean l G a0 x1 x2 S Q := mj_enter (r := 1) (ini := false) (by decide +kernel) (fun h => by cases h) (fun _ => Nat.le_of_ble_eq_true rfl) rfl h
set_option maxRecDepth 20000 in
set_option maxHeartbeats 1000000 in
theorem b_X11_couldLean_0 {l : Launch} {G : mj_G} {a0 : Nat} {x1 : Int32} {x2 : Int32} {S : mj_S} {Q : mj_S → Int32 → Prop} (hk_a0 : m_kd S a0 = 10) (h : V_X11_couldLean_2 l G a0 x1 x2 (0 : Int32) S Q) : V_X11_couldLean_0 l G a0 x1 x2 S Q := by
  refine mj_iconst (v := 0) dX11_couldLean_0 (by decide) ?_
  refine mj_istore_n dX11_couldLean_1 rfl (by decide) rfl rfl ?_
  exact h
set_option maxRecDepth 20000 in
set_option maxHeartbeats 1000000 in
theorem b_X11_couldLean_2 {l : Launch} {G : mj_G} {a0 : Nat} {x1 : Int32} {x2 : Int32} {x3 : Int32} {S : mj_S} {Q : mj_S → Int32 → Prop} (hk_a0 : m_kd S a0 = 10) (h : (((m_gi S a0 27) ≤ x3) → Q S (0 : Int32)) ∧ ((¬ ((m_gi S a0 27) ≤ x3)) → M_X11_has l G x1 x3 S (fun S1 r2 => ((r2 = 0) → ∀ v3 : Int32, v3 = x3 + (1 : Int32) → V_X11_couldLean_2 l G a0 x1 x2 v3 S1 Q) ∧ ((¬ (r2 = 0)) → ∃ b4, m_gp S1 a0 28 = some b4 ∧ (vp_in ((11 : Int32) + x3) (m_ln S1 b4) ∧ (M_X11_isAt l G a0 x2 (m_gi S1 b4 (((11 : Int32) + x3)).toNatClampNeg) S1 (fun S5 r6 => ((r6 = 0) → ∀ v7 : Int32, v7 = x3 + (1 : Int32) → V_X11_couldLean_2 l G a0 x1 x2 v7 S5 Q) ∧ ((¬ (r6 = 0)) → Q S5 (1 : Int32))))))))) : V_X11_couldLean_2 l G a0 x1 x2 x3 S Q := by
  refine mj_iload_n dX11_couldLean_2 rfl rfl ?_
  refine mj_aload_n dX11_couldLean_3 rfl rfl ?_
  refine mj_getI dX11_couldLean_4 fl_X11_264_10 hk_a0 rfl ?_
  refine mj_icmp_ge (tgt := 43) dX11_couldLean_7 (by decide) ⟨fun hc => ?_, fun hc => ?_⟩
  · replace h := h.1 hc
    refine mj_iconst (v := 0) dX11_couldLean_43 (by decide) ?_
    exact mj_retz dX11_couldLean_44 rfl (rfl) ⟨Nat.le_of_ble_eq_true rfl, Nat.le_of_ble_eq_true rfl⟩ h
  · replace h := h.2 hc
    refine mj_iload_n dX11_couldLean_10 rfl rfl ?_
    refine mj_iload_n dX11_couldLean_11 rfl rfl ?_
    refine mj_callSi (as := [.int x1, .int x3]) (st := []) dX11_couldLean_12 cal_X11_has lk_X11_228 sm_X11_has h rfl (Nat.le_of_ble_eq_true rfl) (by decide) ⟨Nat.le_of_ble_eq_true rfl, Nat.le_of_ble_eq_true rfl⟩ (fun S1 r2 h hn_r2 hp => ?_)
    have hk_a0 : m_kd S1 a0 = 10 := m_kd_pre hp hk_a0 (by decide)
    refine mj_if_eq (tgt := 37) dX11_couldLean_15 (by decide) ⟨fun hc => ?_, fun hc => ?_⟩
    · replace h := h.1 hc
      obtain ⟨v3, ev3⟩ : ∃ z : Int32, z = x3 + (1 : Int32) := ⟨_, rfl⟩
      refine mj_iinc (v := v3) dX11_couldLean_37 rfl (by rw [ev3]; rfl) (by decide) rfl rfl ?_
      replace h := h v3 ev3
      refine mj_goto (tgt := 2) dX11_couldLean_40 (by decide) ?_
      exact h
    · replace h := h.2 hc
      refine mj_aload_n dX11_couldLean_18 rfl rfl ?_
      refine mj_iload_n dX11_couldLean_19 rfl rfl ?_
      refine mj_aload_n dX11_couldLean_20 rfl rfl ?_
      obtain ⟨b4, eb4, h⟩ := h
      refine mj_getP dX11_couldLean_21 fl_X11_58_10 hk_a0 rfl ⟨b4, eb4, fun hk_b4 => ?_⟩
      refine mj_bipush (v := 11) dX11_couldLean_24 (by decide) ?_
      refine mj_iload_n dX11_couldLean_26 rfl rfl ?_
      refine mj_iadd dX11_couldLean_27 ?_
      refine mj_iald dX11_couldLean_28 (Or.inl hk_b4) ⟨h.1, ?_⟩
      replace h := h.2
      refine mj_callVi (as := [.int x2, .int (m_gi S1 b4 (((11 : Int32) + x3)).toNatClampNeg)]) (st := []) dX11_couldLean_29 cal_X11_isAt lk_X11_368 im_X11_isAt se_X11_isAt (ci := 10) rfl (by decide) hk_a0 h rfl (Nat.le_of_ble_eq_true rfl) (by decide) ⟨Nat.le_of_ble_eq_true rfl, Nat.le_of_ble_eq_true rfl⟩ (fun S5 r6 h hn_r6 hp => ?_)
      have hk_a0 : m_kd S5 a0 = 10 := m_kd_pre hp hk_a0 (by decide)
      have hk_b4 : m_kd S5 b4 = 100 := m_kd_pre hp hk_b4 (by decide)
      refine mj_if_eq (tgt := 37) dX11_couldLean_32 (by decide) ⟨fun hc => ?_, fun hc => ?_⟩
      · replace h := h.1 hc
        obtain ⟨v7, ev7⟩ : ∃ z : Int32, z = x3 + (1 : Int32) := ⟨_, rfl⟩
        refine mj_iinc (v := v7) dX11_couldLean_37 rfl (by rw [ev7]; rfl) (by decide) rfl rfl ?_
        replace h := h v7 ev7
        refine mj_goto (tgt := 2) dX11_couldLean_40 (by decide) ?_
        exact h
      · replace h := h.2 hc
        refine mj_iconst (v := 1) dX11_couldLean_35 (by decide) ?_
        exact mj_retz dX11_couldLean_36 rfl (rfl) ⟨Nat.le_of_ble_eq_true rfl, Nat.le_of_ble_eq_true rfl⟩ h
abbrev V_X11_isLeant_0 (l : Launch) (G : mj_G) (a0 : Nat) (x1 : Int32) (x2 : Int32) (S : mj_S) (Q : mj_S → Int32 → Prop) : Prop := mj_V l G (mj_room 5 0 0) RX11 cX11_isLeant 5 (some .boolean) false 0 [some (.ref a0), some (.int x1), some (.int x2), none, none] [] S 0 0 (mj_std G (some .boolean) (mj_room 5 0 0) (mj_qi Q))
abbrev V_X11_isLeant_17 (l : Launch) (G : mj_G) (a0 : Nat) (x2 : Int32) (x3 : Int32) (x4 : Int32) (S : mj_S) (Q : mj_S → Int32 → Prop) : Prop := mj_V l G (mj_room 5 0 0) RX11 cX11_isLeant 5 (some .boolean) false 17 [some (.ref a0), none, some (.int x2), some (.int x3), some (.int x4)] [] S 0 0 (mj_std G (some .boolean) (mj_room 5 0 0) (mj_qi Q))
theorem e_X11_isLeant {l : Launch} {G : mj_G} {a0 : Nat} {x1 : Int32} {x2 : Int32} {S : mj_S} {Q : mj_S → Int32 → Prop} (h : V_X11_isLeant_0 l G a0 x1 x2 S Q) : M_X11_isLeant l G a0 x1 x2 S Q := mj_enter (r := 2) (ini := false) (by decide +kernel) (fun h => by cases h) (fun _ => Nat.le_of_ble_eq_true rfl) rfl h
set_option maxRecDepth 20000 in
set_option maxHeartbeats 1000000 in
theorem b_X11_isLeant_0 {l : Launch} {G : mj_G} {a0 : Nat} {x1 : Int32} {x2 : Int32} {S : mj_S} {Q : mj_S → Int32 → Prop} (hk_a0 : m_kd S a0 = 10) (h : M_J6_bitCount_0f7a4 l G x2 S (fun S1 r2 => ((¬ r2 = x1) → V_X11_isLeant_17 l G a0 x2 (0 : Int32) (0 : Int32) S1 Q) ∧ ((r2 = x1) → V_X11_isLeant_17 l G a0 x2 (1 : Int32) (0 : Int32) S1 Q))) : V_X11_isLeant_0 l G a0 x1 x2 S Q := by
  refine mj_iload_n dX11_isLeant_0 rfl rfl ?_
  refine mj_callSi (as := [.int x2]) (st := []) dX11_isLeant_1 cal_J6_bitCount_0f7a4 lk_X11_400 sm_J6_bitCount_0f7a4 h rfl (Nat.le_of_ble_eq_true rfl) (by decide) ⟨Nat.le_of_ble_eq_true rfl, Nat.le_of_ble_eq_true rfl⟩ (fun S1 r2 h hn_r2 hp => ?_)
  have hk_a0 : m_kd S1 a0 = 10 := m_kd_pre hp hk_a0 (by decide)
  refine mj_iload_n dX11_isLeant_4 rfl rfl ?_
  refine mj_icmp_ne (tgt := 12) dX11_isLeant_5 (by decide) ⟨fun hc => ?_, fun hc => ?_⟩
  · replace h := h.1 hc
    refine mj_iconst (v := 0) dX11_isLeant_12 (by decide) ?_
    refine mj_istore_n dX11_isLeant_13 rfl (by decide) rfl rfl ?_
    refine mj_iconst (v := 0) dX11_isLeant_14 (by decide) ?_
    refine mj_istore dX11_isLeant_15 (by decide) rfl rfl ?_
    exact mj_lessm [true, false, true, true, true] rfl h
  · replace h := h.2 hc
    refine mj_iconst (v := 1) dX11_isLeant_8 (by decide) ?_
    refine mj_goto (tgt := 13) dX11_isLeant_9 (by decide) ?_
    refine mj_istore_n dX11_isLeant_13 rfl (by decide) rfl rfl ?_
    refine mj_iconst (v := 0) dX11_isLeant_14 (by decide) ?_
    refine mj_istore dX11_isLeant_15 (by decide) rfl rfl ?_
    exact mj_lessm [true, false, true, true, true] rfl h
set_option maxRecDepth 20000 in
set_option maxHeartbeats 1000000 in
theorem b_X11_isLeant_17 {l : Launch} {G : mj_G} {a0 : Nat} {x2 : Int32} {x3 : Int32} {x4 : Int32} {S : mj_S} {Q : mj_S → Int32 → Prop} (hk_a0 : m_kd S a0 = 10) (h : (((m_gi S a0 44) ≤ x4) → narrow .boolean (.int x3) = .int x3 ∧ Q S x3) ∧ ((¬ ((m_gi S a0 44) ≤ x4)) → ((x3 = 0) → narrow .boolean (.int x3) = .int x3 ∧ Q S x3) ∧ ((¬ (x3 = 0)) → ∃ b1, m_gp S a0 42 = some b1 ∧ (vp_in x4 (m_ln S b1) ∧ (M_X11_couldLean l G a0 x2 (m_gi S b1 (x4).toNatClampNeg) S (fun S2 r3 => ∃ b4, m_gp S2 a0 43 = some b4 ∧ (vp_in x4 (m_ln S2 b4) ∧ (((¬ r3 = (m_gi S2 b4 (x4).toNatClampNeg)) → ∀ v5 : Int32, v5 = x4 + (1 : Int32) → V_X11_isLeant_17 l G a0 x2 (0 : Int32) v5 S2 Q) ∧ ((r3 = (m_gi S2 b4 (x4).toNatClampNeg)) → ∀ v6 : Int32, v6 = x4 + (1 : Int32) → V_X11_isLeant_17 l G a0 x2 (1 : Int32) v6 S2 Q))))))))) : V_X11_isLeant_17 l G a0 x2 x3 x4 S Q := by
  refine mj_iload dX11_isLeant_17 rfl ?_
  refine mj_aload_n dX11_isLeant_19 rfl rfl ?_
  refine mj_getI dX11_isLeant_20 fl_X11_279_10 hk_a0 rfl ?_
  refine mj_icmp_ge (tgt := 64) dX11_isLeant_23 (by decide) ⟨fun hc => ?_, fun hc => ?_⟩
  · replace h := h.1 hc
    refine mj_iload_n dX11_isLeant_64 rfl rfl ?_
    exact mj_retz dX11_isLeant_65 rfl h.1 ⟨Nat.le_of_ble_eq_true rfl, Nat.le_of_ble_eq_true rfl⟩ h.2
  · replace h := h.2 hc
    refine mj_iload_n dX11_isLeant_26 rfl rfl ?_
    refine mj_if_eq (tgt := 64) dX11_isLeant_27 (by decide) ⟨fun hc => ?_, fun hc => ?_⟩
    · replace h := h.1 hc
      refine mj_iload_n dX11_isLeant_64 rfl rfl ?_
      exact mj_retz dX11_isLeant_65 rfl h.1 ⟨Nat.le_of_ble_eq_true rfl, Nat.le_of_ble_eq_true rfl⟩ h.2
    · replace h := h.2 hc
      refine mj_aload_n dX11_isLeant_30 rfl rfl ?_
      refine mj_iload_n dX11_isLeant_31 rfl rfl ?_
      refine mj_aload_n dX11_isLeant_32 rfl rfl ?_
      obtain ⟨b1, eb1, h⟩ := h
      refine mj_getP dX11_isLeant_33 fl_X11_92_10 hk_a0 rfl ⟨b1, eb1, fun hk_b1 => ?_⟩
      refine mj_iload dX11_isLeant_36 rfl ?_
      refine mj_iald dX11_isLeant_38 (Or.inl hk_b1) ⟨h.1, ?_⟩
      replace h := h.2
      refine mj_callVi (as := [.int x2, .int (m_gi S b1 (x4).toNatClampNeg)]) (st := []) dX11_isLeant_39 cal_X11_couldLean lk_X11_447 im_X11_couldLean se_X11_couldLean (ci := 10) rfl (by decide) hk_a0 h rfl (Nat.le_of_ble_eq_true rfl) (by decide) ⟨Nat.le_of_ble_eq_true rfl, Nat.le_of_ble_eq_true rfl⟩ (fun S2 r3 h hn_r3 hp => ?_)
      have hk_a0 : m_kd S2 a0 = 10 := m_kd_pre hp hk_a0 (by decide)
      have hk_b1 : m_kd S2 b1 = 100 := m_kd_pre hp hk_b1 (by decide)
      refine mj_aload_n dX11_isLeant_42 rfl rfl ?_
      obtain ⟨b4, eb4, h⟩ := h
      refine mj_getP dX11_isLeant_43 fl_X11_95_10 hk_a0 rfl ⟨b4, eb4, fun hk_b4 => ?_⟩
      refine mj_iload dX11_isLeant_46 rfl ?_
      refine mj_bald dX11_isLeant_48 hk_b4 ⟨h.1, ?_⟩
      replace h := h.2
      refine mj_icmp_ne (tgt := 56) dX11_isLeant_49 (by decide) ⟨fun hc => ?_, fun hc => ?_⟩
      · replace h := h.1 hc
        refine mj_iconst (v := 0) dX11_isLeant_56 (by decide) ?_
        refine mj_istore_n dX11_isLeant_57 rfl (by decide) rfl rfl ?_
        obtain ⟨v5, ev5⟩ : ∃ z : Int32, z = x4 + (1 : Int32) := ⟨_, rfl⟩
        refine mj_iinc (v := v5) dX11_isLeant_58 rfl (by rw [ev5]; rfl) (by decide) rfl rfl ?_
        replace h := h v5 ev5
        refine mj_goto (tgt := 17) dX11_isLeant_61 (by decide) ?_
        exact h
      · replace h := h.2 hc
        refine mj_iconst (v := 1) dX11_isLeant_52 (by decide) ?_
        refine mj_goto (tgt := 57) dX11_isLeant_53 (by decide) ?_
        refine mj_istore_n dX11_isLeant_57 rfl (by decide) rfl rfl ?_
        obtain ⟨v6, ev6⟩ : ∃ z : Int32, z = x4 + (1 : Int32) := ⟨_, rfl⟩
        refine mj_iinc (v := v6) dX11_isLeant_58 rfl (by rw [ev6]; rfl) (by decide) rfl rfl ?_
        replace h := h v6 ev6
        refine mj_goto (tgt := 17) dX11_isLeant_61 (by decide) ?_
        exact h
abbrev V_X11_areLeaning_0 (l : Launch) (G : mj_G) (a0 : Nat) (x1 : Int32) (S : mj_S) (Q : mj_S → Int32 → Prop) : Prop := mj_V l G (mj_room 2 0 0) RX11 cX11_areLeaning 2 (some .boolean) false 0 [some (.ref a0), some (.int x1)] [] S 0 0 (mj_std G (some .boolean) (mj_room 2 0 0) (mj_qi Q))
theorem e_X11_areLeaning {l : Launch} {G : mj_G} {a0 : Nat} {x1 : Int32} {S : mj_S} {Q : mj_S → Int32 → Prop} (h : V_X11_areLeaning_0 l G a0 x1 S Q) : M_X11_areLeaning l G a0 x1 S Q := mj_enter (r := 0) (ini := false) (by decide +kernel) (fun h => by cases h) (fun _ => Nat.le_of_ble_eq_true rfl) rfl h
set_option maxRecDepth 20000 in
set_option maxHeartbeats 1000000 in
theorem b_X11_areLeaning_0 {l : Launch} {G : mj_G} {a0 : Nat} {x1 : Int32} {S : mj_S} {Q : mj_S → Int32 → Prop} (hk_a0 : m_kd S a0 = 10) (h : (((m_gi S a0 25) ≤ 0) → Q S (0 : Int32)) ∧ ((¬ ((m_gi S a0 25) ≤ 0)) → M_X11_in l G x1 (1 : Int32) (3 : Int32) S (fun S1 r2 => ((r2 = 0) → Q S1 (0 : Int32)) ∧ ((¬ (r2 = 0)) → Q S1 (1 : Int32))))) : V_X11_areLeaning_0 l G a0 x1 S Q := by
  refine mj_aload_n dX11_areLeaning_0 rfl rfl ?_
  refine mj_getI dX11_areLeaning_1 fl_X11_267_10 hk_a0 rfl ?_
  refine mj_if_le (tgt := 20) dX11_areLeaning_4 (by decide) ⟨fun hc => ?_, fun hc => ?_⟩
  · replace h := h.1 hc
    refine mj_iconst (v := 0) dX11_areLeaning_20 (by decide) ?_
    exact mj_retz dX11_areLeaning_21 rfl (rfl) ⟨Nat.le_of_ble_eq_true rfl, Nat.le_of_ble_eq_true rfl⟩ h
  · replace h := h.2 hc
    refine mj_iload_n dX11_areLeaning_7 rfl rfl ?_
    refine mj_iconst (v := 1) dX11_areLeaning_8 (by decide) ?_
    refine mj_iconst (v := 3) dX11_areLeaning_9 (by decide) ?_
    refine mj_callSi (as := [.int x1, .int (1 : Int32), .int (3 : Int32)]) (st := []) dX11_areLeaning_10 cal_X11_in lk_X11_217 sm_X11_in h rfl (Nat.le_of_ble_eq_true rfl) (by decide) ⟨Nat.le_of_ble_eq_true rfl, Nat.le_of_ble_eq_true rfl⟩ (fun S1 r2 h hn_r2 hp => ?_)
    have hk_a0 : m_kd S1 a0 = 10 := m_kd_pre hp hk_a0 (by decide)
    refine mj_if_eq (tgt := 20) dX11_areLeaning_13 (by decide) ⟨fun hc => ?_, fun hc => ?_⟩
    · replace h := h.1 hc
      refine mj_iconst (v := 0) dX11_areLeaning_20 (by decide) ?_
      exact mj_retz dX11_areLeaning_21 rfl (rfl) ⟨Nat.le_of_ble_eq_true rfl, Nat.le_of_ble_eq_true rfl⟩ h
    · replace h := h.2 hc
      refine mj_iconst (v := 1) dX11_areLeaning_16 (by decide) ?_
      refine mj_goto (tgt := 21) dX11_areLeaning_17 (by decide) ?_
      exact mj_retz dX11_areLeaning_21 rfl (rfl) ⟨Nat.le_of_ble_eq_true rfl, Nat.le_of_ble_eq_true rfl⟩ h
abbrev V_X11_leant_0 (l : Launch) (G : mj_G) (a0 : Nat) (x1 : Int32) (x2 : Int32) (S : mj_S) (Q : mj_S → Int32 → Prop) : Prop := mj_V l G (mj_room 6 0 0) RX11 cX11_leant 5 (some .int) false 0 [some (.ref a0), some (.int x1), some (.int x2), none, none] [] S 0 0 (mj_std G (some .int) (mj_room 6 0 0) (mj_qi Q))
abbrev V_X11_leant_20 (l : Launch) (G : mj_G) (a0 : Nat) (x1 : Int32) (x2 : Int32) (x3 : Int32) (x4 : Int32) (S : mj_S) (Q : mj_S → Int32 → Prop) : Prop := mj_V l G (mj_room 6 0 0) RX11 cX11_leant 5 (some .int) false 20 [some (.ref a0), some (.int x1), some (.int x2), some (.int x3), some (.int x4)] [] S 0 0 (mj_std G (some .int) (mj_room 6 0 0) (mj_qi Q))
theorem e_X11_leant {l : Launch} {G : mj_G} {a0 : Nat} {x1 : Int32} {x2 : Int32} {S : mj_S} {Q : mj_S → Int32 → Prop} (h : V_X11_leant_0 l G a0 x1 x2 S Q) : M_X11_leant l G a0 x1 x2 S Q := mj_enter (r := 2) (ini := false) (by decide +kernel) (fun h => by cases h) (fun _ => Nat.le_of_ble_eq_true rfl) rfl h
set_option maxRecDepth 20000 in
set_option maxHeartbeats 1000000 in
theorem b_X11_leant_0 {l : Launch} {G : mj_G} {a0 : Nat} {x1 : Int32} {x2 : Int32} {S : mj_S} {Q : mj_S → Int32 → Prop} (hk_a0 : m_kd S a0 = 10) (h : M_X11_areLeaning l G a0 x1 S (fun S1 r2 => ((r2 = 0) → Q S1 (-1 : Int32)) ∧ ((¬ (r2 = 0)) → (((-1 : Int32) ≤ x2) → V_X11_leant_20 l G a0 x1 x2 (0 : Int32) (0 : Int32) S1 Q) ∧ ((¬ ((-1 : Int32) ≤ x2)) → Q S1 (-1 : Int32))))) : V_X11_leant_0 l G a0 x1 x2 S Q := by
  refine mj_aload_n dX11_leant_0 rfl rfl ?_
  refine mj_iload_n dX11_leant_1 rfl rfl ?_
  refine mj_callVi (as := [.int x1]) (st := []) dX11_leant_2 cal_X11_areLeaning lk_X11_450 im_X11_areLeaning se_X11_areLeaning (ci := 10) rfl (by decide) hk_a0 h rfl (Nat.le_of_ble_eq_true rfl) (by decide) ⟨Nat.le_of_ble_eq_true rfl, Nat.le_of_ble_eq_true rfl⟩ (fun S1 r2 h hn_r2 hp => ?_)
  have hk_a0 : m_kd S1 a0 = 10 := m_kd_pre hp hk_a0 (by decide)
  refine mj_if_eq (tgt := 13) dX11_leant_5 (by decide) ⟨fun hc => ?_, fun hc => ?_⟩
  · replace h := h.1 hc
    refine mj_iconst (v := (-1)) dX11_leant_13 (by decide) ?_
    exact mj_reti dX11_leant_14 rfl ⟨Nat.le_of_ble_eq_true rfl, Nat.le_of_ble_eq_true rfl⟩ h
  · replace h := h.2 hc
    refine mj_iload_n dX11_leant_8 rfl rfl ?_
    refine mj_iconst (v := (-1)) dX11_leant_9 (by decide) ?_
    refine mj_icmp_ge (tgt := 15) dX11_leant_10 (by decide) ⟨fun hc => ?_, fun hc => ?_⟩
    · replace h := h.1 hc
      refine mj_iconst (v := 0) dX11_leant_15 (by decide) ?_
      refine mj_istore_n dX11_leant_16 rfl (by decide) rfl rfl ?_
      refine mj_iconst (v := 0) dX11_leant_17 (by decide) ?_
      refine mj_istore dX11_leant_18 (by decide) rfl rfl ?_
      exact h
    · replace h := h.2 hc
      refine mj_iconst (v := (-1)) dX11_leant_13 (by decide) ?_
      exact mj_reti dX11_leant_14 rfl ⟨Nat.le_of_ble_eq_true rfl, Nat.le_of_ble_eq_true rfl⟩ h
set_option maxRecDepth 20000 in
set_option maxHeartbeats 1000000 in
theorem b_X11_leant_20 {l : Launch} {G : mj_G} {a0 : Nat} {x1 : Int32} {x2 : Int32} {x3 : Int32} {x4 : Int32} {S : mj_S} {Q : mj_S → Int32 → Prop} (hk_a0 : m_kd S a0 = 10) (h : ((((1 : Int32) <<< ((m_gi S a0 27) &&& 31)) ≤ x4) → ((¬ x2 = (-1 : Int32)) → Q S (-1 : Int32)) ∧ ((x2 = (-1 : Int32)) → Q S x3)) ∧ ((¬ (((1 : Int32) <<< ((m_gi S a0 27) &&& 31)) ≤ x4)) → M_X11_isLeant l G a0 x1 x4 S (fun S1 r2 => ((r2 = 0) → ∀ v3 : Int32, v3 = x4 + (1 : Int32) → V_X11_leant_20 l G a0 x1 x2 x3 v3 S1 Q) ∧ ((¬ (r2 = 0)) → ((¬ x3 = x2) → ∀ v4 : Int32, v4 = x3 + (1 : Int32) → ∀ v5 : Int32, v5 = x4 + (1 : Int32) → V_X11_leant_20 l G a0 x1 x2 v4 v5 S1 Q) ∧ ((x3 = x2) → Q S1 x4))))) : V_X11_leant_20 l G a0 x1 x2 x3 x4 S Q := by
  refine mj_iload dX11_leant_20 rfl ?_
  refine mj_iconst (v := 1) dX11_leant_22 (by decide) ?_
  refine mj_aload_n dX11_leant_23 rfl rfl ?_
  refine mj_getI dX11_leant_24 fl_X11_264_10 hk_a0 rfl ?_
  refine mj_ishl dX11_leant_27 ?_
  refine mj_icmp_ge (tgt := 58) dX11_leant_28 (by decide) ⟨fun hc => ?_, fun hc => ?_⟩
  · replace h := h.1 hc
    refine mj_iload_n dX11_leant_58 rfl rfl ?_
    refine mj_iconst (v := (-1)) dX11_leant_59 (by decide) ?_
    refine mj_icmp_ne (tgt := 67) dX11_leant_60 (by decide) ⟨fun hc => ?_, fun hc => ?_⟩
    · replace h := h.1 hc
      refine mj_iconst (v := (-1)) dX11_leant_67 (by decide) ?_
      exact mj_reti dX11_leant_68 rfl ⟨Nat.le_of_ble_eq_true rfl, Nat.le_of_ble_eq_true rfl⟩ h
    · replace h := h.2 hc
      refine mj_iload_n dX11_leant_63 rfl rfl ?_
      refine mj_goto (tgt := 68) dX11_leant_64 (by decide) ?_
      exact mj_reti dX11_leant_68 rfl ⟨Nat.le_of_ble_eq_true rfl, Nat.le_of_ble_eq_true rfl⟩ h
  · replace h := h.2 hc
    refine mj_aload_n dX11_leant_31 rfl rfl ?_
    refine mj_iload_n dX11_leant_32 rfl rfl ?_
    refine mj_iload dX11_leant_33 rfl ?_
    refine mj_callVi (as := [.int x1, .int x4]) (st := []) dX11_leant_35 cal_X11_isLeant lk_X11_453 im_X11_isLeant se_X11_isLeant (ci := 10) rfl (by decide) hk_a0 h rfl (Nat.le_of_ble_eq_true rfl) (by decide) ⟨Nat.le_of_ble_eq_true rfl, Nat.le_of_ble_eq_true rfl⟩ (fun S1 r2 h hn_r2 hp => ?_)
    have hk_a0 : m_kd S1 a0 = 10 := m_kd_pre hp hk_a0 (by decide)
    refine mj_if_eq (tgt := 52) dX11_leant_38 (by decide) ⟨fun hc => ?_, fun hc => ?_⟩
    · replace h := h.1 hc
      obtain ⟨v3, ev3⟩ : ∃ z : Int32, z = x4 + (1 : Int32) := ⟨_, rfl⟩
      refine mj_iinc (v := v3) dX11_leant_52 rfl (by rw [ev3]; rfl) (by decide) rfl rfl ?_
      replace h := h v3 ev3
      refine mj_goto (tgt := 20) dX11_leant_55 (by decide) ?_
      exact h
    · replace h := h.2 hc
      refine mj_iload_n dX11_leant_41 rfl rfl ?_
      refine mj_iload_n dX11_leant_42 rfl rfl ?_
      refine mj_icmp_ne (tgt := 49) dX11_leant_43 (by decide) ⟨fun hc => ?_, fun hc => ?_⟩
      · replace h := h.1 hc
        obtain ⟨v4, ev4⟩ : ∃ z : Int32, z = x3 + (1 : Int32) := ⟨_, rfl⟩
        refine mj_iinc (v := v4) dX11_leant_49 rfl (by rw [ev4]; rfl) (by decide) rfl rfl ?_
        replace h := h v4 ev4
        obtain ⟨v5, ev5⟩ : ∃ z : Int32, z = x4 + (1 : Int32) := ⟨_, rfl⟩
        refine mj_iinc (v := v5) dX11_leant_52 rfl (by rw [ev5]; rfl) (by decide) rfl rfl ?_
        replace h := h v5 ev5
        refine mj_goto (tgt := 20) dX11_leant_55 (by decide) ?_
        exact h
      · replace h := h.2 hc
        refine mj_iload dX11_leant_46 rfl ?_
        exact mj_reti dX11_leant_48 rfl ⟨Nat.le_of_ble_eq_true rfl, Nat.le_of_ble_eq_true rfl⟩ h
abbrev V_X11_sure_0 (l : Launch) (G : mj_G) (a0 : Nat) (x1 : Int32) (S : mj_S) (Q : mj_S → Int32 → Prop) : Prop := mj_V l G (mj_room 6 0 0) RX11 cX11_sure 4 (some .int) false 0 [some (.ref a0), some (.int x1), none, none] [] S 0 0 (mj_std G (some .int) (mj_room 6 0 0) (mj_qi Q))
abbrev V_X11_sure_14 (l : Launch) (G : mj_G) (a0 : Nat) (x1 : Int32) (x2 : Int32) (x3 : Int32) (S : mj_S) (Q : mj_S → Int32 → Prop) : Prop := mj_V l G (mj_room 6 0 0) RX11 cX11_sure 4 (some .int) false 14 [some (.ref a0), some (.int x1), some (.int x2), some (.int x3)] [] S 0 0 (mj_std G (some .int) (mj_room 6 0 0) (mj_qi Q))
theorem e_X11_sure {l : Launch} {G : mj_G} {a0 : Nat} {x1 : Int32} {S : mj_S} {Q : mj_S → Int32 → Prop} (h : V_X11_sure_0 l G a0 x1 S Q) : M_X11_sure l G a0 x1 S Q := mj_enter (r := 2) (ini := false) (by decide +kernel) (fun h => by cases h) (fun _ => Nat.le_of_ble_eq_true rfl) rfl h
set_option maxRecDepth 20000 in
set_option maxHeartbeats 1000000 in
theorem b_X11_sure_0 {l : Launch} {G : mj_G} {a0 : Nat} {x1 : Int32} {S : mj_S} {Q : mj_S → Int32 → Prop} (hk_a0 : m_kd S a0 = 10) (h : M_X11_areLeaning l G a0 x1 S (fun S1 r2 => ((¬ r2 = 0) → V_X11_sure_14 l G a0 x1 (-1 : Int32) (0 : Int32) S1 Q) ∧ ((r2 = 0) → Q S1 (-1 : Int32)))) : V_X11_sure_0 l G a0 x1 S Q := by
  refine mj_aload_n dX11_sure_0 rfl rfl ?_
  refine mj_iload_n dX11_sure_1 rfl rfl ?_
  refine mj_callVi (as := [.int x1]) (st := []) dX11_sure_2 cal_X11_areLeaning lk_X11_450 im_X11_areLeaning se_X11_areLeaning (ci := 10) rfl (by decide) hk_a0 h rfl (Nat.le_of_ble_eq_true rfl) (by decide) ⟨Nat.le_of_ble_eq_true rfl, Nat.le_of_ble_eq_true rfl⟩ (fun S1 r2 h hn_r2 hp => ?_)
  have hk_a0 : m_kd S1 a0 = 10 := m_kd_pre hp hk_a0 (by decide)
  refine mj_if_ne (tgt := 10) dX11_sure_5 (by decide) ⟨fun hc => ?_, fun hc => ?_⟩
  · replace h := h.1 hc
    refine mj_iconst (v := (-1)) dX11_sure_10 (by decide) ?_
    refine mj_istore_n dX11_sure_11 rfl (by decide) rfl rfl ?_
    refine mj_iconst (v := 0) dX11_sure_12 (by decide) ?_
    refine mj_istore_n dX11_sure_13 rfl (by decide) rfl rfl ?_
    exact h
  · replace h := h.2 hc
    refine mj_iconst (v := (-1)) dX11_sure_8 (by decide) ?_
    exact mj_reti dX11_sure_9 rfl ⟨Nat.le_of_ble_eq_true rfl, Nat.le_of_ble_eq_true rfl⟩ h
set_option maxRecDepth 20000 in
set_option maxHeartbeats 1000000 in
theorem b_X11_sure_14 {l : Launch} {G : mj_G} {a0 : Nat} {x1 : Int32} {x2 : Int32} {x3 : Int32} {S : mj_S} {Q : mj_S → Int32 → Prop} (hk_a0 : m_kd S a0 = 10) (h : ((((1 : Int32) <<< ((m_gi S a0 27) &&& 31)) ≤ x3) → Q S x2) ∧ ((¬ (((1 : Int32) <<< ((m_gi S a0 27) &&& 31)) ≤ x3)) → M_X11_isLeant l G a0 x1 x3 S (fun S1 r2 => ((r2 = 0) → ∀ v3 : Int32, v3 = (x2 &&& (-1 : Int32)) → ∀ v4 : Int32, v4 = x3 + (1 : Int32) → V_X11_sure_14 l G a0 x1 v3 v4 S1 Q) ∧ ((¬ (r2 = 0)) → ∀ v5 : Int32, v5 = (x2 &&& x3) → ∀ v6 : Int32, v6 = x3 + (1 : Int32) → V_X11_sure_14 l G a0 x1 v5 v6 S1 Q)))) : V_X11_sure_14 l G a0 x1 x2 x3 S Q := by
  refine mj_iload_n dX11_sure_14 rfl rfl ?_
  refine mj_iconst (v := 1) dX11_sure_15 (by decide) ?_
  refine mj_aload_n dX11_sure_16 rfl rfl ?_
  refine mj_getI dX11_sure_17 fl_X11_264_10 hk_a0 rfl ?_
  refine mj_ishl dX11_sure_20 ?_
  refine mj_icmp_ge (tgt := 47) dX11_sure_21 (by decide) ⟨fun hc => ?_, fun hc => ?_⟩
  · replace h := h.1 hc
    refine mj_iload_n dX11_sure_47 rfl rfl ?_
    exact mj_reti dX11_sure_48 rfl ⟨Nat.le_of_ble_eq_true rfl, Nat.le_of_ble_eq_true rfl⟩ h
  · replace h := h.2 hc
    refine mj_iload_n dX11_sure_24 rfl rfl ?_
    refine mj_aload_n dX11_sure_25 rfl rfl ?_
    refine mj_iload_n dX11_sure_26 rfl rfl ?_
    refine mj_iload_n dX11_sure_27 rfl rfl ?_
    refine mj_callVi (as := [.int x1, .int x3]) (st := [.int x2]) dX11_sure_28 cal_X11_isLeant lk_X11_453 im_X11_isLeant se_X11_isLeant (ci := 10) rfl (by decide) hk_a0 h rfl (Nat.le_of_ble_eq_true rfl) (by decide) ⟨Nat.le_of_ble_eq_true rfl, Nat.le_of_ble_eq_true rfl⟩ (fun S1 r2 h hn_r2 hp => ?_)
    have hk_a0 : m_kd S1 a0 = 10 := m_kd_pre hp hk_a0 (by decide)
    refine mj_if_eq (tgt := 38) dX11_sure_31 (by decide) ⟨fun hc => ?_, fun hc => ?_⟩
    · replace h := h.1 hc
      refine mj_iconst (v := (-1)) dX11_sure_38 (by decide) ?_
      refine mj_iand dX11_sure_39 ?_
      refine mj_nmi (fun v3 ev3 => ?_)
      replace h := h v3 ev3
      refine mj_istore_n dX11_sure_40 rfl (by decide) rfl rfl ?_
      obtain ⟨v4, ev4⟩ : ∃ z : Int32, z = x3 + (1 : Int32) := ⟨_, rfl⟩
      refine mj_iinc (v := v4) dX11_sure_41 rfl (by rw [ev4]; rfl) (by decide) rfl rfl ?_
      replace h := h v4 ev4
      refine mj_goto (tgt := 14) dX11_sure_44 (by decide) ?_
      exact h
    · replace h := h.2 hc
      refine mj_iload_n dX11_sure_34 rfl rfl ?_
      refine mj_goto (tgt := 39) dX11_sure_35 (by decide) ?_
      refine mj_iand dX11_sure_39 ?_
      refine mj_nmi (fun v5 ev5 => ?_)
      replace h := h v5 ev5
      refine mj_istore_n dX11_sure_40 rfl (by decide) rfl rfl ?_
      obtain ⟨v6, ev6⟩ : ∃ z : Int32, z = x3 + (1 : Int32) := ⟨_, rfl⟩
      refine mj_iinc (v := v6) dX11_sure_41 rfl (by rw [ev6]; rfl) (by decide) rfl rfl ?_
      replace h := h v6 ev6
      refine mj_goto (tgt := 14) dX11_sure_44 (by decide) ?_
      exact h
abbrev V_X11_best_0 (l : Launch) (G : mj_G) (a0 : Nat) (x1 : Int32) (S : mj_S) (Q : mj_S → Int32 → Prop) : Prop := mj_V l G (mj_room 7 0 0) RX11 cX11_best 7 (some .int) false 0 [some (.ref a0), some (.int x1), none, none, none, none, none] [] S 0 0 (mj_std G (some .int) (mj_room 7 0 0) (mj_qi Q))
abbrev V_X11_best_27 (l : Launch) (G : mj_G) (a0 : Nat) (x1 : Int32) (x2 : Int32) (x3 : Int32) (x4 : Int32) (S : mj_S) (Q : mj_S → Int32 → Prop) : Prop := mj_V l G (mj_room 7 0 0) RX11 cX11_best 7 (some .int) false 27 [some (.ref a0), some (.int x1), some (.int x2), some (.int x3), some (.int x4), none, none] [] S 0 0 (mj_std G (some .int) (mj_room 7 0 0) (mj_qi Q))
abbrev V_X11_best_42 (l : Launch) (G : mj_G) (a0 : Nat) (x1 : Int32) (x2 : Int32) (x3 : Int32) (x4 : Int32) (x5 : Int32) (x6 : Int32) (S : mj_S) (Q : mj_S → Int32 → Prop) : Prop := mj_V l G (mj_room 7 0 0) RX11 cX11_best 7 (some .int) false 42 [some (.ref a0), some (.int x1), some (.int x2), some (.int x3), some (.int x4), some (.int x5), some (.int x6)] [] S 0 0 (mj_std G (some .int) (mj_room 7 0 0) (mj_qi Q))
abbrev V_X11_best_108 (l : Launch) (G : mj_G) (a0 : Nat) (x1 : Int32) (x4 : Int32) (x5 : Int32) (S : mj_S) (Q : mj_S → Int32 → Prop) : Prop := mj_V l G (mj_room 7 0 0) RX11 cX11_best 7 (some .int) false 108 [some (.ref a0), some (.int x1), none, none, some (.int x4), some (.int x5), none] [] S 0 0 (mj_std G (some .int) (mj_room 7 0 0) (mj_qi Q))
theorem e_X11_best {l : Launch} {G : mj_G} {a0 : Nat} {x1 : Int32} {S : mj_S} {Q : mj_S → Int32 → Prop} (h : V_X11_best_0 l G a0 x1 S Q) : M_X11_best l G a0 x1 S Q := mj_enter (r := 5) (ini := false) (by decide +kernel) (fun h => by cases h) (fun _ => Nat.le_of_ble_eq_true rfl) rfl h
set_option maxRecDepth 20000 in
set_option maxHeartbeats 1000000 in
theorem b_X11_best_0 {l : Launch} {G : mj_G} {a0 : Nat} {x1 : Int32} {S : mj_S} {Q : mj_S → Int32 → Prop} (hk_a0 : m_kd S a0 = 10) (h : M_X11_areLeaning l G a0 x1 S (fun S1 r2 => ((r2 = 0) → Q S1 (-1 : Int32)) ∧ ((¬ (r2 = 0)) → M_X11_leant l G a0 x1 (0 : Int32) S1 (fun S3 r4 => ((¬ r4 = (-1 : Int32)) → V_X11_best_27 l G a0 x1 (-1 : Int32) (0 : Int32) (0 : Int32) S3 Q) ∧ ((r4 = (-1 : Int32)) → Q S3 (-1 : Int32)))))) : V_X11_best_0 l G a0 x1 S Q := by
  refine mj_aload_n dX11_best_0 rfl rfl ?_
  refine mj_iload_n dX11_best_1 rfl rfl ?_
  refine mj_callVi (as := [.int x1]) (st := []) dX11_best_2 cal_X11_areLeaning lk_X11_450 im_X11_areLeaning se_X11_areLeaning (ci := 10) rfl (by decide) hk_a0 h rfl (Nat.le_of_ble_eq_true rfl) (by decide) ⟨Nat.le_of_ble_eq_true rfl, Nat.le_of_ble_eq_true rfl⟩ (fun S1 r2 h hn_r2 hp => ?_)
  have hk_a0 : m_kd S1 a0 = 10 := m_kd_pre hp hk_a0 (by decide)
  refine mj_if_eq (tgt := 18) dX11_best_5 (by decide) ⟨fun hc => ?_, fun hc => ?_⟩
  · replace h := h.1 hc
    refine mj_iconst (v := (-1)) dX11_best_18 (by decide) ?_
    exact mj_reti dX11_best_19 rfl ⟨Nat.le_of_ble_eq_true rfl, Nat.le_of_ble_eq_true rfl⟩ h
  · replace h := h.2 hc
    refine mj_aload_n dX11_best_8 rfl rfl ?_
    refine mj_iload_n dX11_best_9 rfl rfl ?_
    refine mj_iconst (v := 0) dX11_best_10 (by decide) ?_
    refine mj_callVi (as := [.int x1, .int (0 : Int32)]) (st := []) dX11_best_11 cal_X11_leant lk_X11_456 im_X11_leant se_X11_leant (ci := 10) rfl (by decide) hk_a0 h rfl (Nat.le_of_ble_eq_true rfl) (by decide) ⟨Nat.le_of_ble_eq_true rfl, Nat.le_of_ble_eq_true rfl⟩ (fun S3 r4 h hn_r4 hp => ?_)
    have hk_a0 : m_kd S3 a0 = 10 := m_kd_pre hp hk_a0 (by decide)
    refine mj_iconst (v := (-1)) dX11_best_14 (by decide) ?_
    refine mj_icmp_ne (tgt := 20) dX11_best_15 (by decide) ⟨fun hc => ?_, fun hc => ?_⟩
    · replace h := h.1 hc
      refine mj_iconst (v := (-1)) dX11_best_20 (by decide) ?_
      refine mj_istore_n dX11_best_21 rfl (by decide) rfl rfl ?_
      refine mj_iconst (v := 0) dX11_best_22 (by decide) ?_
      refine mj_istore_n dX11_best_23 rfl (by decide) rfl rfl ?_
      refine mj_iconst (v := 0) dX11_best_24 (by decide) ?_
      refine mj_istore dX11_best_25 (by decide) rfl rfl ?_
      exact h
    · replace h := h.2 hc
      refine mj_iconst (v := (-1)) dX11_best_18 (by decide) ?_
      exact mj_reti dX11_best_19 rfl ⟨Nat.le_of_ble_eq_true rfl, Nat.le_of_ble_eq_true rfl⟩ h
set_option maxRecDepth 20000 in
set_option maxHeartbeats 1000000 in
theorem b_X11_best_27 {l : Launch} {G : mj_G} {a0 : Nat} {x1 : Int32} {x2 : Int32} {x3 : Int32} {x4 : Int32} {S : mj_S} {Q : mj_S → Int32 → Prop} (hk_a0 : m_kd S a0 = 10) (h : (((m_gi S a0 26) ≤ x4) → Q S x2) ∧ ((¬ ((m_gi S a0 26) ≤ x4)) → V_X11_best_42 l G a0 x1 x2 x3 x4 (0 : Int32) (0 : Int32) S Q)) : V_X11_best_27 l G a0 x1 x2 x3 x4 S Q := by
  refine mj_iload dX11_best_27 rfl ?_
  refine mj_aload_n dX11_best_29 rfl rfl ?_
  refine mj_getI dX11_best_30 fl_X11_261_10 hk_a0 rfl ?_
  refine mj_icmp_ge (tgt := 123) dX11_best_33 (by decide) ⟨fun hc => ?_, fun hc => ?_⟩
  · replace h := h.1 hc
    refine mj_iload_n dX11_best_123 rfl rfl ?_
    exact mj_reti dX11_best_124 rfl ⟨Nat.le_of_ble_eq_true rfl, Nat.le_of_ble_eq_true rfl⟩ h
  · replace h := h.2 hc
    refine mj_iconst (v := 0) dX11_best_36 (by decide) ?_
    refine mj_istore dX11_best_37 (by decide) rfl rfl ?_
    refine mj_iconst (v := 0) dX11_best_39 (by decide) ?_
    refine mj_istore dX11_best_40 (by decide) rfl rfl ?_
    exact h
set_option maxRecDepth 20000 in
set_option maxHeartbeats 1000000 in
theorem b_X11_best_42 {l : Launch} {G : mj_G} {a0 : Nat} {x1 : Int32} {x2 : Int32} {x3 : Int32} {x4 : Int32} {x5 : Int32} {x6 : Int32} {S : mj_S} {Q : mj_S → Int32 → Prop} (hk_a0 : m_kd S a0 = 10) (h : ((((1 : Int32) <<< ((m_gi S a0 27) &&& 31)) ≤ x6) → ((x2 = (-1 : Int32)) → V_X11_best_108 l G a0 x1 x4 x5 S Q) ∧ ((¬ (x2 = (-1 : Int32))) → M_J9_abs_0f7a4 l G x5 S (fun S1 r2 => ((x3 ≤ r2) → ∀ v3 : Int32, v3 = x4 + (1 : Int32) → V_X11_best_27 l G a0 x1 x2 x3 v3 S1 Q) ∧ ((¬ (x3 ≤ r2)) → V_X11_best_108 l G a0 x1 x4 x5 S1 Q)))) ∧ ((¬ (((1 : Int32) <<< ((m_gi S a0 27) &&& 31)) ≤ x6)) → M_X11_isLeant l G a0 x1 x6 S (fun S4 r5 => ((¬ r5 = 0) → M_X11_couldLean l G a0 x6 x4 S4 (fun S6 r7 => ((r7 = 0) → ∀ v8 : Int32, v8 = (x5 + (-1 : Int32)) → ∀ v9 : Int32, v9 = x6 + (1 : Int32) → V_X11_best_42 l G a0 x1 x2 x3 x4 v8 v9 S6 Q) ∧ ((¬ (r7 = 0)) → ∀ v10 : Int32, v10 = (x5 + (1 : Int32)) → ∀ v11 : Int32, v11 = x6 + (1 : Int32) → V_X11_best_42 l G a0 x1 x2 x3 x4 v10 v11 S6 Q))) ∧ ((r5 = 0) → ∀ v12 : Int32, v12 = (x5 + (0 : Int32)) → ∀ v13 : Int32, v13 = x6 + (1 : Int32) → V_X11_best_42 l G a0 x1 x2 x3 x4 v12 v13 S4 Q)))) : V_X11_best_42 l G a0 x1 x2 x3 x4 x5 x6 S Q := by
  refine mj_iload dX11_best_42 rfl ?_
  refine mj_iconst (v := 1) dX11_best_44 (by decide) ?_
  refine mj_aload_n dX11_best_45 rfl rfl ?_
  refine mj_getI dX11_best_46 fl_X11_264_10 hk_a0 rfl ?_
  refine mj_ishl dX11_best_49 ?_
  refine mj_icmp_ge (tgt := 94) dX11_best_50 (by decide) ⟨fun hc => ?_, fun hc => ?_⟩
  · replace h := h.1 hc
    refine mj_iload_n dX11_best_94 rfl rfl ?_
    refine mj_iconst (v := (-1)) dX11_best_95 (by decide) ?_
    refine mj_icmp_eq (tgt := 108) dX11_best_96 (by decide) ⟨fun hc => ?_, fun hc => ?_⟩
    · replace h := h.1 hc
      exact mj_lessm [true, true, false, false, true, true, false] rfl h
    · replace h := h.2 hc
      refine mj_iload dX11_best_99 rfl ?_
      refine mj_callSi (as := [.int x5]) (st := []) dX11_best_101 cal_J9_abs_0f7a4 lk_X11_459 sm_J9_abs_0f7a4 h rfl (Nat.le_of_ble_eq_true rfl) (by decide) ⟨Nat.le_of_ble_eq_true rfl, Nat.le_of_ble_eq_true rfl⟩ (fun S1 r2 h hn_r2 hp => ?_)
      have hk_a0 : m_kd S1 a0 = 10 := m_kd_pre hp hk_a0 (by decide)
      refine mj_iload_n dX11_best_104 rfl rfl ?_
      refine mj_icmp_ge (tgt := 117) dX11_best_105 (by decide) ⟨fun hc => ?_, fun hc => ?_⟩
      · replace h := h.1 hc
        obtain ⟨v3, ev3⟩ : ∃ z : Int32, z = x4 + (1 : Int32) := ⟨_, rfl⟩
        refine mj_iinc (v := v3) dX11_best_117 rfl (by rw [ev3]; rfl) (by decide) rfl rfl ?_
        replace h := h v3 ev3
        refine mj_goto (tgt := 27) dX11_best_120 (by decide) ?_
        exact mj_lessm [true, true, true, true, true, false, false] rfl h
      · replace h := h.2 hc
        exact mj_lessm [true, true, false, false, true, true, false] rfl h
  · replace h := h.2 hc
    refine mj_iload dX11_best_53 rfl ?_
    refine mj_aload_n dX11_best_55 rfl rfl ?_
    refine mj_iload_n dX11_best_56 rfl rfl ?_
    refine mj_iload dX11_best_57 rfl ?_
    refine mj_callVi (as := [.int x1, .int x6]) (st := [.int x5]) dX11_best_59 cal_X11_isLeant lk_X11_453 im_X11_isLeant se_X11_isLeant (ci := 10) rfl (by decide) hk_a0 h rfl (Nat.le_of_ble_eq_true rfl) (by decide) ⟨Nat.le_of_ble_eq_true rfl, Nat.le_of_ble_eq_true rfl⟩ (fun S4 r5 h hn_r5 hp => ?_)
    have hk_a0 : m_kd S4 a0 = 10 := m_kd_pre hp hk_a0 (by decide)
    refine mj_if_ne (tgt := 69) dX11_best_62 (by decide) ⟨fun hc => ?_, fun hc => ?_⟩
    · replace h := h.1 hc
      refine mj_aload_n dX11_best_69 rfl rfl ?_
      refine mj_iload dX11_best_70 rfl ?_
      refine mj_iload dX11_best_72 rfl ?_
      refine mj_callVi (as := [.int x6, .int x4]) (st := [.int x5]) dX11_best_74 cal_X11_couldLean lk_X11_447 im_X11_couldLean se_X11_couldLean (ci := 10) rfl (by decide) hk_a0 h rfl (Nat.le_of_ble_eq_true rfl) (by decide) ⟨Nat.le_of_ble_eq_true rfl, Nat.le_of_ble_eq_true rfl⟩ (fun S6 r7 h hn_r7 hp => ?_)
      have hk_a0 : m_kd S6 a0 = 10 := m_kd_pre hp hk_a0 (by decide)
      refine mj_if_eq (tgt := 84) dX11_best_77 (by decide) ⟨fun hc => ?_, fun hc => ?_⟩
      · replace h := h.1 hc
        refine mj_iconst (v := (-1)) dX11_best_84 (by decide) ?_
        refine mj_iadd dX11_best_85 ?_
        refine mj_nmi (fun v8 ev8 => ?_)
        replace h := h v8 ev8
        refine mj_istore dX11_best_86 (by decide) rfl rfl ?_
        obtain ⟨v9, ev9⟩ : ∃ z : Int32, z = x6 + (1 : Int32) := ⟨_, rfl⟩
        refine mj_iinc (v := v9) dX11_best_88 rfl (by rw [ev9]; rfl) (by decide) rfl rfl ?_
        replace h := h v9 ev9
        refine mj_goto (tgt := 42) dX11_best_91 (by decide) ?_
        exact h
      · replace h := h.2 hc
        refine mj_iconst (v := 1) dX11_best_80 (by decide) ?_
        refine mj_goto (tgt := 85) dX11_best_81 (by decide) ?_
        refine mj_iadd dX11_best_85 ?_
        refine mj_nmi (fun v10 ev10 => ?_)
        replace h := h v10 ev10
        refine mj_istore dX11_best_86 (by decide) rfl rfl ?_
        obtain ⟨v11, ev11⟩ : ∃ z : Int32, z = x6 + (1 : Int32) := ⟨_, rfl⟩
        refine mj_iinc (v := v11) dX11_best_88 rfl (by rw [ev11]; rfl) (by decide) rfl rfl ?_
        replace h := h v11 ev11
        refine mj_goto (tgt := 42) dX11_best_91 (by decide) ?_
        exact h
    · replace h := h.2 hc
      refine mj_iconst (v := 0) dX11_best_65 (by decide) ?_
      refine mj_goto (tgt := 85) dX11_best_66 (by decide) ?_
      refine mj_iadd dX11_best_85 ?_
      refine mj_nmi (fun v12 ev12 => ?_)
      replace h := h v12 ev12
      refine mj_istore dX11_best_86 (by decide) rfl rfl ?_
      obtain ⟨v13, ev13⟩ : ∃ z : Int32, z = x6 + (1 : Int32) := ⟨_, rfl⟩
      refine mj_iinc (v := v13) dX11_best_88 rfl (by rw [ev13]; rfl) (by decide) rfl rfl ?_
      replace h := h v13 ev13
      refine mj_goto (tgt := 42) dX11_best_91 (by decide) ?_
      exact h
set_option maxRecDepth 20000 in
set_option maxHeartbeats 1000000 in
theorem b_X11_best_108 {l : Launch} {G : mj_G} {a0 : Nat} {x1 : Int32} {x4 : Int32} {x5 : Int32} {S : mj_S} {Q : mj_S → Int32 → Prop} (hk_a0 : m_kd S a0 = 10) (h : M_J9_abs_0f7a4 l G x5 S (fun S1 r2 => ∀ v3 : Int32, v3 = x4 + (1 : Int32) → V_X11_best_27 l G a0 x1 x4 r2 v3 S1 Q)) : V_X11_best_108 l G a0 x1 x4 x5 S Q := by
  refine mj_iload dX11_best_108 rfl ?_
  refine mj_istore_n dX11_best_110 rfl (by decide) rfl rfl ?_
  refine mj_iload dX11_best_111 rfl ?_
  refine mj_callSi (as := [.int x5]) (st := []) dX11_best_113 cal_J9_abs_0f7a4 lk_X11_459 sm_J9_abs_0f7a4 h rfl (Nat.le_of_ble_eq_true rfl) (by decide) ⟨Nat.le_of_ble_eq_true rfl, Nat.le_of_ble_eq_true rfl⟩ (fun S1 r2 h hn_r2 hp => ?_)
  have hk_a0 : m_kd S1 a0 = 10 := m_kd_pre hp hk_a0 (by decide)
  refine mj_istore_n dX11_best_116 rfl (by decide) rfl rfl ?_
  obtain ⟨v3, ev3⟩ : ∃ z : Int32, z = x4 + (1 : Int32) := ⟨_, rfl⟩
  refine mj_iinc (v := v3) dX11_best_117 rfl (by rw [ev3]; rfl) (by decide) rfl rfl ?_
  replace h := h v3 ev3
  refine mj_goto (tgt := 27) dX11_best_120 (by decide) ?_
  exact mj_lessm [true, true, true, true, true, false, false] rfl h
