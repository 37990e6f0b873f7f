abbrev V_X11_cross_0 (l : Launch) (G : mj_G) (a0 : Nat) (S : mj_S) (Q : mj_S → Int32 → Prop) : Prop := mj_V l G (mj_room 4 0 0) RX11 cX11_cross 5 (some .int) false 0 [some (.ref a0), none, none, none, none] [] S 0 0 (mj_std G (some .int) (mj_room 4 0 0) (mj_qi Q))
abbrev V_X11_cross_13 (l : Launch) (G : mj_G) (a0 : Nat) (x1 : Int32) (x2 : Int32) (S : mj_S) (Q : mj_S → Int32 → Prop) : Prop := mj_V l G (mj_room 4 0 0) RX11 cX11_cross 5 (some .int) false 13 [some (.ref a0), some (.int x1), some (.int x2), none, none] [] S 0 0 (mj_std G (some .int) (mj_room 4 0 0) (mj_qi Q))
abbrev V_X11_cross_26 (l : Launch) (G : mj_G) (a0 : Nat) (x1 : Int32) (x2 : Int32) (x3 : Int32) (x4 : Int32) (S : mj_S) (Q : mj_S → Int32 → Prop) : Prop := mj_V l G (mj_room 4 0 0) RX11 cX11_cross 5 (some .int) false 26 [some (.ref a0), some (.int x1), some (.int x2), some (.int x3), some (.int x4)] [] S 0 0 (mj_std G (some .int) (mj_room 4 0 0) (mj_qi Q))
theorem e_X11_cross {l : Launch} {G : mj_G} {a0 : Nat} {S : mj_S} {Q : mj_S → Int32 → Prop} (h : V_X11_cross_0 l G a0 S Q) : M_X11_cross l G a0 S Q := mj_enter (r := 4) (ini := false) (by decide +kernel) (fun h => by cases h) (fun _ => Nat.le_of_ble_eq_true rfl) rfl h
set_option maxRecDepth 20000 in
set_option maxHeartbeats 1000000 in
theorem b_X11_cross_0 {l : Launch} {G : mj_G} {a0 : Nat} {S : mj_S} {Q : mj_S → Int32 → Prop} (hk_a0 : m_kd S a0 = 10) (h : ((¬ (m_gi S a0 25) = 0) → V_X11_cross_13 l G a0 (0 : Int32) (0 : Int32) S Q) ∧ (((m_gi S a0 25) = 0) → Q S (-1 : Int32))) : V_X11_cross_0 l G a0 S Q := by
  refine mj_aload_n dX11_cross_0 rfl rfl ?_
  refine mj_getI dX11_cross_1 fl_X11_267_10 hk_a0 rfl ?_
  refine mj_if_ne (tgt := 9) dX11_cross_4 (by decide) ⟨fun hc => ?_, fun hc => ?_⟩
  · replace h := h.1 hc
    refine mj_iconst (v := 0) dX11_cross_9 (by decide) ?_
    refine mj_istore_n dX11_cross_10 rfl (by decide) rfl rfl ?_
    refine mj_iconst (v := 0) dX11_cross_11 (by decide) ?_
    refine mj_istore_n dX11_cross_12 rfl (by decide) rfl rfl ?_
    exact h
  · replace h := h.2 hc
    refine mj_iconst (v := (-1)) dX11_cross_7 (by decide) ?_
    exact mj_reti dX11_cross_8 rfl ⟨Nat.le_of_ble_eq_true rfl, Nat.le_of_ble_eq_true rfl⟩ h
set_option maxRecDepth 20000 in
set_option maxHeartbeats 1000000 in
theorem b_X11_cross_13 {l : Launch} {G : mj_G} {a0 : Nat} {x1 : Int32} {x2 : Int32} {S : mj_S} {Q : mj_S → Int32 → Prop} (hk_a0 : m_kd S a0 = 10) (h : (((m_gi S a0 25) ≤ x2) → Q S x1) ∧ ((¬ ((m_gi S a0 25) ≤ x2)) → V_X11_cross_26 l G a0 x1 x2 (0 : Int32) (0 : Int32) S Q)) : V_X11_cross_13 l G a0 x1 x2 S Q := by
  refine mj_iload_n dX11_cross_13 rfl rfl ?_
  refine mj_aload_n dX11_cross_14 rfl rfl ?_
  refine mj_getI dX11_cross_15 fl_X11_267_10 hk_a0 rfl ?_
  refine mj_icmp_ge (tgt := 89) dX11_cross_18 (by decide) ⟨fun hc => ?_, fun hc => ?_⟩
  · replace h := h.1 hc
    refine mj_iload_n dX11_cross_89 rfl rfl ?_
    exact mj_reti dX11_cross_90 rfl ⟨Nat.le_of_ble_eq_true rfl, Nat.le_of_ble_eq_true rfl⟩ h
  · replace h := h.2 hc
    refine mj_iconst (v := 0) dX11_cross_21 (by decide) ?_
    refine mj_istore_n dX11_cross_22 rfl (by decide) rfl rfl ?_
    refine mj_iconst (v := 0) dX11_cross_23 (by decide) ?_
    refine mj_istore dX11_cross_24 (by decide) rfl rfl ?_
    exact h
set_option maxRecDepth 20000 in
set_option maxHeartbeats 1000000 in
theorem b_X11_cross_26 {l : Launch} {G : mj_G} {a0 : Nat} {x1 : Int32} {x2 : Int32} {x3 : Int32} {x4 : Int32} {S : mj_S} {Q : mj_S → Int32 → Prop} (hk_a0 : m_kd S a0 = 10) (h : (((m_gi S a0 26) ≤ x4) → ((x3 < (3 : Int32)) → ∀ v1 : Int32, v1 = (x1 ||| (0 : Int32)) → ∀ v2 : Int32, v2 = x2 + (1 : Int32) → V_X11_cross_13 l G a0 v1 v2 S Q) ∧ ((¬ (x3 < (3 : Int32))) → ∀ v3 : Int32, v3 = (x1 ||| ((1 : Int32) <<< (x2 &&& 31))) → ∀ v4 : Int32, v4 = x2 + (1 : Int32) → V_X11_cross_13 l G a0 v3 v4 S Q)) ∧ ((¬ ((m_gi S a0 26) ≤ x4)) → M_X11_hangs l G a0 x4 S (fun S5 r6 => ((r6 = 0) → ∀ v7 : Int32, v7 = (x3 + (0 : Int32)) → ∀ v8 : Int32, v8 = x4 + (1 : Int32) → V_X11_cross_26 l G a0 x1 x2 v7 v8 S5 Q) ∧ ((¬ (r6 = 0)) → M_X11_isAt l G a0 x4 x2 S5 (fun S9 r10 => ((r10 = 0) → ∀ v11 : Int32, v11 = (x3 + (0 : Int32)) → ∀ v12 : Int32, v12 = x4 + (1 : Int32) → V_X11_cross_26 l G a0 x1 x2 v11 v12 S9 Q) ∧ ((¬ (r10 = 0)) → ∀ v13 : Int32, v13 = (x3 + (1 : Int32)) → ∀ v14 : Int32, v14 = x4 + (1 : Int32) → V_X11_cross_26 l G a0 x1 x2 v13 v14 S9 Q)))))) : V_X11_cross_26 l G a0 x1 x2 x3 x4 S Q := by
  refine mj_iload dX11_cross_26 rfl ?_
  refine mj_aload_n dX11_cross_28 rfl rfl ?_
  refine mj_getI dX11_cross_29 fl_X11_261_10 hk_a0 rfl ?_
  refine mj_icmp_ge (tgt := 68) dX11_cross_32 (by decide) ⟨fun hc => ?_, fun hc => ?_⟩
  · replace h := h.1 hc
    refine mj_iload_n dX11_cross_68 rfl rfl ?_
    refine mj_iload_n dX11_cross_69 rfl rfl ?_
    refine mj_iconst (v := 3) dX11_cross_70 (by decide) ?_
    refine mj_icmp_lt (tgt := 80) dX11_cross_71 (by decide) ⟨fun hc => ?_, fun hc => ?_⟩
    · replace h := h.1 hc
      refine mj_iconst (v := 0) dX11_cross_80 (by decide) ?_
      refine mj_ior dX11_cross_81 ?_
      refine mj_nmi (fun v1 ev1 => ?_)
      replace h := h v1 ev1
      refine mj_istore_n dX11_cross_82 rfl (by decide) rfl rfl ?_
      obtain ⟨v2, ev2⟩ : ∃ z : Int32, z = x2 + (1 : Int32) := ⟨_, rfl⟩
      refine mj_iinc (v := v2) dX11_cross_83 rfl (by rw [ev2]; rfl) (by decide) rfl rfl ?_
      replace h := h v2 ev2
      refine mj_goto (tgt := 13) dX11_cross_86 (by decide) ?_
      exact mj_lessm [true, true, true, false, false] rfl h
    · replace h := h.2 hc
      refine mj_iconst (v := 1) dX11_cross_74 (by decide) ?_
      refine mj_iload_n dX11_cross_75 rfl rfl ?_
      refine mj_ishl dX11_cross_76 ?_
      refine mj_goto (tgt := 81) dX11_cross_77 (by decide) ?_
      refine mj_ior dX11_cross_81 ?_
      refine mj_nmi (fun v3 ev3 => ?_)
      replace h := h v3 ev3
      refine mj_istore_n dX11_cross_82 rfl (by decide) rfl rfl ?_
      obtain ⟨v4, ev4⟩ : ∃ z : Int32, z = x2 + (1 : Int32) := ⟨_, rfl⟩
      refine mj_iinc (v := v4) dX11_cross_83 rfl (by rw [ev4]; rfl) (by decide) rfl rfl ?_
      replace h := h v4 ev4
      refine mj_goto (tgt := 13) dX11_cross_86 (by decide) ?_
      exact mj_lessm [true, true, true, false, false] rfl h
  · replace h := h.2 hc
    refine mj_iload_n dX11_cross_35 rfl rfl ?_
    refine mj_aload_n dX11_cross_36 rfl rfl ?_
    refine mj_iload dX11_cross_37 rfl ?_
    refine mj_callVi (as := [.int x4]) (st := [.int x3]) dX11_cross_39 cal_X11_hangs lk_X11_307 im_X11_hangs se_X11_hangs (ci := 10) rfl (by decide) hk_a0 h rfl (Nat.le_of_ble_eq_true rfl) (by decide) ⟨Nat.le_of_ble_eq_true rfl, Nat.le_of_ble_eq_true rfl⟩ (fun S5 r6 h hn_r6 hp => ?_)
    have hk_a0 : m_kd S5 a0 = 10 := m_kd_pre hp hk_a0 (by decide)
    refine mj_if_eq (tgt := 59) dX11_cross_42 (by decide) ⟨fun hc => ?_, fun hc => ?_⟩
    · replace h := h.1 hc
      refine mj_iconst (v := 0) dX11_cross_59 (by decide) ?_
      refine mj_iadd dX11_cross_60 ?_
      refine mj_nmi (fun v7 ev7 => ?_)
      replace h := h v7 ev7
      refine mj_istore_n dX11_cross_61 rfl (by decide) rfl rfl ?_
      obtain ⟨v8, ev8⟩ : ∃ z : Int32, z = x4 + (1 : Int32) := ⟨_, rfl⟩
      refine mj_iinc (v := v8) dX11_cross_62 rfl (by rw [ev8]; rfl) (by decide) rfl rfl ?_
      replace h := h v8 ev8
      refine mj_goto (tgt := 26) dX11_cross_65 (by decide) ?_
      exact h
    · replace h := h.2 hc
      refine mj_aload_n dX11_cross_45 rfl rfl ?_
      refine mj_iload dX11_cross_46 rfl ?_
      refine mj_iload_n dX11_cross_48 rfl rfl ?_
      refine mj_callVi (as := [.int x4, .int x2]) (st := [.int x3]) dX11_cross_49 cal_X11_isAt lk_X11_368 im_X11_isAt se_X11_isAt (ci := 10) rfl (by decide) hk_a0 h rfl (Nat.le_of_ble_eq_true rfl) (by decide) ⟨Nat.le_of_ble_eq_true rfl, Nat.le_of_ble_eq_true rfl⟩ (fun S9 r10 h hn_r10 hp => ?_)
      have hk_a0 : m_kd S9 a0 = 10 := m_kd_pre hp hk_a0 (by decide)
      refine mj_if_eq (tgt := 59) dX11_cross_52 (by decide) ⟨fun hc => ?_, fun hc => ?_⟩
      · replace h := h.1 hc
        refine mj_iconst (v := 0) dX11_cross_59 (by decide) ?_
        refine mj_iadd dX11_cross_60 ?_
        refine mj_nmi (fun v11 ev11 => ?_)
        replace h := h v11 ev11
        refine mj_istore_n dX11_cross_61 rfl (by decide) rfl rfl ?_
        obtain ⟨v12, ev12⟩ : ∃ z : Int32, z = x4 + (1 : Int32) := ⟨_, rfl⟩
        refine mj_iinc (v := v12) dX11_cross_62 rfl (by rw [ev12]; rfl) (by decide) rfl rfl ?_
        replace h := h v12 ev12
        refine mj_goto (tgt := 26) dX11_cross_65 (by decide) ?_
        exact h
      · replace h := h.2 hc
        refine mj_iconst (v := 1) dX11_cross_55 (by decide) ?_
        refine mj_goto (tgt := 60) dX11_cross_56 (by decide) ?_
        refine mj_iadd dX11_cross_60 ?_
        refine mj_nmi (fun v13 ev13 => ?_)
        replace h := h v13 ev13
        refine mj_istore_n dX11_cross_61 rfl (by decide) rfl rfl ?_
        obtain ⟨v14, ev14⟩ : ∃ z : Int32, z = x4 + (1 : Int32) := ⟨_, rfl⟩
        refine mj_iinc (v := v14) dX11_cross_62 rfl (by rw [ev14]; rfl) (by decide) rfl rfl ?_
        replace h := h v14 ev14
        refine mj_goto (tgt := 26) dX11_cross_65 (by decide) ?_
        exact h
abbrev V_X11_realm_0 (l : Launch) (G : mj_G) (a0 : Nat) (S : mj_S) (Q : mj_S → Int32 → Prop) : Prop := mj_V l G (mj_room 6 0 0) RX11 cX11_realm 5 (some .int) false 0 [some (.ref a0), none, none, none, none] [] S 0 0 (mj_std G (some .int) (mj_room 6 0 0) (mj_qi Q))
abbrev V_X11_realm_6 (l : Launch) (G : mj_G) (a0 : Nat) (x1 : Int32) (x2 : Int32) (x3 : Int32) (S : mj_S) (Q : mj_S → Int32 → Prop) : Prop := mj_V l G (mj_room 6 0 0) RX11 cX11_realm 5 (some .int) false 6 [some (.ref a0), some (.int x1), some (.int x2), some (.int x3), none] [] S 0 0 (mj_std G (some .int) (mj_room 6 0 0) (mj_qi Q))
theorem e_X11_realm {l : Launch} {G : mj_G} {a0 : Nat} {S : mj_S} {Q : mj_S → Int32 → Prop} (h : V_X11_realm_0 l G a0 S Q) : M_X11_realm l G a0 S Q := mj_enter (r := 4) (ini := false) (by decide +kernel) (fun h => by cases h) (fun _ => Nat.le_of_ble_eq_true rfl) rfl h
set_option maxRecDepth 20000 in
set_option maxHeartbeats 1000000 in
theorem b_X11_realm_0 {l : Launch} {G : mj_G} {a0 : Nat} {S : mj_S} {Q : mj_S → Int32 → Prop} (hk_a0 : m_kd S a0 = 10) (h : V_X11_realm_6 l G a0 (-1 : Int32) (0 : Int32) (0 : Int32) S Q) : V_X11_realm_0 l G a0 S Q := by
  refine mj_iconst (v := (-1)) dX11_realm_0 (by decide) ?_
  refine mj_istore_n dX11_realm_1 rfl (by decide) rfl rfl ?_
  refine mj_iconst (v := 0) dX11_realm_2 (by decide) ?_
  refine mj_istore_n dX11_realm_3 rfl (by decide) rfl rfl ?_
  refine mj_iconst (v := 0) dX11_realm_4 (by decide) ?_
  refine mj_istore_n dX11_realm_5 rfl (by decide) rfl rfl ?_
  exact h
set_option maxRecDepth 20000 in
set_option maxHeartbeats 1000000 in
theorem b_X11_realm_6 {l : Launch} {G : mj_G} {a0 : Nat} {x1 : Int32} {x2 : Int32} {x3 : Int32} {S : mj_S} {Q : mj_S → Int32 → Prop} (hk_a0 : m_kd S a0 = 10) (h : (((m_gi S a0 25) ≤ x3) → Q S x1) ∧ ((¬ ((m_gi S a0 25) ≤ x3)) → M_X11_stateOf l G a0 x3 S (fun S1 r2 => M_J6_bitCount_0f7a4 l G r2 S1 (fun S3 r4 => ((r4 ≤ x2) → ∀ v5 : Int32, v5 = x3 + (1 : Int32) → V_X11_realm_6 l G a0 x1 x2 v5 S3 Q) ∧ ((¬ (r4 ≤ x2)) → ∀ v6 : Int32, v6 = x3 + (1 : Int32) → V_X11_realm_6 l G a0 x3 r4 v6 S3 Q))))) : V_X11_realm_6 l G a0 x1 x2 x3 S Q := by
  refine mj_iload_n dX11_realm_6 rfl rfl ?_
  refine mj_aload_n dX11_realm_7 rfl rfl ?_
  refine mj_getI dX11_realm_8 fl_X11_267_10 hk_a0 rfl ?_
  refine mj_icmp_ge (tgt := 41) dX11_realm_11 (by decide) ⟨fun hc => ?_, fun hc => ?_⟩
  · replace h := h.1 hc
    refine mj_iload_n dX11_realm_41 rfl rfl ?_
    exact mj_reti dX11_realm_42 rfl ⟨Nat.le_of_ble_eq_true rfl, Nat.le_of_ble_eq_true rfl⟩ h
  · replace h := h.2 hc
    refine mj_aload_n dX11_realm_14 rfl rfl ?_
    refine mj_iload_n dX11_realm_15 rfl rfl ?_
    refine mj_callVi (as := [.int x3]) (st := []) dX11_realm_16 cal_X11_stateOf lk_X11_328 im_X11_stateOf se_X11_stateOf (ci := 10) rfl (by decide) hk_a0 h rfl (Nat.le_of_ble_eq_true rfl) (by decide) ⟨Nat.le_of_ble_eq_true rfl, Nat.le_of_ble_eq_true rfl⟩ (fun S1 r2 h hn_r2 hp => ?_)
    have hk_a0 : m_kd S1 a0 = 10 := m_kd_pre hp hk_a0 (by decide)
    refine mj_callSi (as := [.int r2]) (st := []) dX11_realm_19 cal_J6_bitCount_0f7a4 lk_X11_400 sm_J6_bitCount_0f7a4 h rfl (Nat.le_of_ble_eq_true rfl) (by decide) ⟨Nat.le_of_ble_eq_true rfl, Nat.le_of_ble_eq_true rfl⟩ (fun S3 r4 h hn_r4 hp => ?_)
    have hk_a0 : m_kd S3 a0 = 10 := m_kd_pre hp hk_a0 (by decide)
    refine mj_istore dX11_realm_22 (by decide) rfl rfl ?_
    refine mj_iload dX11_realm_24 rfl ?_
    refine mj_iload_n dX11_realm_26 rfl rfl ?_
    refine mj_icmp_le (tgt := 35) dX11_realm_27 (by decide) ⟨fun hc => ?_, fun hc => ?_⟩
    · replace h := h.1 hc
      obtain ⟨v5, ev5⟩ : ∃ z : Int32, z = x3 + (1 : Int32) := ⟨_, rfl⟩
      refine mj_iinc (v := v5) dX11_realm_35 rfl (by rw [ev5]; rfl) (by decide) rfl rfl ?_
      replace h := h v5 ev5
      refine mj_goto (tgt := 6) dX11_realm_38 (by decide) ?_
      exact mj_lessm [true, true, true, true, false] rfl h
    · replace h := h.2 hc
      refine mj_iload_n dX11_realm_30 rfl rfl ?_
      refine mj_istore_n dX11_realm_31 rfl (by decide) rfl rfl ?_
      refine mj_iload dX11_realm_32 rfl ?_
      refine mj_istore_n dX11_realm_34 rfl (by decide) rfl rfl ?_
      obtain ⟨v6, ev6⟩ : ∃ z : Int32, z = x3 + (1 : Int32) := ⟨_, rfl⟩
      refine mj_iinc (v := v6) dX11_realm_35 rfl (by rw [ev6]; rfl) (by decide) rfl rfl ?_
      replace h := h v6 ev6
      refine mj_goto (tgt := 6) dX11_realm_38 (by decide) ?_
      exact mj_lessm [true, true, true, true, false] rfl h
abbrev V_X11_gathered_0 (l : Launch) (G : mj_G) (a0 : Nat) (S : mj_S) (Q : mj_S → Int32 → Prop) : Prop := mj_V l G (mj_room 4 0 0) RX11 cX11_gathered 1 (some .int) false 0 [some (.ref a0)] [] S 0 0 (mj_std G (some .int) (mj_room 4 0 0) (mj_qi Q))
theorem e_X11_gathered {l : Launch} {G : mj_G} {a0 : Nat} {S : mj_S} {Q : mj_S → Int32 → Prop} (h : V_X11_gathered_0 l G a0 S Q) : M_X11_gathered l G a0 S Q := mj_enter (r := 0) (ini := false) (by decide +kernel) (fun h => by cases h) (fun _ => Nat.le_of_ble_eq_true rfl) rfl h
set_option maxRecDepth 20000 in
set_option maxHeartbeats 1000000 in
theorem b_X11_gathered_0 {l : Launch} {G : mj_G} {a0 : Nat} {S : mj_S} {Q : mj_S → Int32 → Prop} (hk_a0 : m_kd S a0 = 10) (h : ((¬ (m_gi S a0 25) = 0) → M_X11_drawnBack l G a0 S (fun S1 r2 => Q S1 r2)) ∧ (((m_gi S a0 25) = 0) → Q S (-1 : Int32))) : V_X11_gathered_0 l G a0 S Q := by
  refine mj_aload_n dX11_gathered_0 rfl rfl ?_
  refine mj_getI dX11_gathered_1 fl_X11_267_10 hk_a0 rfl ?_
  refine mj_if_ne (tgt := 11) dX11_gathered_4 (by decide) ⟨fun hc => ?_, fun hc => ?_⟩
  · replace h := h.1 hc
    refine mj_aload_n dX11_gathered_11 rfl rfl ?_
    refine mj_callVi (as := []) (st := []) dX11_gathered_12 cal_X11_drawnBack lk_X11_409 im_X11_drawnBack se_X11_drawnBack (ci := 10) rfl (by decide) hk_a0 h rfl (Nat.le_of_ble_eq_true rfl) (by decide) ⟨Nat.le_of_ble_eq_true rfl, Nat.le_of_ble_eq_true rfl⟩ (fun S1 r2 h hn_r2 hp => ?_)
    have hk_a0 : m_kd S1 a0 = 10 := m_kd_pre hp hk_a0 (by decide)
    exact mj_reti dX11_gathered_15 rfl ⟨Nat.le_of_ble_eq_true rfl, Nat.le_of_ble_eq_true rfl⟩ h
  · replace h := h.2 hc
    refine mj_iconst (v := (-1)) dX11_gathered_7 (by decide) ?_
    refine mj_goto (tgt := 15) dX11_gathered_8 (by decide) ?_
    exact mj_reti dX11_gathered_15 rfl ⟨Nat.le_of_ble_eq_true rfl, Nat.le_of_ble_eq_true rfl⟩ h
abbrev V_X11_dark_0 (l : Launch) (G : mj_G) (a0 : Nat) (S : mj_S) (Q : mj_S → Int32 → Prop) : Prop := mj_V l G (mj_room 9 0 0) RX11 cX11_dark 3 (some .int) false 0 [some (.ref a0), none, none] [] S 0 0 (mj_std G (some .int) (mj_room 9 0 0) (mj_qi Q))
abbrev V_X11_dark_17 (l : Launch) (G : mj_G) (a0 : Nat) (x1 : Int32) (x2 : Int32) (S : mj_S) (Q : mj_S → Int32 → Prop) : Prop := mj_V l G (mj_room 9 0 0) RX11 cX11_dark 3 (some .int) false 17 [some (.ref a0), some (.int x1), some (.int x2)] [] S 0 0 (mj_std G (some .int) (mj_room 9 0 0) (mj_qi Q))
theorem e_X11_dark {l : Launch} {G : mj_G} {a0 : Nat} {S : mj_S} {Q : mj_S → Int32 → Prop} (h : V_X11_dark_0 l G a0 S Q) : M_X11_dark l G a0 S Q := mj_enter (r := 2) (ini := false) (by decide +kernel) (fun h => by cases h) (fun _ => Nat.le_of_ble_eq_true rfl) rfl h
set_option maxRecDepth 20000 in
set_option maxHeartbeats 1000000 in
theorem b_X11_dark_0 {l : Launch} {G : mj_G} {a0 : Nat} {S : mj_S} {Q : mj_S → Int32 → Prop} (hk_a0 : m_kd S a0 = 10) (h : ((¬ (m_gi S a0 25) = 0) → M_X11_layLit l G a0 S (fun S1 => V_X11_dark_17 l G a0 (0 : Int32) (0 : Int32) S1 Q)) ∧ (((m_gi S a0 25) = 0) → Q S (-1 : Int32))) : V_X11_dark_0 l G a0 S Q := by
  refine mj_aload_n dX11_dark_0 rfl rfl ?_
  refine mj_getI dX11_dark_1 fl_X11_267_10 hk_a0 rfl ?_
  refine mj_if_ne (tgt := 9) dX11_dark_4 (by decide) ⟨fun hc => ?_, fun hc => ?_⟩
  · replace h := h.1 hc
    refine mj_aload_n dX11_dark_9 rfl rfl ?_
    refine mj_callVv (as := []) (st := []) dX11_dark_10 cal_X11_layLit lk_X11_341 im_X11_layLit se_X11_layLit (ci := 10) rfl (by decide) hk_a0 h rfl (Nat.le_of_ble_eq_true rfl) (by decide) ⟨Nat.le_of_ble_eq_true rfl, Nat.le_of_ble_eq_true rfl⟩ (fun S1 h hp => ?_)
    have hk_a0 : m_kd S1 a0 = 10 := m_kd_pre hp hk_a0 (by decide)
    refine mj_iconst (v := 0) dX11_dark_13 (by decide) ?_
    refine mj_istore_n dX11_dark_14 rfl (by decide) rfl rfl ?_
    refine mj_iconst (v := 0) dX11_dark_15 (by decide) ?_
    refine mj_istore_n dX11_dark_16 rfl (by decide) rfl rfl ?_
    exact h
  · replace h := h.2 hc
    refine mj_iconst (v := (-1)) dX11_dark_7 (by decide) ?_
    exact mj_reti dX11_dark_8 rfl ⟨Nat.le_of_ble_eq_true rfl, Nat.le_of_ble_eq_true rfl⟩ h
set_option maxRecDepth 20000 in
set_option maxHeartbeats 1000000 in
theorem b_X11_dark_17 {l : Launch} {G : mj_G} {a0 : Nat} {x1 : Int32} {x2 : Int32} {S : mj_S} {Q : mj_S → Int32 → Prop} (hk_a0 : m_kd S a0 = 10) (h : (((m_gi S a0 25) ≤ x2) → Q S x1) ∧ ((¬ ((m_gi S a0 25) ≤ x2)) → ∃ b1, m_gp S a0 34 = some b1 ∧ (vp_in x2 (m_ln S b1) ∧ (((¬ (m_gi S b1 (x2).toNatClampNeg) = 0) → ∀ v2 : Int32, v2 = (x1 ||| (0 : Int32)) → ∀ v3 : Int32, v3 = x2 + (1 : Int32) → V_X11_dark_17 l G a0 v2 v3 S Q) ∧ (((m_gi S b1 (x2).toNatClampNeg) = 0) → ∀ v4 : Int32, v4 = (x1 ||| ((1 : Int32) <<< (x2 &&& 31))) → ∀ v5 : Int32, v5 = x2 + (1 : Int32) → V_X11_dark_17 l G a0 v4 v5 S Q))))) : V_X11_dark_17 l G a0 x1 x2 S Q := by
  refine mj_iload_n dX11_dark_17 rfl rfl ?_
  refine mj_aload_n dX11_dark_18 rfl rfl ?_
  refine mj_getI dX11_dark_19 fl_X11_267_10 hk_a0 rfl ?_
  refine mj_icmp_ge (tgt := 50) dX11_dark_22 (by decide) ⟨fun hc => ?_, fun hc => ?_⟩
  · replace h := h.1 hc
    refine mj_iload_n dX11_dark_50 rfl rfl ?_
    exact mj_reti dX11_dark_51 rfl ⟨Nat.le_of_ble_eq_true rfl, Nat.le_of_ble_eq_true rfl⟩ h
  · replace h := h.2 hc
    refine mj_iload_n dX11_dark_25 rfl rfl ?_
    refine mj_aload_n dX11_dark_26 rfl rfl ?_
    obtain ⟨b1, eb1, h⟩ := h
    refine mj_getP dX11_dark_27 fl_X11_74_10 hk_a0 rfl ⟨b1, eb1, fun hk_b1 => ?_⟩
    refine mj_iload_n dX11_dark_30 rfl rfl ?_
    refine mj_iald dX11_dark_31 (Or.inl hk_b1) ⟨h.1, ?_⟩
    replace h := h.2
    refine mj_if_ne (tgt := 41) dX11_dark_32 (by decide) ⟨fun hc => ?_, fun hc => ?_⟩
    · replace h := h.1 hc
      refine mj_iconst (v := 0) dX11_dark_41 (by decide) ?_
      refine mj_ior dX11_dark_42 ?_
      refine mj_nmi (fun v2 ev2 => ?_)
      replace h := h v2 ev2
      refine mj_istore_n dX11_dark_43 rfl (by decide) rfl rfl ?_
      obtain ⟨v3, ev3⟩ : ∃ z : Int32, z = x2 + (1 : Int32) := ⟨_, rfl⟩
      refine mj_iinc (v := v3) dX11_dark_44 rfl (by rw [ev3]; rfl) (by decide) rfl rfl ?_
      replace h := h v3 ev3
      refine mj_goto (tgt := 17) dX11_dark_47 (by decide) ?_
      exact h
    · replace h := h.2 hc
      refine mj_iconst (v := 1) dX11_dark_35 (by decide) ?_
      refine mj_iload_n dX11_dark_36 rfl rfl ?_
      refine mj_ishl dX11_dark_37 ?_
      refine mj_goto (tgt := 42) dX11_dark_38 (by decide) ?_
      refine mj_ior dX11_dark_42 ?_
      refine mj_nmi (fun v4 ev4 => ?_)
      replace h := h v4 ev4
      refine mj_istore_n dX11_dark_43 rfl (by decide) rfl rfl ?_
      obtain ⟨v5, ev5⟩ : ∃ z : Int32, z = x2 + (1 : Int32) := ⟨_, rfl⟩
      refine mj_iinc (v := v5) dX11_dark_44 rfl (by rw [ev5]; rfl) (by decide) rfl rfl ?_
      replace h := h v5 ev5
      refine mj_goto (tgt := 17) dX11_dark_47 (by decide) ?_
      exact h
abbrev V_X11_borders_0 (l : Launch) (G : mj_G) (a0 : Nat) (x1 : Int32) (S : mj_S) (Q : mj_S → Int32 → Prop) : Prop := mj_V l G (mj_room 6 0 0) RX11 cX11_borders 5 (some .int) false 0 [some (.ref a0), some (.int x1), none, none, none] [] S 0 0 (mj_std G (some .int) (mj_room 6 0 0) (mj_qi Q))
abbrev V_X11_borders_21 (l : Launch) (G : mj_G) (a0 : Nat) (x2 : Int32) (x3 : Int32) (x4 : Int32) (S : mj_S) (Q : mj_S → Int32 → Prop) : Prop := mj_V l G (mj_room 6 0 0) RX11 cX11_borders 5 (some .int) false 21 [some (.ref a0), none, some (.int x2), some (.int x3), some (.int x4)] [] S 0 0 (mj_std G (some .int) (mj_room 6 0 0) (mj_qi Q))
theorem e_X11_borders {l : Launch} {G : mj_G} {a0 : Nat} {x1 : Int32} {S : mj_S} {Q : mj_S → Int32 → Prop} (h : V_X11_borders_0 l G a0 x1 S Q) : M_X11_borders l G a0 x1 S Q := mj_enter (r := 3) (ini := false) (by decide +kernel) (fun h => by cases h) (fun _ => Nat.le_of_ble_eq_true rfl) rfl h
set_option maxRecDepth 20000 in
set_option maxHeartbeats 1000000 in
theorem b_X11_borders_0 {l : Launch} {G : mj_G} {a0 : Nat} {x1 : Int32} {S : mj_S} {Q : mj_S → Int32 → Prop} (hk_a0 : m_kd S a0 = 10) (h : M_X11_isSquare l G a0 x1 S (fun S1 r2 => ((¬ r2 = 0) → M_X11_stateOf l G a0 x1 S1 (fun S3 r4 => V_X11_borders_21 l G a0 r4 (0 : Int32) (0 : Int32) S3 Q)) ∧ ((r2 = 0) → Q S1 (-1 : Int32)))) : V_X11_borders_0 l G a0 x1 S Q := by
  refine mj_aload_n dX11_borders_0 rfl rfl ?_
  refine mj_iload_n dX11_borders_1 rfl rfl ?_
  refine mj_callVi (as := [.int x1]) (st := []) dX11_borders_2 cal_X11_isSquare lk_X11_350 im_X11_isSquare se_X11_isSquare (ci := 10) rfl (by decide) hk_a0 h rfl (Nat.le_of_ble_eq_true rfl) (by decide) ⟨Nat.le_of_ble_eq_true rfl, Nat.le_of_ble_eq_true rfl⟩ (fun S1 r2 h hn_r2 hp => ?_)
  have hk_a0 : m_kd S1 a0 = 10 := m_kd_pre hp hk_a0 (by decide)
  refine mj_if_ne (tgt := 10) dX11_borders_5 (by decide) ⟨fun hc => ?_, fun hc => ?_⟩
  · replace h := h.1 hc
    refine mj_aload_n dX11_borders_10 rfl rfl ?_
    refine mj_iload_n dX11_borders_11 rfl rfl ?_
    refine mj_callVi (as := [.int x1]) (st := []) dX11_borders_12 cal_X11_stateOf lk_X11_328 im_X11_stateOf se_X11_stateOf (ci := 10) rfl (by decide) hk_a0 h rfl (Nat.le_of_ble_eq_true rfl) (by decide) ⟨Nat.le_of_ble_eq_true rfl, Nat.le_of_ble_eq_true rfl⟩ (fun S3 r4 h hn_r4 hp => ?_)
    have hk_a0 : m_kd S3 a0 = 10 := m_kd_pre hp hk_a0 (by decide)
    refine mj_istore_n dX11_borders_15 rfl (by decide) rfl rfl ?_
    refine mj_iconst (v := 0) dX11_borders_16 (by decide) ?_
    refine mj_istore_n dX11_borders_17 rfl (by decide) rfl rfl ?_
    refine mj_iconst (v := 0) dX11_borders_18 (by decide) ?_
    refine mj_istore dX11_borders_19 (by decide) rfl rfl ?_
    exact mj_lessm [true, false, true, true, true] rfl h
  · replace h := h.2 hc
    refine mj_iconst (v := (-1)) dX11_borders_8 (by decide) ?_
    exact mj_reti dX11_borders_9 rfl ⟨Nat.le_of_ble_eq_true rfl, Nat.le_of_ble_eq_true rfl⟩ h
set_option maxRecDepth 20000 in
set_option maxHeartbeats 1000000 in
theorem b_X11_borders_21 {l : Launch} {G : mj_G} {a0 : Nat} {x2 : Int32} {x3 : Int32} {x4 : Int32} {S : mj_S} {Q : mj_S → Int32 → Prop} (hk_a0 : m_kd S a0 = 10) (h : (((m_gi S a0 26) ≤ x4) → Q S x3) ∧ ((¬ ((m_gi S a0 26) ≤ x4)) → M_X11_hangs l G a0 x4 S (fun S1 r2 => ((r2 = 0) → ∀ v3 : Int32, v3 = (x3 ||| (0 : Int32)) → ∀ v4 : Int32, v4 = x4 + (1 : Int32) → V_X11_borders_21 l G a0 x2 v3 v4 S1 Q) ∧ ((¬ (r2 = 0)) → M_X11_firstSide l G a0 x4 S1 (fun S5 r6 => M_X11_has l G x2 r6 S5 (fun S7 r8 => M_X11_secondSide l G a0 x4 S7 (fun S9 r10 => M_X11_has l G x2 r10 S9 (fun S11 r12 => ((r8 = r12) → ∀ v13 : Int32, v13 = (x3 ||| (0 : Int32)) → ∀ v14 : Int32, v14 = x4 + (1 : Int32) → V_X11_borders_21 l G a0 x2 v13 v14 S11 Q) ∧ ((¬ (r8 = r12)) → ∀ v15 : Int32, v15 = (x3 ||| ((1 : Int32) <<< (x4 &&& 31))) → ∀ v16 : Int32, v16 = x4 + (1 : Int32) → V_X11_borders_21 l G a0 x2 v15 v16 S11 Q))))))))) : V_X11_borders_21 l G a0 x2 x3 x4 S Q := by
  refine mj_iload dX11_borders_21 rfl ?_
  refine mj_aload_n dX11_borders_23 rfl rfl ?_
  refine mj_getI dX11_borders_24 fl_X11_261_10 hk_a0 rfl ?_
  refine mj_icmp_ge (tgt := 79) dX11_borders_27 (by decide) ⟨fun hc => ?_, fun hc => ?_⟩
  · replace h := h.1 hc
    refine mj_iload_n dX11_borders_79 rfl rfl ?_
    exact mj_reti dX11_borders_80 rfl ⟨Nat.le_of_ble_eq_true rfl, Nat.le_of_ble_eq_true rfl⟩ h
  · replace h := h.2 hc
    refine mj_iload_n dX11_borders_30 rfl rfl ?_
    refine mj_aload_n dX11_borders_31 rfl rfl ?_
    refine mj_iload dX11_borders_32 rfl ?_
    refine mj_callVi (as := [.int x4]) (st := [.int x3]) dX11_borders_34 cal_X11_hangs lk_X11_307 im_X11_hangs se_X11_hangs (ci := 10) rfl (by decide) hk_a0 h rfl (Nat.le_of_ble_eq_true rfl) (by decide) ⟨Nat.le_of_ble_eq_true rfl, Nat.le_of_ble_eq_true rfl⟩ (fun S1 r2 h hn_r2 hp => ?_)
    have hk_a0 : m_kd S1 a0 = 10 := m_kd_pre hp hk_a0 (by decide)
    refine mj_if_eq (tgt := 70) dX11_borders_37 (by decide) ⟨fun hc => ?_, fun hc => ?_⟩
    · replace h := h.1 hc
      refine mj_iconst (v := 0) dX11_borders_70 (by decide) ?_
      refine mj_ior dX11_borders_71 ?_
      refine mj_nmi (fun v3 ev3 => ?_)
      replace h := h v3 ev3
      refine mj_istore_n dX11_borders_72 rfl (by decide) rfl rfl ?_
      obtain ⟨v4, ev4⟩ : ∃ z : Int32, z = x4 + (1 : Int32) := ⟨_, rfl⟩
      refine mj_iinc (v := v4) dX11_borders_73 rfl (by rw [ev4]; rfl) (by decide) rfl rfl ?_
      replace h := h v4 ev4
      refine mj_goto (tgt := 21) dX11_borders_76 (by decide) ?_
      exact h
    · replace h := h.2 hc
      refine mj_iload_n dX11_borders_40 rfl rfl ?_
      refine mj_aload_n dX11_borders_41 rfl rfl ?_
      refine mj_iload dX11_borders_42 rfl ?_
      refine mj_callVi (as := [.int x4]) (st := [.int x2, .int x3]) dX11_borders_44 cal_X11_firstSide lk_X11_301 im_X11_firstSide se_X11_firstSide (ci := 10) rfl (by decide) hk_a0 h rfl (Nat.le_of_ble_eq_true rfl) (by decide) ⟨Nat.le_of_ble_eq_true rfl, Nat.le_of_ble_eq_true rfl⟩ (fun S5 r6 h hn_r6 hp => ?_)
      have hk_a0 : m_kd S5 a0 = 10 := m_kd_pre hp hk_a0 (by decide)
      refine mj_callSi (as := [.int x2, .int r6]) (st := [.int x3]) dX11_borders_47 cal_X11_has lk_X11_228 sm_X11_has h rfl (Nat.le_of_ble_eq_true rfl) (by decide) ⟨Nat.le_of_ble_eq_true rfl, Nat.le_of_ble_eq_true rfl⟩ (fun S7 r8 h hn_r8 hp => ?_)
      have hk_a0 : m_kd S7 a0 = 10 := m_kd_pre hp hk_a0 (by decide)
      refine mj_iload_n dX11_borders_50 rfl rfl ?_
      refine mj_aload_n dX11_borders_51 rfl rfl ?_
      refine mj_iload dX11_borders_52 rfl ?_
      refine mj_callVi (as := [.int x4]) (st := [.int x2, .int r8, .int x3]) dX11_borders_54 cal_X11_secondSide lk_X11_304 im_X11_secondSide se_X11_secondSide (ci := 10) rfl (by decide) hk_a0 h rfl (Nat.le_of_ble_eq_true rfl) (by decide) ⟨Nat.le_of_ble_eq_true rfl, Nat.le_of_ble_eq_true rfl⟩ (fun S9 r10 h hn_r10 hp => ?_)
      have hk_a0 : m_kd S9 a0 = 10 := m_kd_pre hp hk_a0 (by decide)
      refine mj_callSi (as := [.int x2, .int r10]) (st := [.int r8, .int x3]) dX11_borders_57 cal_X11_has lk_X11_228 sm_X11_has h rfl (Nat.le_of_ble_eq_true rfl) (by decide) ⟨Nat.le_of_ble_eq_true rfl, Nat.le_of_ble_eq_true rfl⟩ (fun S11 r12 h hn_r12 hp => ?_)
      have hk_a0 : m_kd S11 a0 = 10 := m_kd_pre hp hk_a0 (by decide)
      refine mj_icmp_eq (tgt := 70) dX11_borders_60 (by decide) ⟨fun hc => ?_, fun hc => ?_⟩
      · replace h := h.1 hc
        refine mj_iconst (v := 0) dX11_borders_70 (by decide) ?_
        refine mj_ior dX11_borders_71 ?_
        refine mj_nmi (fun v13 ev13 => ?_)
        replace h := h v13 ev13
        refine mj_istore_n dX11_borders_72 rfl (by decide) rfl rfl ?_
        obtain ⟨v14, ev14⟩ : ∃ z : Int32, z = x4 + (1 : Int32) := ⟨_, rfl⟩
        refine mj_iinc (v := v14) dX11_borders_73 rfl (by rw [ev14]; rfl) (by decide) rfl rfl ?_
        replace h := h v14 ev14
        refine mj_goto (tgt := 21) dX11_borders_76 (by decide) ?_
        exact h
      · replace h := h.2 hc
        refine mj_iconst (v := 1) dX11_borders_63 (by decide) ?_
        refine mj_iload dX11_borders_64 rfl ?_
        refine mj_ishl dX11_borders_66 ?_
        refine mj_goto (tgt := 71) dX11_borders_67 (by decide) ?_
        refine mj_ior dX11_borders_71 ?_
        refine mj_nmi (fun v15 ev15 => ?_)
        replace h := h v15 ev15
        refine mj_istore_n dX11_borders_72 rfl (by decide) rfl rfl ?_
        obtain ⟨v16, ev16⟩ : ∃ z : Int32, z = x4 + (1 : Int32) := ⟨_, rfl⟩
        refine mj_iinc (v := v16) dX11_borders_73 rfl (by rw [ev16]; rfl) (by decide) rfl rfl ?_
        replace h := h v16 ev16
        refine mj_goto (tgt := 21) dX11_borders_76 (by decide) ?_
        exact h
abbrev V_X11_guests_0 (l : Launch) (G : mj_G) (a0 : Nat) (S : mj_S) (Q : mj_S → Int32 → Prop) : Prop := mj_V l G (mj_room 6 0 0) RX11 cX11_guests 3 (some .int) false 0 [some (.ref a0), none, none] [] S 0 0 (mj_std G (some .int) (mj_room 6 0 0) (mj_qi Q))
abbrev V_X11_guests_13 (l : Launch) (G : mj_G) (a0 : Nat) (x1 : Int32) (x2 : Int32) (S : mj_S) (Q : mj_S → Int32 → Prop) : Prop := mj_V l G (mj_room 6 0 0) RX11 cX11_guests 3 (some .int) false 13 [some (.ref a0), some (.int x1), some (.int x2)] [] S 0 0 (mj_std G (some .int) (mj_room 6 0 0) (mj_qi Q))
theorem e_X11_guests {l : Launch} {G : mj_G} {a0 : Nat} {S : mj_S} {Q : mj_S → Int32 → Prop} (h : V_X11_guests_0 l G a0 S Q) : M_X11_guests l G a0 S Q := mj_enter (r := 2) (ini := false) (by decide +kernel) (fun h => by cases h) (fun _ => Nat.le_of_ble_eq_true rfl) rfl h
set_option maxRecDepth 20000 in
set_option maxHeartbeats 1000000 in
theorem b_X11_guests_0 {l : Launch} {G : mj_G} {a0 : Nat} {S : mj_S} {Q : mj_S → Int32 → Prop} (hk_a0 : m_kd S a0 = 10) (h : ((¬ (m_gi S a0 25) = 0) → V_X11_guests_13 l G a0 (0 : Int32) (0 : Int32) S Q) ∧ (((m_gi S a0 25) = 0) → Q S (-1 : Int32))) : V_X11_guests_0 l G a0 S Q := by
  refine mj_aload_n dX11_guests_0 rfl rfl ?_
  refine mj_getI dX11_guests_1 fl_X11_267_10 hk_a0 rfl ?_
  refine mj_if_ne (tgt := 9) dX11_guests_4 (by decide) ⟨fun hc => ?_, fun hc => ?_⟩
  · replace h := h.1 hc
    refine mj_iconst (v := 0) dX11_guests_9 (by decide) ?_
    refine mj_istore_n dX11_guests_10 rfl (by decide) rfl rfl ?_
    refine mj_iconst (v := 0) dX11_guests_11 (by decide) ?_
    refine mj_istore_n dX11_guests_12 rfl (by decide) rfl rfl ?_
    exact h
  · replace h := h.2 hc
    refine mj_iconst (v := (-1)) dX11_guests_7 (by decide) ?_
    exact mj_reti dX11_guests_8 rfl ⟨Nat.le_of_ble_eq_true rfl, Nat.le_of_ble_eq_true rfl⟩ h
set_option maxRecDepth 20000 in
set_option maxHeartbeats 1000000 in
theorem b_X11_guests_13 {l : Launch} {G : mj_G} {a0 : Nat} {x1 : Int32} {x2 : Int32} {S : mj_S} {Q : mj_S → Int32 → Prop} (hk_a0 : m_kd S a0 = 10) (h : (((m_gi S a0 27) ≤ x2) → Q S x1) ∧ ((¬ ((m_gi S a0 27) ≤ x2)) → ∃ b1, m_gp S a0 28 = some b1 ∧ (vp_in ((11 : Int32) + x2) (m_ln S b1) ∧ (M_X11_stateOf l G a0 (m_gi S b1 (((11 : Int32) + x2)).toNatClampNeg) S (fun S2 r3 => M_X11_lordOf l G a0 r3 S2 (fun S4 r5 => ((r5 = x2) → ∀ v6 : Int32, v6 = (x1 ||| (0 : Int32)) → ∀ v7 : Int32, v7 = x2 + (1 : Int32) → V_X11_guests_13 l G a0 v6 v7 S4 Q) ∧ ((¬ (r5 = x2)) → ∀ v8 : Int32, v8 = (x1 ||| ((1 : Int32) <<< (x2 &&& 31))) → ∀ v9 : Int32, v9 = x2 + (1 : Int32) → V_X11_guests_13 l G a0 v8 v9 S4 Q))))))) : V_X11_guests_13 l G a0 x1 x2 S Q := by
  refine mj_iload_n dX11_guests_13 rfl rfl ?_
  refine mj_aload_n dX11_guests_14 rfl rfl ?_
  refine mj_getI dX11_guests_15 fl_X11_264_10 hk_a0 rfl ?_
  refine mj_icmp_ge (tgt := 58) dX11_guests_18 (by decide) ⟨fun hc => ?_, fun hc => ?_⟩
  · replace h := h.1 hc
    refine mj_iload_n dX11_guests_58 rfl rfl ?_
    exact mj_reti dX11_guests_59 rfl ⟨Nat.le_of_ble_eq_true rfl, Nat.le_of_ble_eq_true rfl⟩ h
  · replace h := h.2 hc
    refine mj_iload_n dX11_guests_21 rfl rfl ?_
    refine mj_aload_n dX11_guests_22 rfl rfl ?_
    refine mj_aload_n dX11_guests_23 rfl rfl ?_
    refine mj_aload_n dX11_guests_24 rfl rfl ?_
    obtain ⟨b1, eb1, h⟩ := h
    refine mj_getP dX11_guests_25 fl_X11_58_10 hk_a0 rfl ⟨b1, eb1, fun hk_b1 => ?_⟩
    refine mj_bipush (v := 11) dX11_guests_28 (by decide) ?_
    refine mj_iload_n dX11_guests_30 rfl rfl ?_
    refine mj_iadd dX11_guests_31 ?_
    refine mj_iald dX11_guests_32 (Or.inl hk_b1) ⟨h.1, ?_⟩
    replace h := h.2
    refine mj_callVi (as := [.int (m_gi S b1 (((11 : Int32) + x2)).toNatClampNeg)]) (st := [.ref a0, .int x1]) dX11_guests_33 cal_X11_stateOf lk_X11_328 im_X11_stateOf se_X11_stateOf (ci := 10) rfl (by decide) hk_a0 h rfl (Nat.le_of_ble_eq_true rfl) (by decide) ⟨Nat.le_of_ble_eq_true rfl, Nat.le_of_ble_eq_true rfl⟩ (fun S2 r3 h hn_r3 hp => ?_)
    have hk_a0 : m_kd S2 a0 = 10 := m_kd_pre hp hk_a0 (by decide)
    have hk_b1 : m_kd S2 b1 = 100 := m_kd_pre hp hk_b1 (by decide)
    refine mj_callVi (as := [.int r3]) (st := [.int x1]) dX11_guests_36 cal_X11_lordOf lk_X11_347 im_X11_lordOf se_X11_lordOf (ci := 10) rfl (by decide) hk_a0 h rfl (Nat.le_of_ble_eq_true rfl) (by decide) ⟨Nat.le_of_ble_eq_true rfl, Nat.le_of_ble_eq_true rfl⟩ (fun S4 r5 h hn_r5 hp => ?_)
    have hk_a0 : m_kd S4 a0 = 10 := m_kd_pre hp hk_a0 (by decide)
    have hk_b1 : m_kd S4 b1 = 100 := m_kd_pre hp hk_b1 (by decide)
    refine mj_iload_n dX11_guests_39 rfl rfl ?_
    refine mj_icmp_eq (tgt := 49) dX11_guests_40 (by decide) ⟨fun hc => ?_, fun hc => ?_⟩
    · replace h := h.1 hc
      refine mj_iconst (v := 0) dX11_guests_49 (by decide) ?_
      refine mj_ior dX11_guests_50 ?_
      refine mj_nmi (fun v6 ev6 => ?_)
      replace h := h v6 ev6
      refine mj_istore_n dX11_guests_51 rfl (by decide) rfl rfl ?_
      obtain ⟨v7, ev7⟩ : ∃ z : Int32, z = x2 + (1 : Int32) := ⟨_, rfl⟩
      refine mj_iinc (v := v7) dX11_guests_52 rfl (by rw [ev7]; rfl) (by decide) rfl rfl ?_
      replace h := h v7 ev7
      refine mj_goto (tgt := 13) dX11_guests_55 (by decide) ?_
      exact h
    · replace h := h.2 hc
      refine mj_iconst (v := 1) dX11_guests_43 (by decide) ?_
      refine mj_iload_n dX11_guests_44 rfl rfl ?_
      refine mj_ishl dX11_guests_45 ?_
      refine mj_goto (tgt := 50) dX11_guests_46 (by decide) ?_
      refine mj_ior dX11_guests_50 ?_
      refine mj_nmi (fun v8 ev8 => ?_)
      replace h := h v8 ev8
      refine mj_istore_n dX11_guests_51 rfl (by decide) rfl rfl ?_
      obtain ⟨v9, ev9⟩ : ∃ z : Int32, z = x2 + (1 : Int32) := ⟨_, rfl⟩
      refine mj_iinc (v := v9) dX11_guests_52 rfl (by rw [ev9]; rfl) (by decide) rfl rfl ?_
      replace h := h v9 ev9
      refine mj_goto (tgt := 13) dX11_guests_55 (by decide) ?_
      exact h
abbrev V_X11_image_0 (l : Launch) (G : mj_G) (a0 : Nat) (S : mj_S) (Q : mj_S → Int32 → Prop) : Prop := mj_V l G (mj_room 1 0 0) RX11 cX11_image 2 (some .int) false 0 [some (.ref a0), none] [] S 0 0 (mj_std G (some .int) (mj_room 1 0 0) (mj_qi Q))
abbrev V_X11_image_11 (l : Launch) (G : mj_G) (a0 : Nat) (x1 : Int32) (S : mj_S) (Q : mj_S → Int32 → Prop) : Prop := mj_V l G (mj_room 1 0 0) RX11 cX11_image 2 (some .int) false 11 [some (.ref a0), some (.int x1)] [] S 0 0 (mj_std G (some .int) (mj_room 1 0 0) (mj_qi Q))
theorem e_X11_image {l : Launch} {G : mj_G} {a0 : Nat} {S : mj_S} {Q : mj_S → Int32 → Prop} (h : V_X11_image_0 l G a0 S Q) : M_X11_image l G a0 S Q := mj_enter (r := 1) (ini := false) (by decide +kernel) (fun h => by cases h) (fun _ => Nat.le_of_ble_eq_true rfl) rfl h
set_option maxRecDepth 20000 in
set_option maxHeartbeats 1000000 in
theorem b_X11_image_0 {l : Launch} {G : mj_G} {a0 : Nat} {S : mj_S} {Q : mj_S → Int32 → Prop} (hk_a0 : m_kd S a0 = 10) (h : ((¬ (m_gi S a0 25) = 0) → V_X11_image_11 l G a0 (0 : Int32) S Q) ∧ (((m_gi S a0 25) = 0) → Q S (-1 : Int32))) : V_X11_image_0 l G a0 S Q := by
  refine mj_aload_n dX11_image_0 rfl rfl ?_
  refine mj_getI dX11_image_1 fl_X11_267_10 hk_a0 rfl ?_
  refine mj_if_ne (tgt := 9) dX11_image_4 (by decide) ⟨fun hc => ?_, fun hc => ?_⟩
  · replace h := h.1 hc
    refine mj_iconst (v := 0) dX11_image_9 (by decide) ?_
    refine mj_istore_n dX11_image_10 rfl (by decide) rfl rfl ?_
    exact h
  · replace h := h.2 hc
    refine mj_iconst (v := (-1)) dX11_image_7 (by decide) ?_
    exact mj_reti dX11_image_8 rfl ⟨Nat.le_of_ble_eq_true rfl, Nat.le_of_ble_eq_true rfl⟩ h
set_option maxRecDepth 20000 in
set_option maxHeartbeats 1000000 in
theorem b_X11_image_11 {l : Launch} {G : mj_G} {a0 : Nat} {x1 : Int32} {S : mj_S} {Q : mj_S → Int32 → Prop} (hk_a0 : m_kd S a0 = 10) (h : (((199 : Int32) ≤ x1) → ∀ S1 : mj_S, S1 = m_si S a0 46 (1 : Int32) → ∃ b2, m_gp S1 a0 28 = some b2 ∧ (vp_in (17 : Int32) (m_ln S1 b2) ∧ (Q S1 (m_gi S1 b2 ((17 : Int32)).toNatClampNeg)))) ∧ ((¬ ((199 : Int32) ≤ x1)) → ∃ b3, m_gp S a0 45 = some b3 ∧ (∃ b4, m_gp S a0 28 = some b4 ∧ (vp_in x1 (m_ln S b4) ∧ (vp_in x1 (m_ln S b3) ∧ (∀ S5 : mj_S, S5 = m_si S b3 (x1).toNatClampNeg (m_gi S b4 (x1).toNatClampNeg) → ∀ v6 : Int32, v6 = x1 + (1 : Int32) → V_X11_image_11 l G a0 v6 S5 Q)))))) : V_X11_image_11 l G a0 x1 S Q := by
  refine mj_iload_n dX11_image_11 rfl rfl ?_
  refine mj_sipush (v := 199) dX11_image_12 (by decide) ?_
  refine mj_icmp_ge (tgt := 36) dX11_image_15 (by decide) ⟨fun hc => ?_, fun hc => ?_⟩
  · replace h := h.1 hc
    refine mj_aload_n dX11_image_36 rfl rfl ?_
    refine mj_iconst (v := 1) dX11_image_37 (by decide) ?_
    refine mj_putI dX11_image_38 fl_X11_285_10 hk_a0 (Or.inl rfl) rfl rfl rfl ?_
    obtain ⟨S1, eS1⟩ : ∃ z, z = m_si S a0 46 (1 : Int32) := ⟨_, rfl⟩
    rw [← eS1]
    replace h := h S1 eS1
    have hk_a0 : m_kd S1 a0 = 10 := by rw [eS1]; exact hk_a0
    refine mj_aload_n dX11_image_41 rfl rfl ?_
    obtain ⟨b2, eb2, h⟩ := h
    refine mj_getP dX11_image_42 fl_X11_58_10 hk_a0 rfl ⟨b2, eb2, fun hk_b2 => ?_⟩
    refine mj_bipush (v := 17) dX11_image_45 (by decide) ?_
    refine mj_iald dX11_image_47 (Or.inl hk_b2) ⟨h.1, ?_⟩
    replace h := h.2
    exact mj_reti dX11_image_48 rfl ⟨Nat.le_of_ble_eq_true rfl, Nat.le_of_ble_eq_true rfl⟩ h
  · replace h := h.2 hc
    refine mj_aload_n dX11_image_18 rfl rfl ?_
    obtain ⟨b3, eb3, h⟩ := h
    refine mj_getP dX11_image_19 fl_X11_99_10 hk_a0 rfl ⟨b3, eb3, fun hk_b3 => ?_⟩
    refine mj_iload_n dX11_image_22 rfl rfl ?_
    refine mj_aload_n dX11_image_23 rfl rfl ?_
    obtain ⟨b4, eb4, h⟩ := h
    refine mj_getP dX11_image_24 fl_X11_58_10 hk_a0 rfl ⟨b4, eb4, fun hk_b4 => ?_⟩
    refine mj_iload_n dX11_image_27 rfl rfl ?_
    refine mj_iald dX11_image_28 (Or.inl hk_b4) ⟨h.1, ?_⟩
    replace h := h.2
    refine mj_iast dX11_image_29 hk_b3 ⟨h.1, ?_⟩
    replace h := h.2
    obtain ⟨S5, eS5⟩ : ∃ z, z = m_si S b3 (x1).toNatClampNeg (m_gi S b4 (x1).toNatClampNeg) := ⟨_, rfl⟩
    rw [← eS5]
    replace h := h S5 eS5
    have hk_a0 : m_kd S5 a0 = 10 := by rw [eS5]; exact hk_a0
    have hk_b3 : m_kd S5 b3 = 100 := by rw [eS5]; exact hk_b3
    have hk_b4 : m_kd S5 b4 = 100 := by rw [eS5]; exact hk_b4
    obtain ⟨v6, ev6⟩ : ∃ z : Int32, z = x1 + (1 : Int32) := ⟨_, rfl⟩
    refine mj_iinc (v := v6) dX11_image_30 rfl (by rw [ev6]; rfl) (by decide) rfl rfl ?_
    replace h := h v6 ev6
    refine mj_goto (tgt := 11) dX11_image_33 (by decide) ?_
    exact h
abbrev V_X11_back_0 (l : Launch) (G : mj_G) (a0 : Nat) (S : mj_S) (Q : mj_S → Int32 → Prop) : Prop := mj_V l G (mj_room 1 0 0) RX11 cX11_back 2 (some .int) false 0 [some (.ref a0), none] [] S 0 0 (mj_std G (some .int) (mj_room 1 0 0) (mj_qi Q))
abbrev V_X11_back_11 (l : Launch) (G : mj_G) (a0 : Nat) (x1 : Int32) (S : mj_S) (Q : mj_S → Int32 → Prop) : Prop := mj_V l G (mj_room 1 0 0) RX11 cX11_back 2 (some .int) false 11 [some (.ref a0), some (.int x1)] [] S 0 0 (mj_std G (some .int) (mj_room 1 0 0) (mj_qi Q))
theorem e_X11_back {l : Launch} {G : mj_G} {a0 : Nat} {S : mj_S} {Q : mj_S → Int32 → Prop} (h : V_X11_back_0 l G a0 S Q) : M_X11_back l G a0 S Q := mj_enter (r := 1) (ini := false) (by decide +kernel) (fun h => by cases h) (fun _ => Nat.le_of_ble_eq_true rfl) rfl h
set_option maxRecDepth 20000 in
set_option maxHeartbeats 1000000 in
theorem b_X11_back_0 {l : Launch} {G : mj_G} {a0 : Nat} {S : mj_S} {Q : mj_S → Int32 → Prop} (hk_a0 : m_kd S a0 = 10) (h : ((¬ (m_gi S a0 46) = 0) → V_X11_back_11 l G a0 (0 : Int32) S Q) ∧ (((m_gi S a0 46) = 0) → Q S (-1 : Int32))) : V_X11_back_0 l G a0 S Q := by
  refine mj_aload_n dX11_back_0 rfl rfl ?_
  refine mj_getI dX11_back_1 fl_X11_285_10 hk_a0 rfl ?_
  refine mj_if_ne (tgt := 9) dX11_back_4 (by decide) ⟨fun hc => ?_, fun hc => ?_⟩
  · replace h := h.1 hc
    refine mj_iconst (v := 0) dX11_back_9 (by decide) ?_
    refine mj_istore_n dX11_back_10 rfl (by decide) rfl rfl ?_
    exact h
  · replace h := h.2 hc
    refine mj_iconst (v := (-1)) dX11_back_7 (by decide) ?_
    exact mj_reti dX11_back_8 rfl ⟨Nat.le_of_ble_eq_true rfl, Nat.le_of_ble_eq_true rfl⟩ h
set_option maxRecDepth 20000 in
set_option maxHeartbeats 1000000 in
theorem b_X11_back_11 {l : Launch} {G : mj_G} {a0 : Nat} {x1 : Int32} {S : mj_S} {Q : mj_S → Int32 → Prop} (hk_a0 : m_kd S a0 = 10) (h : (((199 : Int32) ≤ x1) → ∀ S1 : mj_S, S1 = m_si S a0 37 (0 : Int32) → ∃ b2, m_gp S1 a0 28 = some b2 ∧ (vp_in (17 : Int32) (m_ln S1 b2) ∧ (Q S1 (m_gi S1 b2 ((17 : Int32)).toNatClampNeg)))) ∧ ((¬ ((199 : Int32) ≤ x1)) → ∃ b3, m_gp S a0 28 = some b3 ∧ (∃ b4, m_gp S a0 45 = some b4 ∧ (vp_in x1 (m_ln S b4) ∧ (vp_in x1 (m_ln S b3) ∧ (∀ S5 : mj_S, S5 = m_si S b3 (x1).toNatClampNeg (m_gi S b4 (x1).toNatClampNeg) → ∀ v6 : Int32, v6 = x1 + (1 : Int32) → V_X11_back_11 l G a0 v6 S5 Q)))))) : V_X11_back_11 l G a0 x1 S Q := by
  refine mj_iload_n dX11_back_11 rfl rfl ?_
  refine mj_sipush (v := 199) dX11_back_12 (by decide) ?_
  refine mj_icmp_ge (tgt := 36) dX11_back_15 (by decide) ⟨fun hc => ?_, fun hc => ?_⟩
  · replace h := h.1 hc
    refine mj_aload_n dX11_back_36 rfl rfl ?_
    refine mj_iconst (v := 0) dX11_back_37 (by decide) ?_
    refine mj_putI dX11_back_38 fl_X11_282_10 hk_a0 (Or.inl rfl) rfl rfl rfl ?_
    obtain ⟨S1, eS1⟩ : ∃ z, z = m_si S a0 37 (0 : Int32) := ⟨_, rfl⟩
    rw [← eS1]
    replace h := h S1 eS1
    have hk_a0 : m_kd S1 a0 = 10 := by rw [eS1]; exact hk_a0
    refine mj_aload_n dX11_back_41 rfl rfl ?_
    obtain ⟨b2, eb2, h⟩ := h
    refine mj_getP dX11_back_42 fl_X11_58_10 hk_a0 rfl ⟨b2, eb2, fun hk_b2 => ?_⟩
    refine mj_bipush (v := 17) dX11_back_45 (by decide) ?_
    refine mj_iald dX11_back_47 (Or.inl hk_b2) ⟨h.1, ?_⟩
    replace h := h.2
    exact mj_reti dX11_back_48 rfl ⟨Nat.le_of_ble_eq_true rfl, Nat.le_of_ble_eq_true rfl⟩ h
  · replace h := h.2 hc
    refine mj_aload_n dX11_back_18 rfl rfl ?_
    obtain ⟨b3, eb3, h⟩ := h
    refine mj_getP dX11_back_19 fl_X11_58_10 hk_a0 rfl ⟨b3, eb3, fun hk_b3 => ?_⟩
    refine mj_iload_n dX11_back_22 rfl rfl ?_
    refine mj_aload_n dX11_back_23 rfl rfl ?_
    obtain ⟨b4, eb4, h⟩ := h
    refine mj_getP dX11_back_24 fl_X11_99_10 hk_a0 rfl ⟨b4, eb4, fun hk_b4 => ?_⟩
    refine mj_iload_n dX11_back_27 rfl rfl ?_
    refine mj_iald dX11_back_28 (Or.inl hk_b4) ⟨h.1, ?_⟩
    replace h := h.2
    refine mj_iast dX11_back_29 hk_b3 ⟨h.1, ?_⟩
    replace h := h.2
    obtain ⟨S5, eS5⟩ : ∃ z, z = m_si S b3 (x1).toNatClampNeg (m_gi S b4 (x1).toNatClampNeg) := ⟨_, rfl⟩
    rw [← eS5]
    replace h := h S5 eS5
    have hk_a0 : m_kd S5 a0 = 10 := by rw [eS5]; exact hk_a0
    have hk_b3 : m_kd S5 b3 = 100 := by rw [eS5]; exact hk_b3
    have hk_b4 : m_kd S5 b4 = 100 := by rw [eS5]; exact hk_b4
    obtain ⟨v6, ev6⟩ : ∃ z : Int32, z = x1 + (1 : Int32) := ⟨_, rfl⟩
    refine mj_iinc (v := v6) dX11_back_30 rfl (by rw [ev6]; rfl) (by decide) rfl rfl ?_
    replace h := h v6 ev6
    refine mj_goto (tgt := 11) dX11_back_33 (by decide) ?_
    exact h
abbrev V_X11_count_0 (l : Launch) (G : mj_G) (a0 : Nat) (x1 : Int32) (S : mj_S) (Q : mj_S → Int32 → Prop) : Prop := mj_V l G (mj_room 7 0 0) RX11 cX11_count 2 (some .int) false 0 [some (.ref a0), some (.int x1)] [] S 0 0 (mj_std G (some .int) (mj_room 7 0 0) (mj_qi Q))
theorem e_X11_count {l : Launch} {G : mj_G} {a0 : Nat} {x1 : Int32} {S : mj_S} {Q : mj_S → Int32 → Prop} (h : V_X11_count_0 l G a0 x1 S Q) : M_X11_count l G a0 x1 S Q := mj_enter (r := 0) (ini := false) (by decide +kernel) (fun h => by cases h) (fun _ => Nat.le_of_ble_eq_true rfl) rfl h
set_option maxRecDepth 20000 in
set_option maxHeartbeats 1000000 in
theorem b_X11_count_0 {l : Launch} {G : mj_G} {a0 : Nat} {x1 : Int32} {S : mj_S} {Q : mj_S → Int32 → Prop} (hk_a0 : m_kd S a0 = 10) (h : (x1.toInt < 0 ∨ 14 < x1.toInt → Q S (-1000000 : Int32)) ∧ (x1.toInt = 0 → Q S (m_gi S a0 25)) ∧ (x1.toInt = 1 → Q S (m_gi S a0 26)) ∧ (x1.toInt = 2 → Q S (m_gi S a0 27)) ∧ (x1.toInt = 3 → Q S (m_gi S a0 13)) ∧ (x1.toInt = 4 → Q S (m_gi S a0 2)) ∧ (x1.toInt = 5 → Q S (m_gi S a0 30)) ∧ (x1.toInt = 6 → ∃ b1, m_gp S a0 28 = some b1 ∧ (vp_in (17 : Int32) (m_ln S b1) ∧ (Q S (m_gi S b1 ((17 : Int32)).toNatClampNeg)))) ∧ (x1.toInt = 7 → M_X11_states l G a0 S (fun S2 r3 => Q S2 r3)) ∧ (x1.toInt = 8 → M_X11_hanging l G a0 S (fun S4 r5 => Q S4 r5)) ∧ (x1.toInt = 9 → M_X11_fallen l G a0 S (fun S6 r7 => Q S6 r7)) ∧ (x1.toInt = 10 → M_X11_clothOfAll l G a0 S (fun S8 r9 => Q S8 r9)) ∧ (x1.toInt = 11 → Q S (m_gi S a0 31)) ∧ (x1.toInt = 12 → Q S (m_gi S a0 44)) ∧ (x1.toInt = 13 → ∃ b10, m_gp S a0 28 = some b10 ∧ (vp_in (18 : Int32) (m_ln S b10) ∧ (Q S (m_gi S b10 ((18 : Int32)).toNatClampNeg)))) ∧ (x1.toInt = 14 → Q S (m_gi S a0 37))) : V_X11_count_0 l G a0 x1 S Q := by
  refine mj_iload_n dX11_count_0 rfl rfl ?_
  by_cases hlo : x1.toInt < 0 ∨ 14 < x1.toInt
  · replace h := h.1 hlo
    refine mj_tabOut (tgt := 157) dX11_count_1 hlo (by decide) ?_
    refine mj_ldcw dX11_count_157 co_X11_433 ?_
    exact mj_reti dX11_count_160 rfl ⟨Nat.le_of_ble_eq_true rfl, Nat.le_of_ble_eq_true rfl⟩ h
  · replace h := h.2
    rcases (show x1.toInt = 0 ∨ x1.toInt = 1 ∨ x1.toInt = 2 ∨ x1.toInt = 3 ∨ x1.toInt = 4 ∨ x1.toInt = 5 ∨ x1.toInt = 6 ∨ x1.toInt = 7 ∨ x1.toInt = 8 ∨ x1.toInt = 9 ∨ x1.toInt = 10 ∨ x1.toInt = 11 ∨ x1.toInt = 12 ∨ x1.toInt = 13 ∨ x1.toInt = 14 by omega) with e | e | e | e | e | e | e | e | e | e | e | e | e | e | e
    · replace h := h.1 e
      refine mj_tabIn (tgt := 76) (off := 75) dX11_count_1 (by omega) (by omega) (by rw [e]; rfl) (by decide) ?_
      refine mj_aload_n dX11_count_76 rfl rfl ?_
      refine mj_getI dX11_count_77 fl_X11_267_10 hk_a0 rfl ?_
      exact mj_reti dX11_count_80 rfl ⟨Nat.le_of_ble_eq_true rfl, Nat.le_of_ble_eq_true rfl⟩ h
    · replace h := h.2.1 e
      refine mj_tabIn (tgt := 81) (off := 80) dX11_count_1 (by omega) (by omega) (by rw [e]; rfl) (by decide) ?_
      refine mj_aload_n dX11_count_81 rfl rfl ?_
      refine mj_getI dX11_count_82 fl_X11_261_10 hk_a0 rfl ?_
      exact mj_reti dX11_count_85 rfl ⟨Nat.le_of_ble_eq_true rfl, Nat.le_of_ble_eq_true rfl⟩ h
    · replace h := h.2.2.1 e
      refine mj_tabIn (tgt := 86) (off := 85) dX11_count_1 (by omega) (by omega) (by rw [e]; rfl) (by decide) ?_
      refine mj_aload_n dX11_count_86 rfl rfl ?_
      refine mj_getI dX11_count_87 fl_X11_264_10 hk_a0 rfl ?_
      exact mj_reti dX11_count_90 rfl ⟨Nat.le_of_ble_eq_true rfl, Nat.le_of_ble_eq_true rfl⟩ h
    · replace h := h.2.2.2.1 e
      refine mj_tabIn (tgt := 91) (off := 90) dX11_count_1 (by omega) (by omega) (by rw [e]; rfl) (by decide) ?_
      refine mj_aload_n dX11_count_91 rfl rfl ?_
      refine mj_getI dX11_count_92 fl_X11_292_10 hk_a0 rfl ?_
      exact mj_reti dX11_count_95 rfl ⟨Nat.le_of_ble_eq_true rfl, Nat.le_of_ble_eq_true rfl⟩ h
    · replace h := h.2.2.2.2.1 e
      refine mj_tabIn (tgt := 96) (off := 95) dX11_count_1 (by omega) (by omega) (by rw [e]; rfl) (by decide) ?_
      refine mj_aload_n dX11_count_96 rfl rfl ?_
      refine mj_getI dX11_count_97 fl_X11_109_10 hk_a0 rfl ?_
      exact mj_reti dX11_count_100 rfl ⟨Nat.le_of_ble_eq_true rfl, Nat.le_of_ble_eq_true rfl⟩ h
    · replace h := h.2.2.2.2.2.1 e
      refine mj_tabIn (tgt := 101) (off := 100) dX11_count_1 (by omega) (by omega) (by rw [e]; rfl) (by decide) ?_
      refine mj_aload_n dX11_count_101 rfl rfl ?_
      refine mj_getI dX11_count_102 fl_X11_64_10 hk_a0 rfl ?_
      exact mj_reti dX11_count_105 rfl ⟨Nat.le_of_ble_eq_true rfl, Nat.le_of_ble_eq_true rfl⟩ h
    · replace h := h.2.2.2.2.2.2.1 e
      refine mj_tabIn (tgt := 106) (off := 105) dX11_count_1 (by omega) (by omega) (by rw [e]; rfl) (by decide) ?_
      refine mj_aload_n dX11_count_106 rfl rfl ?_
      obtain ⟨b1, eb1, h⟩ := h
      refine mj_getP dX11_count_107 fl_X11_58_10 hk_a0 rfl ⟨b1, eb1, fun hk_b1 => ?_⟩
      refine mj_bipush (v := 17) dX11_count_110 (by decide) ?_
      refine mj_iald dX11_count_112 (Or.inl hk_b1) ⟨h.1, ?_⟩
      replace h := h.2
      exact mj_reti dX11_count_113 rfl ⟨Nat.le_of_ble_eq_true rfl, Nat.le_of_ble_eq_true rfl⟩ h
    · replace h := h.2.2.2.2.2.2.2.1 e
      refine mj_tabIn (tgt := 114) (off := 113) dX11_count_1 (by omega) (by omega) (by rw [e]; rfl) (by decide) ?_
      refine mj_aload_n dX11_count_114 rfl rfl ?_
      refine mj_callVi (as := []) (st := []) dX11_count_115 cal_X11_states lk_X11_362 im_X11_states se_X11_states (ci := 10) rfl (by decide) hk_a0 h rfl (Nat.le_of_ble_eq_true rfl) (by decide) ⟨Nat.le_of_ble_eq_true rfl, Nat.le_of_ble_eq_true rfl⟩ (fun S2 r3 h hn_r3 hp => ?_)
      have hk_a0 : m_kd S2 a0 = 10 := m_kd_pre hp hk_a0 (by decide)
      exact mj_reti dX11_count_118 rfl ⟨Nat.le_of_ble_eq_true rfl, Nat.le_of_ble_eq_true rfl⟩ h
    · replace h := h.2.2.2.2.2.2.2.2.1 e
      refine mj_tabIn (tgt := 119) (off := 118) dX11_count_1 (by omega) (by omega) (by rw [e]; rfl) (by decide) ?_
      refine mj_aload_n dX11_count_119 rfl rfl ?_
      refine mj_callVi (as := []) (st := []) dX11_count_120 cal_X11_hanging lk_X11_314 im_X11_hanging se_X11_hanging (ci := 10) rfl (by decide) hk_a0 h rfl (Nat.le_of_ble_eq_true rfl) (by decide) ⟨Nat.le_of_ble_eq_true rfl, Nat.le_of_ble_eq_true rfl⟩ (fun S4 r5 h hn_r5 hp => ?_)
      have hk_a0 : m_kd S4 a0 = 10 := m_kd_pre hp hk_a0 (by decide)
      exact mj_reti dX11_count_123 rfl ⟨Nat.le_of_ble_eq_true rfl, Nat.le_of_ble_eq_true rfl⟩ h
    · replace h := h.2.2.2.2.2.2.2.2.2.1 e
      refine mj_tabIn (tgt := 124) (off := 123) dX11_count_1 (by omega) (by omega) (by rw [e]; rfl) (by decide) ?_
      refine mj_aload_n dX11_count_124 rfl rfl ?_
      refine mj_callVi (as := []) (st := []) dX11_count_125 cal_X11_fallen lk_X11_403 im_X11_fallen se_X11_fallen (ci := 10) rfl (by decide) hk_a0 h rfl (Nat.le_of_ble_eq_true rfl) (by decide) ⟨Nat.le_of_ble_eq_true rfl, Nat.le_of_ble_eq_true rfl⟩ (fun S6 r7 h hn_r7 hp => ?_)
      have hk_a0 : m_kd S6 a0 = 10 := m_kd_pre hp hk_a0 (by decide)
      exact mj_reti dX11_count_128 rfl ⟨Nat.le_of_ble_eq_true rfl, Nat.le_of_ble_eq_true rfl⟩ h
    · replace h := h.2.2.2.2.2.2.2.2.2.2.1 e
      refine mj_tabIn (tgt := 129) (off := 128) dX11_count_1 (by omega) (by omega) (by rw [e]; rfl) (by decide) ?_
      refine mj_aload_n dX11_count_129 rfl rfl ?_
      refine mj_callVi (as := []) (st := []) dX11_count_130 cal_X11_clothOfAll lk_X11_421 im_X11_clothOfAll se_X11_clothOfAll (ci := 10) rfl (by decide) hk_a0 h rfl (Nat.le_of_ble_eq_true rfl) (by decide) ⟨Nat.le_of_ble_eq_true rfl, Nat.le_of_ble_eq_true rfl⟩ (fun S8 r9 h hn_r9 hp => ?_)
      have hk_a0 : m_kd S8 a0 = 10 := m_kd_pre hp hk_a0 (by decide)
      exact mj_reti dX11_count_133 rfl ⟨Nat.le_of_ble_eq_true rfl, Nat.le_of_ble_eq_true rfl⟩ h
    · replace h := h.2.2.2.2.2.2.2.2.2.2.2.1 e
      refine mj_tabIn (tgt := 134) (off := 133) dX11_count_1 (by omega) (by omega) (by rw [e]; rfl) (by decide) ?_
      refine mj_aload_n dX11_count_134 rfl rfl ?_
      refine mj_getI dX11_count_135 fl_X11_383_10 hk_a0 rfl ?_
      exact mj_reti dX11_count_138 rfl ⟨Nat.le_of_ble_eq_true rfl, Nat.le_of_ble_eq_true rfl⟩ h
    · replace h := h.2.2.2.2.2.2.2.2.2.2.2.2.1 e
      refine mj_tabIn (tgt := 139) (off := 138) dX11_count_1 (by omega) (by omega) (by rw [e]; rfl) (by decide) ?_
      refine mj_aload_n dX11_count_139 rfl rfl ?_
      refine mj_getI dX11_count_140 fl_X11_279_10 hk_a0 rfl ?_
      exact mj_reti dX11_count_143 rfl ⟨Nat.le_of_ble_eq_true rfl, Nat.le_of_ble_eq_true rfl⟩ h
    · replace h := h.2.2.2.2.2.2.2.2.2.2.2.2.2.1 e
      refine mj_tabIn (tgt := 144) (off := 143) dX11_count_1 (by omega) (by omega) (by rw [e]; rfl) (by decide) ?_
      refine mj_aload_n dX11_count_144 rfl rfl ?_
      obtain ⟨b10, eb10, h⟩ := h
      refine mj_getP dX11_count_145 fl_X11_58_10 hk_a0 rfl ⟨b10, eb10, fun hk_b10 => ?_⟩
      refine mj_bipush (v := 18) dX11_count_148 (by decide) ?_
      refine mj_iald dX11_count_150 (Or.inl hk_b10) ⟨h.1, ?_⟩
      replace h := h.2
      exact mj_reti dX11_count_151 rfl ⟨Nat.le_of_ble_eq_true rfl, Nat.le_of_ble_eq_true rfl⟩ h
    · replace h := h.2.2.2.2.2.2.2.2.2.2.2.2.2.2 e
      refine mj_tabIn (tgt := 152) (off := 151) dX11_count_1 (by omega) (by omega) (by rw [e]; rfl) (by decide) ?_
      refine mj_aload_n dX11_count_152 rfl rfl ?_
      refine mj_getI dX11_count_153 fl_X11_282_10 hk_a0 rfl ?_
      exact mj_reti dX11_count_156 rfl ⟨Nat.le_of_ble_eq_true rfl, Nat.le_of_ble_eq_true rfl⟩ h
