abbrev V_X11_in_0 (l : Launch) (G : mj_G) (x0 : Int32) (x1 : Int32) (x2 : Int32) (S : mj_S) (Q : mj_S → Int32 → Prop) : Prop := mj_V l G (mj_room 1 0 0) RX11 cX11_in 3 (some .boolean) false 0 [some (.int x0), some (.int x1), some (.int x2)] [] S 0 0 (mj_std G (some .boolean) (mj_room 1 0 0) (mj_qi Q))
theorem e_X11_in {l : Launch} {G : mj_G} {x0 : Int32} {x1 : Int32} {x2 : Int32} {S : mj_S} {Q : mj_S → Int32 → Prop} (h : V_X11_in_0 l G x0 x1 x2 S Q) : M_X11_in l G x0 x1 x2 S Q := mj_enter (r := 0) (ini := false) (by decide +kernel) (fun h => by cases h) (fun _ => Nat.le_of_ble_eq_true rfl) rfl h
set_option maxRecDepth 20000 in
set_option maxHeartbeats 1000000 in
theorem b_X11_in_0 {l : Launch} {G : mj_G} {x0 : Int32} {x1 : Int32} {x2 : Int32} {S : mj_S} {Q : mj_S → Int32 → Prop} (h : ((x0 < x1) → Q S (0 : Int32)) ∧ ((¬ (x0 < x1)) → ((x2 < x0) → Q S (0 : Int32)) ∧ ((¬ (x2 < x0)) → Q S (1 : Int32)))) : V_X11_in_0 l G x0 x1 x2 S Q := by
  refine mj_iload_n dX11_in_0 rfl rfl ?_
  refine mj_iload_n dX11_in_1 rfl rfl ?_
  refine mj_icmp_lt (tgt := 14) dX11_in_2 (by decide) ⟨fun hc => ?_, fun hc => ?_⟩
  · replace h := h.1 hc
    refine mj_iconst (v := 0) dX11_in_14 (by decide) ?_
    exact mj_retz dX11_in_15 rfl (rfl) ⟨Nat.le_of_ble_eq_true rfl, Nat.le_of_ble_eq_true rfl⟩ h
  · replace h := h.2 hc
    refine mj_iload_n dX11_in_5 rfl rfl ?_
    refine mj_iload_n dX11_in_6 rfl rfl ?_
    refine mj_icmp_gt (tgt := 14) dX11_in_7 (by decide) ⟨fun hc => ?_, fun hc => ?_⟩
    · replace h := h.1 hc
      refine mj_iconst (v := 0) dX11_in_14 (by decide) ?_
      exact mj_retz dX11_in_15 rfl (rfl) ⟨Nat.le_of_ble_eq_true rfl, Nat.le_of_ble_eq_true rfl⟩ h
    · replace h := h.2 hc
      refine mj_iconst (v := 1) dX11_in_10 (by decide) ?_
      refine mj_goto (tgt := 15) dX11_in_11 (by decide) ?_
      exact mj_retz dX11_in_15 rfl (rfl) ⟨Nat.le_of_ble_eq_true rfl, Nat.le_of_ble_eq_true rfl⟩ h
abbrev V_X11_has_0 (l : Launch) (G : mj_G) (x0 : Int32) (x1 : Int32) (S : mj_S) (Q : mj_S → Int32 → Prop) : Prop := mj_V l G (mj_room 1 0 0) RX11 cX11_has 2 (some .boolean) false 0 [some (.int x0), some (.int x1)] [] S 0 0 (mj_std G (some .boolean) (mj_room 1 0 0) (mj_qi Q))
theorem e_X11_has {l : Launch} {G : mj_G} {x0 : Int32} {x1 : Int32} {S : mj_S} {Q : mj_S → Int32 → Prop} (h : V_X11_has_0 l G x0 x1 S Q) : M_X11_has l G x0 x1 S Q := mj_enter (r := 0) (ini := false) (by decide +kernel) (fun h => by cases h) (fun _ => Nat.le_of_ble_eq_true rfl) rfl h
set_option maxRecDepth 20000 in
set_option maxHeartbeats 1000000 in
theorem b_X11_has_0 {l : Launch} {G : mj_G} {x0 : Int32} {x1 : Int32} {S : mj_S} {Q : mj_S → Int32 → Prop} (h : ((¬ ((x0 >>> (x1 &&& 31)) &&& (1 : Int32)) = (1 : Int32)) → Q S (0 : Int32)) ∧ ((((x0 >>> (x1 &&& 31)) &&& (1 : Int32)) = (1 : Int32)) → Q S (1 : Int32))) : V_X11_has_0 l G x0 x1 S Q := by
  refine mj_iload_n dX11_has_0 rfl rfl ?_
  refine mj_iload_n dX11_has_1 rfl rfl ?_
  refine mj_ishr dX11_has_2 ?_
  refine mj_iconst (v := 1) dX11_has_3 (by decide) ?_
  refine mj_iand dX11_has_4 ?_
  refine mj_iconst (v := 1) dX11_has_5 (by decide) ?_
  refine mj_icmp_ne (tgt := 13) dX11_has_6 (by decide) ⟨fun hc => ?_, fun hc => ?_⟩
  · replace h := h.1 hc
    refine mj_iconst (v := 0) dX11_has_13 (by decide) ?_
    exact mj_retz dX11_has_14 rfl (rfl) ⟨Nat.le_of_ble_eq_true rfl, Nat.le_of_ble_eq_true rfl⟩ h
  · replace h := h.2 hc
    refine mj_iconst (v := 1) dX11_has_9 (by decide) ?_
    refine mj_goto (tgt := 14) dX11_has_10 (by decide) ?_
    exact mj_retz dX11_has_14 rfl (rfl) ⟨Nat.le_of_ble_eq_true rfl, Nat.le_of_ble_eq_true rfl⟩ h
abbrev V_X11_init_0 (l : Launch) (G : mj_G) (a0 : Nat) (S : mj_S) (Q : mj_S → Prop) : Prop := mj_V l G (mj_room 1 29 16621) RX11 cX11_init 1 none true 0 [some (.ref a0)] [] S 0 0 (mj_std G none (mj_room 1 29 16621) (mj_qv Q))
theorem e_X11_init {l : Launch} {G : mj_G} {a0 : Nat} {S : mj_S} {Q : mj_S → Prop} (h : V_X11_init_0 l G a0 S Q) : M_X11_init l G a0 S Q := mj_enter (r := 0) (ini := true) (by decide +kernel) (fun _ => rfl) (fun _ => Nat.le_of_ble_eq_true rfl) rfl h
set_option maxRecDepth 20000 in
set_option maxHeartbeats 1000000 in
theorem b_X11_init_0 {l : Launch} {G : mj_G} {a0 : Nat} {S : mj_S} {Q : mj_S → Prop} (hk_a0 : m_kd S a0 = 10) (h : ∀ q1 : Nat, q1 = S.1.length → ∀ S2 : mj_S, S2 = m_nw S 100 240 → ∀ S3 : mj_S, S3 = m_sp S2 a0 1 (some q1) → ∀ q4 : Nat, q4 = S3.1.length → ∀ S5 : mj_S, S5 = m_nw S3 100 2600 → ∀ S6 : mj_S, S6 = m_sp S5 a0 6 (some q4) → ∀ q7 : Nat, q7 = S6.1.length → ∀ S8 : mj_S, S8 = m_nw S6 100 2600 → ∀ S9 : mj_S, S9 = m_sp S8 a0 7 (some q7) → ∀ q10 : Nat, q10 = S9.1.length → ∀ S11 : mj_S, S11 = m_nw S9 100 5 → ∀ S12 : mj_S, S12 = m_sp S11 a0 8 (some q10) → ∀ q13 : Nat, q13 = S12.1.length → ∀ S14 : mj_S, S14 = m_nw S12 100 5 → ∀ S15 : mj_S, S15 = m_sp S14 a0 9 (some q13) → ∀ q16 : Nat, q16 = S15.1.length → ∀ S17 : mj_S, S17 = m_nw S15 100 700 → ∀ S18 : mj_S, S18 = m_sp S17 a0 10 (some q16) → ∀ q19 : Nat, q19 = S18.1.length → ∀ S20 : mj_S, S20 = m_nw S18 100 700 → ∀ S21 : mj_S, S21 = m_sp S20 a0 11 (some q19) → ∀ q22 : Nat, q22 = S21.1.length → ∀ S23 : mj_S, S23 = m_nw S21 100 700 → ∀ S24 : mj_S, S24 = m_sp S23 a0 12 (some q22) → ∀ q25 : Nat, q25 = S24.1.length → ∀ S26 : mj_S, S26 = m_nw S24 100 6 → ∀ S27 : mj_S, S27 = m_sp S26 a0 15 (some q25) → ∀ q28 : Nat, q28 = S27.1.length → ∀ S29 : mj_S, S29 = m_nw S27 100 80 → ∀ S30 : mj_S, S30 = m_sp S29 a0 16 (some q28) → ∀ q31 : Nat, q31 = S30.1.length → ∀ S32 : mj_S, S32 = m_nw S30 100 4 → ∀ S33 : mj_S, S33 = m_sp S32 a0 17 (some q31) → ∀ q34 : Nat, q34 = S33.1.length → ∀ S35 : mj_S, S35 = m_nw S33 100 60 → ∀ S36 : mj_S, S36 = m_sp S35 a0 18 (some q34) → ∀ q37 : Nat, q37 = S36.1.length → ∀ S38 : mj_S, S38 = m_nw S36 100 12 → ∀ S39 : mj_S, S39 = m_sp S38 a0 19 (some q37) → ∀ q40 : Nat, q40 = S39.1.length → ∀ S41 : mj_S, S41 = m_nw S39 100 4 → ∀ S42 : mj_S, S42 = m_sp S41 a0 22 (some q40) → ∀ q43 : Nat, q43 = S42.1.length → ∀ S44 : mj_S, S44 = m_nw S42 100 60 → ∀ S45 : mj_S, S45 = m_sp S44 a0 23 (some q43) → ∀ q46 : Nat, q46 = S45.1.length → ∀ S47 : mj_S, S47 = m_nw S45 100 12 → ∀ S48 : mj_S, S48 = m_sp S47 a0 24 (some q46) → ∀ q49 : Nat, q49 = S48.1.length → ∀ S50 : mj_S, S50 = m_nw S48 100 199 → ∀ S51 : mj_S, S51 = m_sp S50 a0 28 (some q49) → ∀ q52 : Nat, q52 = S51.1.length → ∀ S53 : mj_S, S53 = m_nw S51 100 5 → ∀ S54 : mj_S, S54 = m_sp S53 a0 29 (some q52) → ∀ S55 : mj_S, S55 = m_si S54 a0 30 (-1 : Int32) → ∀ q56 : Nat, q56 = S55.1.length → ∀ S57 : mj_S, S57 = m_nw S55 100 80 → ∀ S58 : mj_S, S58 = m_sp S57 a0 32 (some q56) → ∀ q59 : Nat, q59 = S58.1.length → ∀ S60 : mj_S, S60 = m_nw S58 100 80 → ∀ S61 : mj_S, S61 = m_sp S60 a0 33 (some q59) → ∀ q62 : Nat, q62 = S61.1.length → ∀ S63 : mj_S, S63 = m_nw S61 100 20 → ∀ S64 : mj_S, S64 = m_sp S63 a0 34 (some q62) → ∀ q65 : Nat, q65 = S64.1.length → ∀ S66 : mj_S, S66 = m_nw S64 100 10 → ∀ S67 : mj_S, S67 = m_sp S66 a0 35 (some q65) → ∀ q68 : Nat, q68 = S67.1.length → ∀ S69 : mj_S, S69 = m_nw S67 100 7960 → ∀ S70 : mj_S, S70 = m_sp S69 a0 36 (some q68) → ∀ q71 : Nat, q71 = S70.1.length → ∀ S72 : mj_S, S72 = m_nw S70 100 18 → ∀ S73 : mj_S, S73 = m_sp S72 a0 39 (some q71) → ∀ q74 : Nat, q74 = S73.1.length → ∀ S75 : mj_S, S75 = m_nw S73 100 121 → ∀ S76 : mj_S, S76 = m_sp S75 a0 40 (some q74) → ∀ q77 : Nat, q77 = S76.1.length → ∀ S78 : mj_S, S78 = m_nw S76 100 121 → ∀ S79 : mj_S, S79 = m_sp S78 a0 41 (some q77) → ∀ q80 : Nat, q80 = S79.1.length → ∀ S81 : mj_S, S81 = m_nw S79 100 10 → ∀ S82 : mj_S, S82 = m_sp S81 a0 42 (some q80) → ∀ q83 : Nat, q83 = S82.1.length → ∀ S84 : mj_S, S84 = m_nw S82 101 10 → ∀ S85 : mj_S, S85 = m_sp S84 a0 43 (some q83) → ∀ q86 : Nat, q86 = S85.1.length → ∀ S87 : mj_S, S87 = m_nw S85 100 199 → ∀ S88 : mj_S, S88 = m_sp S87 a0 45 (some q86) → Q S88) : V_X11_init_0 l G a0 S Q := by
  refine mj_aload_n dX11_init_0 rfl rfl ?_
  refine mj_objInit (st := []) dX11_init_1 oi_X11_3 oi_im oi_co (by decide) (Nat.le_of_ble_eq_true rfl) ?_
  refine mj_aload_n dX11_init_4 rfl rfl ?_
  refine mj_sipush (v := 240) dX11_init_5 (by decide) ?_
  refine mj_newI (N := 240) dX11_init_8 ar_int (by decide) (by decide) (by decide) (Nat.le_of_ble_eq_true rfl) (Nat.le_of_ble_eq_true rfl) ?_
  obtain ⟨q1, eq1⟩ : ∃ z, z = S.1.length := ⟨_, rfl⟩
  rw [← eq1]
  obtain ⟨S2, eS2⟩ : ∃ z, z = m_nw S 100 240 := ⟨_, rfl⟩
  rw [← eS2]
  replace h := h q1 eq1 S2 eS2
  have hp : S.1 <+: S2.1 := by rw [eS2]; exact List.prefix_append _ _
  have hk_q1 : m_kd S2 q1 = 100 := by rw [eS2, eq1]; exact m_kd_nwl
  have hk_a0 : m_kd S2 a0 = 10 := m_kd_pre hp hk_a0 (by decide)
  refine mj_putP dX11_init_10 fl_X11_9_10 hk_a0 (Or.inr ⟨rfl, rfl⟩) rfl hk_q1 (fun _ => rfl) (fun _ => rfl) ?_
  obtain ⟨S3, eS3⟩ : ∃ z, z = m_sp S2 a0 1 (some q1) := ⟨_, rfl⟩
  rw [← eS3]
  replace h := h S3 eS3
  have hk_a0 : m_kd S3 a0 = 10 := by rw [eS3]; exact hk_a0
  have hk_q1 : m_kd S3 q1 = 100 := by rw [eS3]; exact hk_q1
  refine mj_aload_n dX11_init_13 rfl rfl ?_
  refine mj_sipush (v := 2600) dX11_init_14 (by decide) ?_
  refine mj_newI (N := 2600) dX11_init_17 ar_int (by decide) (by decide) (by decide) (Nat.le_of_ble_eq_true rfl) (Nat.le_of_ble_eq_true rfl) ?_
  obtain ⟨q4, eq4⟩ : ∃ z, z = S3.1.length := ⟨_, rfl⟩
  rw [← eq4]
  obtain ⟨S5, eS5⟩ : ∃ z, z = m_nw S3 100 2600 := ⟨_, rfl⟩
  rw [← eS5]
  replace h := h q4 eq4 S5 eS5
  have hp : S3.1 <+: S5.1 := by rw [eS5]; exact List.prefix_append _ _
  have hk_q4 : m_kd S5 q4 = 100 := by rw [eS5, eq4]; exact m_kd_nwl
  have hk_a0 : m_kd S5 a0 = 10 := m_kd_pre hp hk_a0 (by decide)
  have hk_q1 : m_kd S5 q1 = 100 := m_kd_pre hp hk_q1 (by decide)
  refine mj_putP dX11_init_19 fl_X11_13_10 hk_a0 (Or.inr ⟨rfl, rfl⟩) rfl hk_q4 (fun _ => rfl) (fun _ => rfl) ?_
  obtain ⟨S6, eS6⟩ : ∃ z, z = m_sp S5 a0 6 (some q4) := ⟨_, rfl⟩
  rw [← eS6]
  replace h := h S6 eS6
  have hk_a0 : m_kd S6 a0 = 10 := by rw [eS6]; exact hk_a0
  have hk_q1 : m_kd S6 q1 = 100 := by rw [eS6]; exact hk_q1
  have hk_q4 : m_kd S6 q4 = 100 := by rw [eS6]; exact hk_q4
  refine mj_aload_n dX11_init_22 rfl rfl ?_
  refine mj_sipush (v := 2600) dX11_init_23 (by decide) ?_
  refine mj_newI (N := 2600) dX11_init_26 ar_int (by decide) (by decide) (by decide) (Nat.le_of_ble_eq_true rfl) (Nat.le_of_ble_eq_true rfl) ?_
  obtain ⟨q7, eq7⟩ : ∃ z, z = S6.1.length := ⟨_, rfl⟩
  rw [← eq7]
  obtain ⟨S8, eS8⟩ : ∃ z, z = m_nw S6 100 2600 := ⟨_, rfl⟩
  rw [← eS8]
  replace h := h q7 eq7 S8 eS8
  have hp : S6.1 <+: S8.1 := by rw [eS8]; exact List.prefix_append _ _
  have hk_q7 : m_kd S8 q7 = 100 := by rw [eS8, eq7]; exact m_kd_nwl
  have hk_a0 : m_kd S8 a0 = 10 := m_kd_pre hp hk_a0 (by decide)
  have hk_q1 : m_kd S8 q1 = 100 := m_kd_pre hp hk_q1 (by decide)
  have hk_q4 : m_kd S8 q4 = 100 := m_kd_pre hp hk_q4 (by decide)
  refine mj_putP dX11_init_28 fl_X11_16_10 hk_a0 (Or.inr ⟨rfl, rfl⟩) rfl hk_q7 (fun _ => rfl) (fun _ => rfl) ?_
  obtain ⟨S9, eS9⟩ : ∃ z, z = m_sp S8 a0 7 (some q7) := ⟨_, rfl⟩
  rw [← eS9]
  replace h := h S9 eS9
  have hk_a0 : m_kd S9 a0 = 10 := by rw [eS9]; exact hk_a0
  have hk_q1 : m_kd S9 q1 = 100 := by rw [eS9]; exact hk_q1
  have hk_q4 : m_kd S9 q4 = 100 := by rw [eS9]; exact hk_q4
  have hk_q7 : m_kd S9 q7 = 100 := by rw [eS9]; exact hk_q7
  refine mj_aload_n dX11_init_31 rfl rfl ?_
  refine mj_iconst (v := 5) dX11_init_32 (by decide) ?_
  refine mj_newI (N := 5) dX11_init_33 ar_int (by decide) (by decide) (by decide) (Nat.le_of_ble_eq_true rfl) (Nat.le_of_ble_eq_true rfl) ?_
  obtain ⟨q10, eq10⟩ : ∃ z, z = S9.1.length := ⟨_, rfl⟩
  rw [← eq10]
  obtain ⟨S11, eS11⟩ : ∃ z, z = m_nw S9 100 5 := ⟨_, rfl⟩
  rw [← eS11]
  replace h := h q10 eq10 S11 eS11
  have hp : S9.1 <+: S11.1 := by rw [eS11]; exact List.prefix_append _ _
  have hk_q10 : m_kd S11 q10 = 100 := by rw [eS11, eq10]; exact m_kd_nwl
  have hk_a0 : m_kd S11 a0 = 10 := m_kd_pre hp hk_a0 (by decide)
  have hk_q1 : m_kd S11 q1 = 100 := m_kd_pre hp hk_q1 (by decide)
  have hk_q4 : m_kd S11 q4 = 100 := m_kd_pre hp hk_q4 (by decide)
  have hk_q7 : m_kd S11 q7 = 100 := m_kd_pre hp hk_q7 (by decide)
  refine mj_putP dX11_init_35 fl_X11_19_10 hk_a0 (Or.inr ⟨rfl, rfl⟩) rfl hk_q10 (fun _ => rfl) (fun _ => rfl) ?_
  obtain ⟨S12, eS12⟩ : ∃ z, z = m_sp S11 a0 8 (some q10) := ⟨_, rfl⟩
  rw [← eS12]
  replace h := h S12 eS12
  have hk_a0 : m_kd S12 a0 = 10 := by rw [eS12]; exact hk_a0
  have hk_q1 : m_kd S12 q1 = 100 := by rw [eS12]; exact hk_q1
  have hk_q4 : m_kd S12 q4 = 100 := by rw [eS12]; exact hk_q4
  have hk_q7 : m_kd S12 q7 = 100 := by rw [eS12]; exact hk_q7
  have hk_q10 : m_kd S12 q10 = 100 := by rw [eS12]; exact hk_q10
  refine mj_aload_n dX11_init_38 rfl rfl ?_
  refine mj_iconst (v := 5) dX11_init_39 (by decide) ?_
  refine mj_newI (N := 5) dX11_init_40 ar_int (by decide) (by decide) (by decide) (Nat.le_of_ble_eq_true rfl) (Nat.le_of_ble_eq_true rfl) ?_
  obtain ⟨q13, eq13⟩ : ∃ z, z = S12.1.length := ⟨_, rfl⟩
  rw [← eq13]
  obtain ⟨S14, eS14⟩ : ∃ z, z = m_nw S12 100 5 := ⟨_, rfl⟩
  rw [← eS14]
  replace h := h q13 eq13 S14 eS14
  have hp : S12.1 <+: S14.1 := by rw [eS14]; exact List.prefix_append _ _
  have hk_q13 : m_kd S14 q13 = 100 := by rw [eS14, eq13]; exact m_kd_nwl
  have hk_a0 : m_kd S14 a0 = 10 := m_kd_pre hp hk_a0 (by decide)
  have hk_q1 : m_kd S14 q1 = 100 := m_kd_pre hp hk_q1 (by decide)
  have hk_q4 : m_kd S14 q4 = 100 := m_kd_pre hp hk_q4 (by decide)
  have hk_q7 : m_kd S14 q7 = 100 := m_kd_pre hp hk_q7 (by decide)
  have hk_q10 : m_kd S14 q10 = 100 := m_kd_pre hp hk_q10 (by decide)
  refine mj_putP dX11_init_42 fl_X11_22_10 hk_a0 (Or.inr ⟨rfl, rfl⟩) rfl hk_q13 (fun _ => rfl) (fun _ => rfl) ?_
  obtain ⟨S15, eS15⟩ : ∃ z, z = m_sp S14 a0 9 (some q13) := ⟨_, rfl⟩
  rw [← eS15]
  replace h := h S15 eS15
  have hk_a0 : m_kd S15 a0 = 10 := by rw [eS15]; exact hk_a0
  have hk_q1 : m_kd S15 q1 = 100 := by rw [eS15]; exact hk_q1
  have hk_q4 : m_kd S15 q4 = 100 := by rw [eS15]; exact hk_q4
  have hk_q7 : m_kd S15 q7 = 100 := by rw [eS15]; exact hk_q7
  have hk_q10 : m_kd S15 q10 = 100 := by rw [eS15]; exact hk_q10
  have hk_q13 : m_kd S15 q13 = 100 := by rw [eS15]; exact hk_q13
  refine mj_aload_n dX11_init_45 rfl rfl ?_
  refine mj_sipush (v := 700) dX11_init_46 (by decide) ?_
  refine mj_newI (N := 700) dX11_init_49 ar_int (by decide) (by decide) (by decide) (Nat.le_of_ble_eq_true rfl) (Nat.le_of_ble_eq_true rfl) ?_
  obtain ⟨q16, eq16⟩ : ∃ z, z = S15.1.length := ⟨_, rfl⟩
  rw [← eq16]
  obtain ⟨S17, eS17⟩ : ∃ z, z = m_nw S15 100 700 := ⟨_, rfl⟩
  rw [← eS17]
  replace h := h q16 eq16 S17 eS17
  have hp : S15.1 <+: S17.1 := by rw [eS17]; exact List.prefix_append _ _
  have hk_q16 : m_kd S17 q16 = 100 := by rw [eS17, eq16]; exact m_kd_nwl
  have hk_a0 : m_kd S17 a0 = 10 := m_kd_pre hp hk_a0 (by decide)
  have hk_q1 : m_kd S17 q1 = 100 := m_kd_pre hp hk_q1 (by decide)
  have hk_q4 : m_kd S17 q4 = 100 := m_kd_pre hp hk_q4 (by decide)
  have hk_q7 : m_kd S17 q7 = 100 := m_kd_pre hp hk_q7 (by decide)
  have hk_q10 : m_kd S17 q10 = 100 := m_kd_pre hp hk_q10 (by decide)
  have hk_q13 : m_kd S17 q13 = 100 := m_kd_pre hp hk_q13 (by decide)
  refine mj_putP dX11_init_51 fl_X11_25_10 hk_a0 (Or.inr ⟨rfl, rfl⟩) rfl hk_q16 (fun _ => rfl) (fun _ => rfl) ?_
  obtain ⟨S18, eS18⟩ : ∃ z, z = m_sp S17 a0 10 (some q16) := ⟨_, rfl⟩
  rw [← eS18]
  replace h := h S18 eS18
  have hk_a0 : m_kd S18 a0 = 10 := by rw [eS18]; exact hk_a0
  have hk_q1 : m_kd S18 q1 = 100 := by rw [eS18]; exact hk_q1
  have hk_q4 : m_kd S18 q4 = 100 := by rw [eS18]; exact hk_q4
  have hk_q7 : m_kd S18 q7 = 100 := by rw [eS18]; exact hk_q7
  have hk_q10 : m_kd S18 q10 = 100 := by rw [eS18]; exact hk_q10
  have hk_q13 : m_kd S18 q13 = 100 := by rw [eS18]; exact hk_q13
  have hk_q16 : m_kd S18 q16 = 100 := by rw [eS18]; exact hk_q16
  refine mj_aload_n dX11_init_54 rfl rfl ?_
  refine mj_sipush (v := 700) dX11_init_55 (by decide) ?_
  refine mj_newI (N := 700) dX11_init_58 ar_int (by decide) (by decide) (by decide) (Nat.le_of_ble_eq_true rfl) (Nat.le_of_ble_eq_true rfl) ?_
  obtain ⟨q19, eq19⟩ : ∃ z, z = S18.1.length := ⟨_, rfl⟩
  rw [← eq19]
  obtain ⟨S20, eS20⟩ : ∃ z, z = m_nw S18 100 700 := ⟨_, rfl⟩
  rw [← eS20]
  replace h := h q19 eq19 S20 eS20
  have hp : S18.1 <+: S20.1 := by rw [eS20]; exact List.prefix_append _ _
  have hk_q19 : m_kd S20 q19 = 100 := by rw [eS20, eq19]; exact m_kd_nwl
  have hk_a0 : m_kd S20 a0 = 10 := m_kd_pre hp hk_a0 (by decide)
  have hk_q1 : m_kd S20 q1 = 100 := m_kd_pre hp hk_q1 (by decide)
  have hk_q4 : m_kd S20 q4 = 100 := m_kd_pre hp hk_q4 (by decide)
  have hk_q7 : m_kd S20 q7 = 100 := m_kd_pre hp hk_q7 (by decide)
  have hk_q10 : m_kd S20 q10 = 100 := m_kd_pre hp hk_q10 (by decide)
  have hk_q13 : m_kd S20 q13 = 100 := m_kd_pre hp hk_q13 (by decide)
  have hk_q16 : m_kd S20 q16 = 100 := m_kd_pre hp hk_q16 (by decide)
  refine mj_putP dX11_init_60 fl_X11_28_10 hk_a0 (Or.inr ⟨rfl, rfl⟩) rfl hk_q19 (fun _ => rfl) (fun _ => rfl) ?_
  obtain ⟨S21, eS21⟩ : ∃ z, z = m_sp S20 a0 11 (some q19) := ⟨_, rfl⟩
  rw [← eS21]
  replace h := h S21 eS21
  have hk_a0 : m_kd S21 a0 = 10 := by rw [eS21]; exact hk_a0
  have hk_q1 : m_kd S21 q1 = 100 := by rw [eS21]; exact hk_q1
  have hk_q4 : m_kd S21 q4 = 100 := by rw [eS21]; exact hk_q4
  have hk_q7 : m_kd S21 q7 = 100 := by rw [eS21]; exact hk_q7
  have hk_q10 : m_kd S21 q10 = 100 := by rw [eS21]; exact hk_q10
  have hk_q13 : m_kd S21 q13 = 100 := by rw [eS21]; exact hk_q13
  have hk_q16 : m_kd S21 q16 = 100 := by rw [eS21]; exact hk_q16
  have hk_q19 : m_kd S21 q19 = 100 := by rw [eS21]; exact hk_q19
  refine mj_aload_n dX11_init_63 rfl rfl ?_
  refine mj_sipush (v := 700) dX11_init_64 (by decide) ?_
  refine mj_newI (N := 700) dX11_init_67 ar_int (by decide) (by decide) (by decide) (Nat.le_of_ble_eq_true rfl) (Nat.le_of_ble_eq_true rfl) ?_
  obtain ⟨q22, eq22⟩ : ∃ z, z = S21.1.length := ⟨_, rfl⟩
  rw [← eq22]
  obtain ⟨S23, eS23⟩ : ∃ z, z = m_nw S21 100 700 := ⟨_, rfl⟩
  rw [← eS23]
  replace h := h q22 eq22 S23 eS23
  have hp : S21.1 <+: S23.1 := by rw [eS23]; exact List.prefix_append _ _
  have hk_q22 : m_kd S23 q22 = 100 := by rw [eS23, eq22]; exact m_kd_nwl
  have hk_a0 : m_kd S23 a0 = 10 := m_kd_pre hp hk_a0 (by decide)
  have hk_q1 : m_kd S23 q1 = 100 := m_kd_pre hp hk_q1 (by decide)
  have hk_q4 : m_kd S23 q4 = 100 := m_kd_pre hp hk_q4 (by decide)
  have hk_q7 : m_kd S23 q7 = 100 := m_kd_pre hp hk_q7 (by decide)
  have hk_q10 : m_kd S23 q10 = 100 := m_kd_pre hp hk_q10 (by decide)
  have hk_q13 : m_kd S23 q13 = 100 := m_kd_pre hp hk_q13 (by decide)
  have hk_q16 : m_kd S23 q16 = 100 := m_kd_pre hp hk_q16 (by decide)
  have hk_q19 : m_kd S23 q19 = 100 := m_kd_pre hp hk_q19 (by decide)
  refine mj_putP dX11_init_69 fl_X11_31_10 hk_a0 (Or.inr ⟨rfl, rfl⟩) rfl hk_q22 (fun _ => rfl) (fun _ => rfl) ?_
  obtain ⟨S24, eS24⟩ : ∃ z, z = m_sp S23 a0 12 (some q22) := ⟨_, rfl⟩
  rw [← eS24]
  replace h := h S24 eS24
  have hk_a0 : m_kd S24 a0 = 10 := by rw [eS24]; exact hk_a0
  have hk_q1 : m_kd S24 q1 = 100 := by rw [eS24]; exact hk_q1
  have hk_q4 : m_kd S24 q4 = 100 := by rw [eS24]; exact hk_q4
  have hk_q7 : m_kd S24 q7 = 100 := by rw [eS24]; exact hk_q7
  have hk_q10 : m_kd S24 q10 = 100 := by rw [eS24]; exact hk_q10
  have hk_q13 : m_kd S24 q13 = 100 := by rw [eS24]; exact hk_q13
  have hk_q16 : m_kd S24 q16 = 100 := by rw [eS24]; exact hk_q16
  have hk_q19 : m_kd S24 q19 = 100 := by rw [eS24]; exact hk_q19
  have hk_q22 : m_kd S24 q22 = 100 := by rw [eS24]; exact hk_q22
  refine mj_aload_n dX11_init_72 rfl rfl ?_
  refine mj_bipush (v := 6) dX11_init_73 (by decide) ?_
  refine mj_newI (N := 6) dX11_init_75 ar_int (by decide) (by decide) (by decide) (Nat.le_of_ble_eq_true rfl) (Nat.le_of_ble_eq_true rfl) ?_
  obtain ⟨q25, eq25⟩ : ∃ z, z = S24.1.length := ⟨_, rfl⟩
  rw [← eq25]
  obtain ⟨S26, eS26⟩ : ∃ z, z = m_nw S24 100 6 := ⟨_, rfl⟩
  rw [← eS26]
  replace h := h q25 eq25 S26 eS26
  have hp : S24.1 <+: S26.1 := by rw [eS26]; exact List.prefix_append _ _
  have hk_q25 : m_kd S26 q25 = 100 := by rw [eS26, eq25]; exact m_kd_nwl
  have hk_a0 : m_kd S26 a0 = 10 := m_kd_pre hp hk_a0 (by decide)
  have hk_q1 : m_kd S26 q1 = 100 := m_kd_pre hp hk_q1 (by decide)
  have hk_q4 : m_kd S26 q4 = 100 := m_kd_pre hp hk_q4 (by decide)
  have hk_q7 : m_kd S26 q7 = 100 := m_kd_pre hp hk_q7 (by decide)
  have hk_q10 : m_kd S26 q10 = 100 := m_kd_pre hp hk_q10 (by decide)
  have hk_q13 : m_kd S26 q13 = 100 := m_kd_pre hp hk_q13 (by decide)
  have hk_q16 : m_kd S26 q16 = 100 := m_kd_pre hp hk_q16 (by decide)
  have hk_q19 : m_kd S26 q19 = 100 := m_kd_pre hp hk_q19 (by decide)
  have hk_q22 : m_kd S26 q22 = 100 := m_kd_pre hp hk_q22 (by decide)
  refine mj_putP dX11_init_77 fl_X11_34_10 hk_a0 (Or.inr ⟨rfl, rfl⟩) rfl hk_q25 (fun _ => rfl) (fun _ => rfl) ?_
  obtain ⟨S27, eS27⟩ : ∃ z, z = m_sp S26 a0 15 (some q25) := ⟨_, rfl⟩
  rw [← eS27]
  replace h := h S27 eS27
  have hk_a0 : m_kd S27 a0 = 10 := by rw [eS27]; exact hk_a0
  have hk_q1 : m_kd S27 q1 = 100 := by rw [eS27]; exact hk_q1
  have hk_q4 : m_kd S27 q4 = 100 := by rw [eS27]; exact hk_q4
  have hk_q7 : m_kd S27 q7 = 100 := by rw [eS27]; exact hk_q7
  have hk_q10 : m_kd S27 q10 = 100 := by rw [eS27]; exact hk_q10
  have hk_q13 : m_kd S27 q13 = 100 := by rw [eS27]; exact hk_q13
  have hk_q16 : m_kd S27 q16 = 100 := by rw [eS27]; exact hk_q16
  have hk_q19 : m_kd S27 q19 = 100 := by rw [eS27]; exact hk_q19
  have hk_q22 : m_kd S27 q22 = 100 := by rw [eS27]; exact hk_q22
  have hk_q25 : m_kd S27 q25 = 100 := by rw [eS27]; exact hk_q25
  refine mj_aload_n dX11_init_80 rfl rfl ?_
  refine mj_bipush (v := 80) dX11_init_81 (by decide) ?_
  refine mj_newI (N := 80) dX11_init_83 ar_int (by decide) (by decide) (by decide) (Nat.le_of_ble_eq_true rfl) (Nat.le_of_ble_eq_true rfl) ?_
  obtain ⟨q28, eq28⟩ : ∃ z, z = S27.1.length := ⟨_, rfl⟩
  rw [← eq28]
  obtain ⟨S29, eS29⟩ : ∃ z, z = m_nw S27 100 80 := ⟨_, rfl⟩
  rw [← eS29]
  replace h := h q28 eq28 S29 eS29
  have hp : S27.1 <+: S29.1 := by rw [eS29]; exact List.prefix_append _ _
  have hk_q28 : m_kd S29 q28 = 100 := by rw [eS29, eq28]; exact m_kd_nwl
  have hk_a0 : m_kd S29 a0 = 10 := m_kd_pre hp hk_a0 (by decide)
  have hk_q1 : m_kd S29 q1 = 100 := m_kd_pre hp hk_q1 (by decide)
  have hk_q4 : m_kd S29 q4 = 100 := m_kd_pre hp hk_q4 (by decide)
  have hk_q7 : m_kd S29 q7 = 100 := m_kd_pre hp hk_q7 (by decide)
  have hk_q10 : m_kd S29 q10 = 100 := m_kd_pre hp hk_q10 (by decide)
  have hk_q13 : m_kd S29 q13 = 100 := m_kd_pre hp hk_q13 (by decide)
  have hk_q16 : m_kd S29 q16 = 100 := m_kd_pre hp hk_q16 (by decide)
  have hk_q19 : m_kd S29 q19 = 100 := m_kd_pre hp hk_q19 (by decide)
  have hk_q22 : m_kd S29 q22 = 100 := m_kd_pre hp hk_q22 (by decide)
  have hk_q25 : m_kd S29 q25 = 100 := m_kd_pre hp hk_q25 (by decide)
  refine mj_putP dX11_init_85 fl_X11_37_10 hk_a0 (Or.inr ⟨rfl, rfl⟩) rfl hk_q28 (fun _ => rfl) (fun _ => rfl) ?_
  obtain ⟨S30, eS30⟩ : ∃ z, z = m_sp S29 a0 16 (some q28) := ⟨_, rfl⟩
  rw [← eS30]
  replace h := h S30 eS30
  have hk_a0 : m_kd S30 a0 = 10 := by rw [eS30]; exact hk_a0
  have hk_q1 : m_kd S30 q1 = 100 := by rw [eS30]; exact hk_q1
  have hk_q4 : m_kd S30 q4 = 100 := by rw [eS30]; exact hk_q4
  have hk_q7 : m_kd S30 q7 = 100 := by rw [eS30]; exact hk_q7
  have hk_q10 : m_kd S30 q10 = 100 := by rw [eS30]; exact hk_q10
  have hk_q13 : m_kd S30 q13 = 100 := by rw [eS30]; exact hk_q13
  have hk_q16 : m_kd S30 q16 = 100 := by rw [eS30]; exact hk_q16
  have hk_q19 : m_kd S30 q19 = 100 := by rw [eS30]; exact hk_q19
  have hk_q22 : m_kd S30 q22 = 100 := by rw [eS30]; exact hk_q22
  have hk_q25 : m_kd S30 q25 = 100 := by rw [eS30]; exact hk_q25
  have hk_q28 : m_kd S30 q28 = 100 := by rw [eS30]; exact hk_q28
  refine mj_aload_n dX11_init_88 rfl rfl ?_
  refine mj_iconst (v := 4) dX11_init_89 (by decide) ?_
  refine mj_newI (N := 4) dX11_init_90 ar_int (by decide) (by decide) (by decide) (Nat.le_of_ble_eq_true rfl) (Nat.le_of_ble_eq_true rfl) ?_
  obtain ⟨q31, eq31⟩ : ∃ z, z = S30.1.length := ⟨_, rfl⟩
  rw [← eq31]
  obtain ⟨S32, eS32⟩ : ∃ z, z = m_nw S30 100 4 := ⟨_, rfl⟩
  rw [← eS32]
  replace h := h q31 eq31 S32 eS32
  have hp : S30.1 <+: S32.1 := by rw [eS32]; exact List.prefix_append _ _
  have hk_q31 : m_kd S32 q31 = 100 := by rw [eS32, eq31]; exact m_kd_nwl
  have hk_a0 : m_kd S32 a0 = 10 := m_kd_pre hp hk_a0 (by decide)
  have hk_q1 : m_kd S32 q1 = 100 := m_kd_pre hp hk_q1 (by decide)
  have hk_q4 : m_kd S32 q4 = 100 := m_kd_pre hp hk_q4 (by decide)
  have hk_q7 : m_kd S32 q7 = 100 := m_kd_pre hp hk_q7 (by decide)
  have hk_q10 : m_kd S32 q10 = 100 := m_kd_pre hp hk_q10 (by decide)
  have hk_q13 : m_kd S32 q13 = 100 := m_kd_pre hp hk_q13 (by decide)
  have hk_q16 : m_kd S32 q16 = 100 := m_kd_pre hp hk_q16 (by decide)
  have hk_q19 : m_kd S32 q19 = 100 := m_kd_pre hp hk_q19 (by decide)
  have hk_q22 : m_kd S32 q22 = 100 := m_kd_pre hp hk_q22 (by decide)
  have hk_q25 : m_kd S32 q25 = 100 := m_kd_pre hp hk_q25 (by decide)
  have hk_q28 : m_kd S32 q28 = 100 := m_kd_pre hp hk_q28 (by decide)
  refine mj_putP dX11_init_92 fl_X11_40_10 hk_a0 (Or.inr ⟨rfl, rfl⟩) rfl hk_q31 (fun _ => rfl) (fun _ => rfl) ?_
  obtain ⟨S33, eS33⟩ : ∃ z, z = m_sp S32 a0 17 (some q31) := ⟨_, rfl⟩
  rw [← eS33]
  replace h := h S33 eS33
  have hk_a0 : m_kd S33 a0 = 10 := by rw [eS33]; exact hk_a0
  have hk_q1 : m_kd S33 q1 = 100 := by rw [eS33]; exact hk_q1
  have hk_q4 : m_kd S33 q4 = 100 := by rw [eS33]; exact hk_q4
  have hk_q7 : m_kd S33 q7 = 100 := by rw [eS33]; exact hk_q7
  have hk_q10 : m_kd S33 q10 = 100 := by rw [eS33]; exact hk_q10
  have hk_q13 : m_kd S33 q13 = 100 := by rw [eS33]; exact hk_q13
  have hk_q16 : m_kd S33 q16 = 100 := by rw [eS33]; exact hk_q16
  have hk_q19 : m_kd S33 q19 = 100 := by rw [eS33]; exact hk_q19
  have hk_q22 : m_kd S33 q22 = 100 := by rw [eS33]; exact hk_q22
  have hk_q25 : m_kd S33 q25 = 100 := by rw [eS33]; exact hk_q25
  have hk_q28 : m_kd S33 q28 = 100 := by rw [eS33]; exact hk_q28
  have hk_q31 : m_kd S33 q31 = 100 := by rw [eS33]; exact hk_q31
  refine mj_aload_n dX11_init_95 rfl rfl ?_
  refine mj_bipush (v := 60) dX11_init_96 (by decide) ?_
  refine mj_newI (N := 60) dX11_init_98 ar_int (by decide) (by decide) (by decide) (Nat.le_of_ble_eq_true rfl) (Nat.le_of_ble_eq_true rfl) ?_
  obtain ⟨q34, eq34⟩ : ∃ z, z = S33.1.length := ⟨_, rfl⟩
  rw [← eq34]
  obtain ⟨S35, eS35⟩ : ∃ z, z = m_nw S33 100 60 := ⟨_, rfl⟩
  rw [← eS35]
  replace h := h q34 eq34 S35 eS35
  have hp : S33.1 <+: S35.1 := by rw [eS35]; exact List.prefix_append _ _
  have hk_q34 : m_kd S35 q34 = 100 := by rw [eS35, eq34]; exact m_kd_nwl
  have hk_a0 : m_kd S35 a0 = 10 := m_kd_pre hp hk_a0 (by decide)
  have hk_q1 : m_kd S35 q1 = 100 := m_kd_pre hp hk_q1 (by decide)
  have hk_q4 : m_kd S35 q4 = 100 := m_kd_pre hp hk_q4 (by decide)
  have hk_q7 : m_kd S35 q7 = 100 := m_kd_pre hp hk_q7 (by decide)
  have hk_q10 : m_kd S35 q10 = 100 := m_kd_pre hp hk_q10 (by decide)
  have hk_q13 : m_kd S35 q13 = 100 := m_kd_pre hp hk_q13 (by decide)
  have hk_q16 : m_kd S35 q16 = 100 := m_kd_pre hp hk_q16 (by decide)
  have hk_q19 : m_kd S35 q19 = 100 := m_kd_pre hp hk_q19 (by decide)
  have hk_q22 : m_kd S35 q22 = 100 := m_kd_pre hp hk_q22 (by decide)
  have hk_q25 : m_kd S35 q25 = 100 := m_kd_pre hp hk_q25 (by decide)
  have hk_q28 : m_kd S35 q28 = 100 := m_kd_pre hp hk_q28 (by decide)
  have hk_q31 : m_kd S35 q31 = 100 := m_kd_pre hp hk_q31 (by decide)
  refine mj_putP dX11_init_100 fl_X11_43_10 hk_a0 (Or.inr ⟨rfl, rfl⟩) rfl hk_q34 (fun _ => rfl) (fun _ => rfl) ?_
  obtain ⟨S36, eS36⟩ : ∃ z, z = m_sp S35 a0 18 (some q34) := ⟨_, rfl⟩
  rw [← eS36]
  replace h := h S36 eS36
  have hk_a0 : m_kd S36 a0 = 10 := by rw [eS36]; exact hk_a0
  have hk_q1 : m_kd S36 q1 = 100 := by rw [eS36]; exact hk_q1
  have hk_q4 : m_kd S36 q4 = 100 := by rw [eS36]; exact hk_q4
  have hk_q7 : m_kd S36 q7 = 100 := by rw [eS36]; exact hk_q7
  have hk_q10 : m_kd S36 q10 = 100 := by rw [eS36]; exact hk_q10
  have hk_q13 : m_kd S36 q13 = 100 := by rw [eS36]; exact hk_q13
  have hk_q16 : m_kd S36 q16 = 100 := by rw [eS36]; exact hk_q16
  have hk_q19 : m_kd S36 q19 = 100 := by rw [eS36]; exact hk_q19
  have hk_q22 : m_kd S36 q22 = 100 := by rw [eS36]; exact hk_q22
  have hk_q25 : m_kd S36 q25 = 100 := by rw [eS36]; exact hk_q25
  have hk_q28 : m_kd S36 q28 = 100 := by rw [eS36]; exact hk_q28
  have hk_q31 : m_kd S36 q31 = 100 := by rw [eS36]; exact hk_q31
  have hk_q34 : m_kd S36 q34 = 100 := by rw [eS36]; exact hk_q34
  refine mj_aload_n dX11_init_103 rfl rfl ?_
  refine mj_bipush (v := 12) dX11_init_104 (by decide) ?_
  refine mj_newI (N := 12) dX11_init_106 ar_int (by decide) (by decide) (by decide) (Nat.le_of_ble_eq_true rfl) (Nat.le_of_ble_eq_true rfl) ?_
  obtain ⟨q37, eq37⟩ : ∃ z, z = S36.1.length := ⟨_, rfl⟩
  rw [← eq37]
  obtain ⟨S38, eS38⟩ : ∃ z, z = m_nw S36 100 12 := ⟨_, rfl⟩
  rw [← eS38]
  replace h := h q37 eq37 S38 eS38
  have hp : S36.1 <+: S38.1 := by rw [eS38]; exact List.prefix_append _ _
  have hk_q37 : m_kd S38 q37 = 100 := by rw [eS38, eq37]; exact m_kd_nwl
  have hk_a0 : m_kd S38 a0 = 10 := m_kd_pre hp hk_a0 (by decide)
  have hk_q1 : m_kd S38 q1 = 100 := m_kd_pre hp hk_q1 (by decide)
  have hk_q4 : m_kd S38 q4 = 100 := m_kd_pre hp hk_q4 (by decide)
  have hk_q7 : m_kd S38 q7 = 100 := m_kd_pre hp hk_q7 (by decide)
  have hk_q10 : m_kd S38 q10 = 100 := m_kd_pre hp hk_q10 (by decide)
  have hk_q13 : m_kd S38 q13 = 100 := m_kd_pre hp hk_q13 (by decide)
  have hk_q16 : m_kd S38 q16 = 100 := m_kd_pre hp hk_q16 (by decide)
  have hk_q19 : m_kd S38 q19 = 100 := m_kd_pre hp hk_q19 (by decide)
  have hk_q22 : m_kd S38 q22 = 100 := m_kd_pre hp hk_q22 (by decide)
  have hk_q25 : m_kd S38 q25 = 100 := m_kd_pre hp hk_q25 (by decide)
  have hk_q28 : m_kd S38 q28 = 100 := m_kd_pre hp hk_q28 (by decide)
  have hk_q31 : m_kd S38 q31 = 100 := m_kd_pre hp hk_q31 (by decide)
  have hk_q34 : m_kd S38 q34 = 100 := m_kd_pre hp hk_q34 (by decide)
  refine mj_putP dX11_init_108 fl_X11_46_10 hk_a0 (Or.inr ⟨rfl, rfl⟩) rfl hk_q37 (fun _ => rfl) (fun _ => rfl) ?_
  obtain ⟨S39, eS39⟩ : ∃ z, z = m_sp S38 a0 19 (some q37) := ⟨_, rfl⟩
  rw [← eS39]
  replace h := h S39 eS39
  have hk_a0 : m_kd S39 a0 = 10 := by rw [eS39]; exact hk_a0
  have hk_q1 : m_kd S39 q1 = 100 := by rw [eS39]; exact hk_q1
  have hk_q4 : m_kd S39 q4 = 100 := by rw [eS39]; exact hk_q4
  have hk_q7 : m_kd S39 q7 = 100 := by rw [eS39]; exact hk_q7
  have hk_q10 : m_kd S39 q10 = 100 := by rw [eS39]; exact hk_q10
  have hk_q13 : m_kd S39 q13 = 100 := by rw [eS39]; exact hk_q13
  have hk_q16 : m_kd S39 q16 = 100 := by rw [eS39]; exact hk_q16
  have hk_q19 : m_kd S39 q19 = 100 := by rw [eS39]; exact hk_q19
  have hk_q22 : m_kd S39 q22 = 100 := by rw [eS39]; exact hk_q22
  have hk_q25 : m_kd S39 q25 = 100 := by rw [eS39]; exact hk_q25
  have hk_q28 : m_kd S39 q28 = 100 := by rw [eS39]; exact hk_q28
  have hk_q31 : m_kd S39 q31 = 100 := by rw [eS39]; exact hk_q31
  have hk_q34 : m_kd S39 q34 = 100 := by rw [eS39]; exact hk_q34
  have hk_q37 : m_kd S39 q37 = 100 := by rw [eS39]; exact hk_q37
  refine mj_aload_n dX11_init_111 rfl rfl ?_
  refine mj_iconst (v := 4) dX11_init_112 (by decide) ?_
  refine mj_newI (N := 4) dX11_init_113 ar_int (by decide) (by decide) (by decide) (Nat.le_of_ble_eq_true rfl) (Nat.le_of_ble_eq_true rfl) ?_
  obtain ⟨q40, eq40⟩ : ∃ z, z = S39.1.length := ⟨_, rfl⟩
  rw [← eq40]
  obtain ⟨S41, eS41⟩ : ∃ z, z = m_nw S39 100 4 := ⟨_, rfl⟩
  rw [← eS41]
  replace h := h q40 eq40 S41 eS41
  have hp : S39.1 <+: S41.1 := by rw [eS41]; exact List.prefix_append _ _
  have hk_q40 : m_kd S41 q40 = 100 := by rw [eS41, eq40]; exact m_kd_nwl
  have hk_a0 : m_kd S41 a0 = 10 := m_kd_pre hp hk_a0 (by decide)
  have hk_q1 : m_kd S41 q1 = 100 := m_kd_pre hp hk_q1 (by decide)
  have hk_q4 : m_kd S41 q4 = 100 := m_kd_pre hp hk_q4 (by decide)
  have hk_q7 : m_kd S41 q7 = 100 := m_kd_pre hp hk_q7 (by decide)
  have hk_q10 : m_kd S41 q10 = 100 := m_kd_pre hp hk_q10 (by decide)
  have hk_q13 : m_kd S41 q13 = 100 := m_kd_pre hp hk_q13 (by decide)
  have hk_q16 : m_kd S41 q16 = 100 := m_kd_pre hp hk_q16 (by decide)
  have hk_q19 : m_kd S41 q19 = 100 := m_kd_pre hp hk_q19 (by decide)
  have hk_q22 : m_kd S41 q22 = 100 := m_kd_pre hp hk_q22 (by decide)
  have hk_q25 : m_kd S41 q25 = 100 := m_kd_pre hp hk_q25 (by decide)
  have hk_q28 : m_kd S41 q28 = 100 := m_kd_pre hp hk_q28 (by decide)
  have hk_q31 : m_kd S41 q31 = 100 := m_kd_pre hp hk_q31 (by decide)
  have hk_q34 : m_kd S41 q34 = 100 := m_kd_pre hp hk_q34 (by decide)
  have hk_q37 : m_kd S41 q37 = 100 := m_kd_pre hp hk_q37 (by decide)
  refine mj_putP dX11_init_115 fl_X11_49_10 hk_a0 (Or.inr ⟨rfl, rfl⟩) rfl hk_q40 (fun _ => rfl) (fun _ => rfl) ?_
  obtain ⟨S42, eS42⟩ : ∃ z, z = m_sp S41 a0 22 (some q40) := ⟨_, rfl⟩
  rw [← eS42]
  replace h := h S42 eS42
  have hk_a0 : m_kd S42 a0 = 10 := by rw [eS42]; exact hk_a0
  have hk_q1 : m_kd S42 q1 = 100 := by rw [eS42]; exact hk_q1
  have hk_q4 : m_kd S42 q4 = 100 := by rw [eS42]; exact hk_q4
  have hk_q7 : m_kd S42 q7 = 100 := by rw [eS42]; exact hk_q7
  have hk_q10 : m_kd S42 q10 = 100 := by rw [eS42]; exact hk_q10
  have hk_q13 : m_kd S42 q13 = 100 := by rw [eS42]; exact hk_q13
  have hk_q16 : m_kd S42 q16 = 100 := by rw [eS42]; exact hk_q16
  have hk_q19 : m_kd S42 q19 = 100 := by rw [eS42]; exact hk_q19
  have hk_q22 : m_kd S42 q22 = 100 := by rw [eS42]; exact hk_q22
  have hk_q25 : m_kd S42 q25 = 100 := by rw [eS42]; exact hk_q25
  have hk_q28 : m_kd S42 q28 = 100 := by rw [eS42]; exact hk_q28
  have hk_q31 : m_kd S42 q31 = 100 := by rw [eS42]; exact hk_q31
  have hk_q34 : m_kd S42 q34 = 100 := by rw [eS42]; exact hk_q34
  have hk_q37 : m_kd S42 q37 = 100 := by rw [eS42]; exact hk_q37
  have hk_q40 : m_kd S42 q40 = 100 := by rw [eS42]; exact hk_q40
  refine mj_aload_n dX11_init_118 rfl rfl ?_
  refine mj_bipush (v := 60) dX11_init_119 (by decide) ?_
  refine mj_newI (N := 60) dX11_init_121 ar_int (by decide) (by decide) (by decide) (Nat.le_of_ble_eq_true rfl) (Nat.le_of_ble_eq_true rfl) ?_
  obtain ⟨q43, eq43⟩ : ∃ z, z = S42.1.length := ⟨_, rfl⟩
  rw [← eq43]
  obtain ⟨S44, eS44⟩ : ∃ z, z = m_nw S42 100 60 := ⟨_, rfl⟩
  rw [← eS44]
  replace h := h q43 eq43 S44 eS44
  have hp : S42.1 <+: S44.1 := by rw [eS44]; exact List.prefix_append _ _
  have hk_q43 : m_kd S44 q43 = 100 := by rw [eS44, eq43]; exact m_kd_nwl
  have hk_a0 : m_kd S44 a0 = 10 := m_kd_pre hp hk_a0 (by decide)
  have hk_q1 : m_kd S44 q1 = 100 := m_kd_pre hp hk_q1 (by decide)
  have hk_q4 : m_kd S44 q4 = 100 := m_kd_pre hp hk_q4 (by decide)
  have hk_q7 : m_kd S44 q7 = 100 := m_kd_pre hp hk_q7 (by decide)
  have hk_q10 : m_kd S44 q10 = 100 := m_kd_pre hp hk_q10 (by decide)
  have hk_q13 : m_kd S44 q13 = 100 := m_kd_pre hp hk_q13 (by decide)
  have hk_q16 : m_kd S44 q16 = 100 := m_kd_pre hp hk_q16 (by decide)
  have hk_q19 : m_kd S44 q19 = 100 := m_kd_pre hp hk_q19 (by decide)
  have hk_q22 : m_kd S44 q22 = 100 := m_kd_pre hp hk_q22 (by decide)
  have hk_q25 : m_kd S44 q25 = 100 := m_kd_pre hp hk_q25 (by decide)
  have hk_q28 : m_kd S44 q28 = 100 := m_kd_pre hp hk_q28 (by decide)
  have hk_q31 : m_kd S44 q31 = 100 := m_kd_pre hp hk_q31 (by decide)
  have hk_q34 : m_kd S44 q34 = 100 := m_kd_pre hp hk_q34 (by decide)
  have hk_q37 : m_kd S44 q37 = 100 := m_kd_pre hp hk_q37 (by decide)
  have hk_q40 : m_kd S44 q40 = 100 := m_kd_pre hp hk_q40 (by decide)
  refine mj_putP dX11_init_123 fl_X11_52_10 hk_a0 (Or.inr ⟨rfl, rfl⟩) rfl hk_q43 (fun _ => rfl) (fun _ => rfl) ?_
  obtain ⟨S45, eS45⟩ : ∃ z, z = m_sp S44 a0 23 (some q43) := ⟨_, rfl⟩
  rw [← eS45]
  replace h := h S45 eS45
  have hk_a0 : m_kd S45 a0 = 10 := by rw [eS45]; exact hk_a0
  have hk_q1 : m_kd S45 q1 = 100 := by rw [eS45]; exact hk_q1
  have hk_q4 : m_kd S45 q4 = 100 := by rw [eS45]; exact hk_q4
  have hk_q7 : m_kd S45 q7 = 100 := by rw [eS45]; exact hk_q7
  have hk_q10 : m_kd S45 q10 = 100 := by rw [eS45]; exact hk_q10
  have hk_q13 : m_kd S45 q13 = 100 := by rw [eS45]; exact hk_q13
  have hk_q16 : m_kd S45 q16 = 100 := by rw [eS45]; exact hk_q16
  have hk_q19 : m_kd S45 q19 = 100 := by rw [eS45]; exact hk_q19
  have hk_q22 : m_kd S45 q22 = 100 := by rw [eS45]; exact hk_q22
  have hk_q25 : m_kd S45 q25 = 100 := by rw [eS45]; exact hk_q25
  have hk_q28 : m_kd S45 q28 = 100 := by rw [eS45]; exact hk_q28
  have hk_q31 : m_kd S45 q31 = 100 := by rw [eS45]; exact hk_q31
  have hk_q34 : m_kd S45 q34 = 100 := by rw [eS45]; exact hk_q34
  have hk_q37 : m_kd S45 q37 = 100 := by rw [eS45]; exact hk_q37
  have hk_q40 : m_kd S45 q40 = 100 := by rw [eS45]; exact hk_q40
  have hk_q43 : m_kd S45 q43 = 100 := by rw [eS45]; exact hk_q43
  refine mj_aload_n dX11_init_126 rfl rfl ?_
  refine mj_bipush (v := 12) dX11_init_127 (by decide) ?_
  refine mj_newI (N := 12) dX11_init_129 ar_int (by decide) (by decide) (by decide) (Nat.le_of_ble_eq_true rfl) (Nat.le_of_ble_eq_true rfl) ?_
  obtain ⟨q46, eq46⟩ : ∃ z, z = S45.1.length := ⟨_, rfl⟩
  rw [← eq46]
  obtain ⟨S47, eS47⟩ : ∃ z, z = m_nw S45 100 12 := ⟨_, rfl⟩
  rw [← eS47]
  replace h := h q46 eq46 S47 eS47
  have hp : S45.1 <+: S47.1 := by rw [eS47]; exact List.prefix_append _ _
  have hk_q46 : m_kd S47 q46 = 100 := by rw [eS47, eq46]; exact m_kd_nwl
  have hk_a0 : m_kd S47 a0 = 10 := m_kd_pre hp hk_a0 (by decide)
  have hk_q1 : m_kd S47 q1 = 100 := m_kd_pre hp hk_q1 (by decide)
  have hk_q4 : m_kd S47 q4 = 100 := m_kd_pre hp hk_q4 (by decide)
  have hk_q7 : m_kd S47 q7 = 100 := m_kd_pre hp hk_q7 (by decide)
  have hk_q10 : m_kd S47 q10 = 100 := m_kd_pre hp hk_q10 (by decide)
  have hk_q13 : m_kd S47 q13 = 100 := m_kd_pre hp hk_q13 (by decide)
  have hk_q16 : m_kd S47 q16 = 100 := m_kd_pre hp hk_q16 (by decide)
  have hk_q19 : m_kd S47 q19 = 100 := m_kd_pre hp hk_q19 (by decide)
  have hk_q22 : m_kd S47 q22 = 100 := m_kd_pre hp hk_q22 (by decide)
  have hk_q25 : m_kd S47 q25 = 100 := m_kd_pre hp hk_q25 (by decide)
  have hk_q28 : m_kd S47 q28 = 100 := m_kd_pre hp hk_q28 (by decide)
  have hk_q31 : m_kd S47 q31 = 100 := m_kd_pre hp hk_q31 (by decide)
  have hk_q34 : m_kd S47 q34 = 100 := m_kd_pre hp hk_q34 (by decide)
  have hk_q37 : m_kd S47 q37 = 100 := m_kd_pre hp hk_q37 (by decide)
  have hk_q40 : m_kd S47 q40 = 100 := m_kd_pre hp hk_q40 (by decide)
  have hk_q43 : m_kd S47 q43 = 100 := m_kd_pre hp hk_q43 (by decide)
  refine mj_putP dX11_init_131 fl_X11_55_10 hk_a0 (Or.inr ⟨rfl, rfl⟩) rfl hk_q46 (fun _ => rfl) (fun _ => rfl) ?_
  obtain ⟨S48, eS48⟩ : ∃ z, z = m_sp S47 a0 24 (some q46) := ⟨_, rfl⟩
  rw [← eS48]
  replace h := h S48 eS48
  have hk_a0 : m_kd S48 a0 = 10 := by rw [eS48]; exact hk_a0
  have hk_q1 : m_kd S48 q1 = 100 := by rw [eS48]; exact hk_q1
  have hk_q4 : m_kd S48 q4 = 100 := by rw [eS48]; exact hk_q4
  have hk_q7 : m_kd S48 q7 = 100 := by rw [eS48]; exact hk_q7
  have hk_q10 : m_kd S48 q10 = 100 := by rw [eS48]; exact hk_q10
  have hk_q13 : m_kd S48 q13 = 100 := by rw [eS48]; exact hk_q13
  have hk_q16 : m_kd S48 q16 = 100 := by rw [eS48]; exact hk_q16
  have hk_q19 : m_kd S48 q19 = 100 := by rw [eS48]; exact hk_q19
  have hk_q22 : m_kd S48 q22 = 100 := by rw [eS48]; exact hk_q22
  have hk_q25 : m_kd S48 q25 = 100 := by rw [eS48]; exact hk_q25
  have hk_q28 : m_kd S48 q28 = 100 := by rw [eS48]; exact hk_q28
  have hk_q31 : m_kd S48 q31 = 100 := by rw [eS48]; exact hk_q31
  have hk_q34 : m_kd S48 q34 = 100 := by rw [eS48]; exact hk_q34
  have hk_q37 : m_kd S48 q37 = 100 := by rw [eS48]; exact hk_q37
  have hk_q40 : m_kd S48 q40 = 100 := by rw [eS48]; exact hk_q40
  have hk_q43 : m_kd S48 q43 = 100 := by rw [eS48]; exact hk_q43
  have hk_q46 : m_kd S48 q46 = 100 := by rw [eS48]; exact hk_q46
  refine mj_aload_n dX11_init_134 rfl rfl ?_
  refine mj_sipush (v := 199) dX11_init_135 (by decide) ?_
  refine mj_newI (N := 199) dX11_init_138 ar_int (by decide) (by decide) (by decide) (Nat.le_of_ble_eq_true rfl) (Nat.le_of_ble_eq_true rfl) ?_
  obtain ⟨q49, eq49⟩ : ∃ z, z = S48.1.length := ⟨_, rfl⟩
  rw [← eq49]
  obtain ⟨S50, eS50⟩ : ∃ z, z = m_nw S48 100 199 := ⟨_, rfl⟩
  rw [← eS50]
  replace h := h q49 eq49 S50 eS50
  have hp : S48.1 <+: S50.1 := by rw [eS50]; exact List.prefix_append _ _
  have hk_q49 : m_kd S50 q49 = 100 := by rw [eS50, eq49]; exact m_kd_nwl
  have hk_a0 : m_kd S50 a0 = 10 := m_kd_pre hp hk_a0 (by decide)
  have hk_q1 : m_kd S50 q1 = 100 := m_kd_pre hp hk_q1 (by decide)
  have hk_q4 : m_kd S50 q4 = 100 := m_kd_pre hp hk_q4 (by decide)
  have hk_q7 : m_kd S50 q7 = 100 := m_kd_pre hp hk_q7 (by decide)
  have hk_q10 : m_kd S50 q10 = 100 := m_kd_pre hp hk_q10 (by decide)
  have hk_q13 : m_kd S50 q13 = 100 := m_kd_pre hp hk_q13 (by decide)
  have hk_q16 : m_kd S50 q16 = 100 := m_kd_pre hp hk_q16 (by decide)
  have hk_q19 : m_kd S50 q19 = 100 := m_kd_pre hp hk_q19 (by decide)
  have hk_q22 : m_kd S50 q22 = 100 := m_kd_pre hp hk_q22 (by decide)
  have hk_q25 : m_kd S50 q25 = 100 := m_kd_pre hp hk_q25 (by decide)
  have hk_q28 : m_kd S50 q28 = 100 := m_kd_pre hp hk_q28 (by decide)
  have hk_q31 : m_kd S50 q31 = 100 := m_kd_pre hp hk_q31 (by decide)
  have hk_q34 : m_kd S50 q34 = 100 := m_kd_pre hp hk_q34 (by decide)
  have hk_q37 : m_kd S50 q37 = 100 := m_kd_pre hp hk_q37 (by decide)
  have hk_q40 : m_kd S50 q40 = 100 := m_kd_pre hp hk_q40 (by decide)
  have hk_q43 : m_kd S50 q43 = 100 := m_kd_pre hp hk_q43 (by decide)
  have hk_q46 : m_kd S50 q46 = 100 := m_kd_pre hp hk_q46 (by decide)
  refine mj_putP dX11_init_140 fl_X11_58_10 hk_a0 (Or.inr ⟨rfl, rfl⟩) rfl hk_q49 (fun _ => rfl) (fun _ => rfl) ?_
  obtain ⟨S51, eS51⟩ : ∃ z, z = m_sp S50 a0 28 (some q49) := ⟨_, rfl⟩
  rw [← eS51]
  replace h := h S51 eS51
  have hk_a0 : m_kd S51 a0 = 10 := by rw [eS51]; exact hk_a0
  have hk_q1 : m_kd S51 q1 = 100 := by rw [eS51]; exact hk_q1
  have hk_q4 : m_kd S51 q4 = 100 := by rw [eS51]; exact hk_q4
  have hk_q7 : m_kd S51 q7 = 100 := by rw [eS51]; exact hk_q7
  have hk_q10 : m_kd S51 q10 = 100 := by rw [eS51]; exact hk_q10
  have hk_q13 : m_kd S51 q13 = 100 := by rw [eS51]; exact hk_q13
  have hk_q16 : m_kd S51 q16 = 100 := by rw [eS51]; exact hk_q16
  have hk_q19 : m_kd S51 q19 = 100 := by rw [eS51]; exact hk_q19
  have hk_q22 : m_kd S51 q22 = 100 := by rw [eS51]; exact hk_q22
  have hk_q25 : m_kd S51 q25 = 100 := by rw [eS51]; exact hk_q25
  have hk_q28 : m_kd S51 q28 = 100 := by rw [eS51]; exact hk_q28
  have hk_q31 : m_kd S51 q31 = 100 := by rw [eS51]; exact hk_q31
  have hk_q34 : m_kd S51 q34 = 100 := by rw [eS51]; exact hk_q34
  have hk_q37 : m_kd S51 q37 = 100 := by rw [eS51]; exact hk_q37
  have hk_q40 : m_kd S51 q40 = 100 := by rw [eS51]; exact hk_q40
  have hk_q43 : m_kd S51 q43 = 100 := by rw [eS51]; exact hk_q43
  have hk_q46 : m_kd S51 q46 = 100 := by rw [eS51]; exact hk_q46
  have hk_q49 : m_kd S51 q49 = 100 := by rw [eS51]; exact hk_q49
  refine mj_aload_n dX11_init_143 rfl rfl ?_
  refine mj_iconst (v := 5) dX11_init_144 (by decide) ?_
  refine mj_newI (N := 5) dX11_init_145 ar_int (by decide) (by decide) (by decide) (Nat.le_of_ble_eq_true rfl) (Nat.le_of_ble_eq_true rfl) ?_
  obtain ⟨q52, eq52⟩ : ∃ z, z = S51.1.length := ⟨_, rfl⟩
  rw [← eq52]
  obtain ⟨S53, eS53⟩ : ∃ z, z = m_nw S51 100 5 := ⟨_, rfl⟩
  rw [← eS53]
  replace h := h q52 eq52 S53 eS53
  have hp : S51.1 <+: S53.1 := by rw [eS53]; exact List.prefix_append _ _
  have hk_q52 : m_kd S53 q52 = 100 := by rw [eS53, eq52]; exact m_kd_nwl
  have hk_a0 : m_kd S53 a0 = 10 := m_kd_pre hp hk_a0 (by decide)
  have hk_q1 : m_kd S53 q1 = 100 := m_kd_pre hp hk_q1 (by decide)
  have hk_q4 : m_kd S53 q4 = 100 := m_kd_pre hp hk_q4 (by decide)
  have hk_q7 : m_kd S53 q7 = 100 := m_kd_pre hp hk_q7 (by decide)
  have hk_q10 : m_kd S53 q10 = 100 := m_kd_pre hp hk_q10 (by decide)
  have hk_q13 : m_kd S53 q13 = 100 := m_kd_pre hp hk_q13 (by decide)
  have hk_q16 : m_kd S53 q16 = 100 := m_kd_pre hp hk_q16 (by decide)
  have hk_q19 : m_kd S53 q19 = 100 := m_kd_pre hp hk_q19 (by decide)
  have hk_q22 : m_kd S53 q22 = 100 := m_kd_pre hp hk_q22 (by decide)
  have hk_q25 : m_kd S53 q25 = 100 := m_kd_pre hp hk_q25 (by decide)
  have hk_q28 : m_kd S53 q28 = 100 := m_kd_pre hp hk_q28 (by decide)
  have hk_q31 : m_kd S53 q31 = 100 := m_kd_pre hp hk_q31 (by decide)
  have hk_q34 : m_kd S53 q34 = 100 := m_kd_pre hp hk_q34 (by decide)
  have hk_q37 : m_kd S53 q37 = 100 := m_kd_pre hp hk_q37 (by decide)
  have hk_q40 : m_kd S53 q40 = 100 := m_kd_pre hp hk_q40 (by decide)
  have hk_q43 : m_kd S53 q43 = 100 := m_kd_pre hp hk_q43 (by decide)
  have hk_q46 : m_kd S53 q46 = 100 := m_kd_pre hp hk_q46 (by decide)
  have hk_q49 : m_kd S53 q49 = 100 := m_kd_pre hp hk_q49 (by decide)
  refine mj_putP dX11_init_147 fl_X11_61_10 hk_a0 (Or.inr ⟨rfl, rfl⟩) rfl hk_q52 (fun _ => rfl) (fun _ => rfl) ?_
  obtain ⟨S54, eS54⟩ : ∃ z, z = m_sp S53 a0 29 (some q52) := ⟨_, rfl⟩
  rw [← eS54]
  replace h := h S54 eS54
  have hk_a0 : m_kd S54 a0 = 10 := by rw [eS54]; exact hk_a0
  have hk_q1 : m_kd S54 q1 = 100 := by rw [eS54]; exact hk_q1
  have hk_q4 : m_kd S54 q4 = 100 := by rw [eS54]; exact hk_q4
  have hk_q7 : m_kd S54 q7 = 100 := by rw [eS54]; exact hk_q7
  have hk_q10 : m_kd S54 q10 = 100 := by rw [eS54]; exact hk_q10
  have hk_q13 : m_kd S54 q13 = 100 := by rw [eS54]; exact hk_q13
  have hk_q16 : m_kd S54 q16 = 100 := by rw [eS54]; exact hk_q16
  have hk_q19 : m_kd S54 q19 = 100 := by rw [eS54]; exact hk_q19
  have hk_q22 : m_kd S54 q22 = 100 := by rw [eS54]; exact hk_q22
  have hk_q25 : m_kd S54 q25 = 100 := by rw [eS54]; exact hk_q25
  have hk_q28 : m_kd S54 q28 = 100 := by rw [eS54]; exact hk_q28
  have hk_q31 : m_kd S54 q31 = 100 := by rw [eS54]; exact hk_q31
  have hk_q34 : m_kd S54 q34 = 100 := by rw [eS54]; exact hk_q34
  have hk_q37 : m_kd S54 q37 = 100 := by rw [eS54]; exact hk_q37
  have hk_q40 : m_kd S54 q40 = 100 := by rw [eS54]; exact hk_q40
  have hk_q43 : m_kd S54 q43 = 100 := by rw [eS54]; exact hk_q43
  have hk_q46 : m_kd S54 q46 = 100 := by rw [eS54]; exact hk_q46
  have hk_q49 : m_kd S54 q49 = 100 := by rw [eS54]; exact hk_q49
  have hk_q52 : m_kd S54 q52 = 100 := by rw [eS54]; exact hk_q52
  refine mj_aload_n dX11_init_150 rfl rfl ?_
  refine mj_iconst (v := (-1)) dX11_init_151 (by decide) ?_
  refine mj_putI dX11_init_152 fl_X11_64_10 hk_a0 (Or.inl rfl) rfl rfl rfl ?_
  obtain ⟨S55, eS55⟩ : ∃ z, z = m_si S54 a0 30 (-1 : Int32) := ⟨_, rfl⟩
  rw [← eS55]
  replace h := h S55 eS55
  have hk_a0 : m_kd S55 a0 = 10 := by rw [eS55]; exact hk_a0
  have hk_q1 : m_kd S55 q1 = 100 := by rw [eS55]; exact hk_q1
  have hk_q4 : m_kd S55 q4 = 100 := by rw [eS55]; exact hk_q4
  have hk_q7 : m_kd S55 q7 = 100 := by rw [eS55]; exact hk_q7
  have hk_q10 : m_kd S55 q10 = 100 := by rw [eS55]; exact hk_q10
  have hk_q13 : m_kd S55 q13 = 100 := by rw [eS55]; exact hk_q13
  have hk_q16 : m_kd S55 q16 = 100 := by rw [eS55]; exact hk_q16
  have hk_q19 : m_kd S55 q19 = 100 := by rw [eS55]; exact hk_q19
  have hk_q22 : m_kd S55 q22 = 100 := by rw [eS55]; exact hk_q22
  have hk_q25 : m_kd S55 q25 = 100 := by rw [eS55]; exact hk_q25
  have hk_q28 : m_kd S55 q28 = 100 := by rw [eS55]; exact hk_q28
  have hk_q31 : m_kd S55 q31 = 100 := by rw [eS55]; exact hk_q31
  have hk_q34 : m_kd S55 q34 = 100 := by rw [eS55]; exact hk_q34
  have hk_q37 : m_kd S55 q37 = 100 := by rw [eS55]; exact hk_q37
  have hk_q40 : m_kd S55 q40 = 100 := by rw [eS55]; exact hk_q40
  have hk_q43 : m_kd S55 q43 = 100 := by rw [eS55]; exact hk_q43
  have hk_q46 : m_kd S55 q46 = 100 := by rw [eS55]; exact hk_q46
  have hk_q49 : m_kd S55 q49 = 100 := by rw [eS55]; exact hk_q49
  have hk_q52 : m_kd S55 q52 = 100 := by rw [eS55]; exact hk_q52
  refine mj_aload_n dX11_init_155 rfl rfl ?_
  refine mj_bipush (v := 80) dX11_init_156 (by decide) ?_
  refine mj_newI (N := 80) dX11_init_158 ar_int (by decide) (by decide) (by decide) (Nat.le_of_ble_eq_true rfl) (Nat.le_of_ble_eq_true rfl) ?_
  obtain ⟨q56, eq56⟩ : ∃ z, z = S55.1.length := ⟨_, rfl⟩
  rw [← eq56]
  obtain ⟨S57, eS57⟩ : ∃ z, z = m_nw S55 100 80 := ⟨_, rfl⟩
  rw [← eS57]
  replace h := h q56 eq56 S57 eS57
  have hp : S55.1 <+: S57.1 := by rw [eS57]; exact List.prefix_append _ _
  have hk_q56 : m_kd S57 q56 = 100 := by rw [eS57, eq56]; exact m_kd_nwl
  have hk_a0 : m_kd S57 a0 = 10 := m_kd_pre hp hk_a0 (by decide)
  have hk_q1 : m_kd S57 q1 = 100 := m_kd_pre hp hk_q1 (by decide)
  have hk_q4 : m_kd S57 q4 = 100 := m_kd_pre hp hk_q4 (by decide)
  have hk_q7 : m_kd S57 q7 = 100 := m_kd_pre hp hk_q7 (by decide)
  have hk_q10 : m_kd S57 q10 = 100 := m_kd_pre hp hk_q10 (by decide)
  have hk_q13 : m_kd S57 q13 = 100 := m_kd_pre hp hk_q13 (by decide)
  have hk_q16 : m_kd S57 q16 = 100 := m_kd_pre hp hk_q16 (by decide)
  have hk_q19 : m_kd S57 q19 = 100 := m_kd_pre hp hk_q19 (by decide)
  have hk_q22 : m_kd S57 q22 = 100 := m_kd_pre hp hk_q22 (by decide)
  have hk_q25 : m_kd S57 q25 = 100 := m_kd_pre hp hk_q25 (by decide)
  have hk_q28 : m_kd S57 q28 = 100 := m_kd_pre hp hk_q28 (by decide)
  have hk_q31 : m_kd S57 q31 = 100 := m_kd_pre hp hk_q31 (by decide)
  have hk_q34 : m_kd S57 q34 = 100 := m_kd_pre hp hk_q34 (by decide)
  have hk_q37 : m_kd S57 q37 = 100 := m_kd_pre hp hk_q37 (by decide)
  have hk_q40 : m_kd S57 q40 = 100 := m_kd_pre hp hk_q40 (by decide)
  have hk_q43 : m_kd S57 q43 = 100 := m_kd_pre hp hk_q43 (by decide)
  have hk_q46 : m_kd S57 q46 = 100 := m_kd_pre hp hk_q46 (by decide)
  have hk_q49 : m_kd S57 q49 = 100 := m_kd_pre hp hk_q49 (by decide)
  have hk_q52 : m_kd S57 q52 = 100 := m_kd_pre hp hk_q52 (by decide)
  refine mj_putP dX11_init_160 fl_X11_68_10 hk_a0 (Or.inr ⟨rfl, rfl⟩) rfl hk_q56 (fun _ => rfl) (fun _ => rfl) ?_
  obtain ⟨S58, eS58⟩ : ∃ z, z = m_sp S57 a0 32 (some q56) := ⟨_, rfl⟩
  rw [← eS58]
  replace h := h S58 eS58
  have hk_a0 : m_kd S58 a0 = 10 := by rw [eS58]; exact hk_a0
  have hk_q1 : m_kd S58 q1 = 100 := by rw [eS58]; exact hk_q1
  have hk_q4 : m_kd S58 q4 = 100 := by rw [eS58]; exact hk_q4
  have hk_q7 : m_kd S58 q7 = 100 := by rw [eS58]; exact hk_q7
  have hk_q10 : m_kd S58 q10 = 100 := by rw [eS58]; exact hk_q10
  have hk_q13 : m_kd S58 q13 = 100 := by rw [eS58]; exact hk_q13
  have hk_q16 : m_kd S58 q16 = 100 := by rw [eS58]; exact hk_q16
  have hk_q19 : m_kd S58 q19 = 100 := by rw [eS58]; exact hk_q19
  have hk_q22 : m_kd S58 q22 = 100 := by rw [eS58]; exact hk_q22
  have hk_q25 : m_kd S58 q25 = 100 := by rw [eS58]; exact hk_q25
  have hk_q28 : m_kd S58 q28 = 100 := by rw [eS58]; exact hk_q28
  have hk_q31 : m_kd S58 q31 = 100 := by rw [eS58]; exact hk_q31
  have hk_q34 : m_kd S58 q34 = 100 := by rw [eS58]; exact hk_q34
  have hk_q37 : m_kd S58 q37 = 100 := by rw [eS58]; exact hk_q37
  have hk_q40 : m_kd S58 q40 = 100 := by rw [eS58]; exact hk_q40
  have hk_q43 : m_kd S58 q43 = 100 := by rw [eS58]; exact hk_q43
  have hk_q46 : m_kd S58 q46 = 100 := by rw [eS58]; exact hk_q46
  have hk_q49 : m_kd S58 q49 = 100 := by rw [eS58]; exact hk_q49
  have hk_q52 : m_kd S58 q52 = 100 := by rw [eS58]; exact hk_q52
  have hk_q56 : m_kd S58 q56 = 100 := by rw [eS58]; exact hk_q56
  refine mj_aload_n dX11_init_163 rfl rfl ?_
  refine mj_bipush (v := 80) dX11_init_164 (by decide) ?_
  refine mj_newI (N := 80) dX11_init_166 ar_int (by decide) (by decide) (by decide) (Nat.le_of_ble_eq_true rfl) (Nat.le_of_ble_eq_true rfl) ?_
  obtain ⟨q59, eq59⟩ : ∃ z, z = S58.1.length := ⟨_, rfl⟩
  rw [← eq59]
  obtain ⟨S60, eS60⟩ : ∃ z, z = m_nw S58 100 80 := ⟨_, rfl⟩
  rw [← eS60]
  replace h := h q59 eq59 S60 eS60
  have hp : S58.1 <+: S60.1 := by rw [eS60]; exact List.prefix_append _ _
  have hk_q59 : m_kd S60 q59 = 100 := by rw [eS60, eq59]; exact m_kd_nwl
  have hk_a0 : m_kd S60 a0 = 10 := m_kd_pre hp hk_a0 (by decide)
  have hk_q1 : m_kd S60 q1 = 100 := m_kd_pre hp hk_q1 (by decide)
  have hk_q4 : m_kd S60 q4 = 100 := m_kd_pre hp hk_q4 (by decide)
  have hk_q7 : m_kd S60 q7 = 100 := m_kd_pre hp hk_q7 (by decide)
  have hk_q10 : m_kd S60 q10 = 100 := m_kd_pre hp hk_q10 (by decide)
  have hk_q13 : m_kd S60 q13 = 100 := m_kd_pre hp hk_q13 (by decide)
  have hk_q16 : m_kd S60 q16 = 100 := m_kd_pre hp hk_q16 (by decide)
  have hk_q19 : m_kd S60 q19 = 100 := m_kd_pre hp hk_q19 (by decide)
  have hk_q22 : m_kd S60 q22 = 100 := m_kd_pre hp hk_q22 (by decide)
  have hk_q25 : m_kd S60 q25 = 100 := m_kd_pre hp hk_q25 (by decide)
  have hk_q28 : m_kd S60 q28 = 100 := m_kd_pre hp hk_q28 (by decide)
  have hk_q31 : m_kd S60 q31 = 100 := m_kd_pre hp hk_q31 (by decide)
  have hk_q34 : m_kd S60 q34 = 100 := m_kd_pre hp hk_q34 (by decide)
  have hk_q37 : m_kd S60 q37 = 100 := m_kd_pre hp hk_q37 (by decide)
  have hk_q40 : m_kd S60 q40 = 100 := m_kd_pre hp hk_q40 (by decide)
  have hk_q43 : m_kd S60 q43 = 100 := m_kd_pre hp hk_q43 (by decide)
  have hk_q46 : m_kd S60 q46 = 100 := m_kd_pre hp hk_q46 (by decide)
  have hk_q49 : m_kd S60 q49 = 100 := m_kd_pre hp hk_q49 (by decide)
  have hk_q52 : m_kd S60 q52 = 100 := m_kd_pre hp hk_q52 (by decide)
  have hk_q56 : m_kd S60 q56 = 100 := m_kd_pre hp hk_q56 (by decide)
  refine mj_putP dX11_init_168 fl_X11_71_10 hk_a0 (Or.inr ⟨rfl, rfl⟩) rfl hk_q59 (fun _ => rfl) (fun _ => rfl) ?_
  obtain ⟨S61, eS61⟩ : ∃ z, z = m_sp S60 a0 33 (some q59) := ⟨_, rfl⟩
  rw [← eS61]
  replace h := h S61 eS61
  have hk_a0 : m_kd S61 a0 = 10 := by rw [eS61]; exact hk_a0
  have hk_q1 : m_kd S61 q1 = 100 := by rw [eS61]; exact hk_q1
  have hk_q4 : m_kd S61 q4 = 100 := by rw [eS61]; exact hk_q4
  have hk_q7 : m_kd S61 q7 = 100 := by rw [eS61]; exact hk_q7
  have hk_q10 : m_kd S61 q10 = 100 := by rw [eS61]; exact hk_q10
  have hk_q13 : m_kd S61 q13 = 100 := by rw [eS61]; exact hk_q13
  have hk_q16 : m_kd S61 q16 = 100 := by rw [eS61]; exact hk_q16
  have hk_q19 : m_kd S61 q19 = 100 := by rw [eS61]; exact hk_q19
  have hk_q22 : m_kd S61 q22 = 100 := by rw [eS61]; exact hk_q22
  have hk_q25 : m_kd S61 q25 = 100 := by rw [eS61]; exact hk_q25
  have hk_q28 : m_kd S61 q28 = 100 := by rw [eS61]; exact hk_q28
  have hk_q31 : m_kd S61 q31 = 100 := by rw [eS61]; exact hk_q31
  have hk_q34 : m_kd S61 q34 = 100 := by rw [eS61]; exact hk_q34
  have hk_q37 : m_kd S61 q37 = 100 := by rw [eS61]; exact hk_q37
  have hk_q40 : m_kd S61 q40 = 100 := by rw [eS61]; exact hk_q40
  have hk_q43 : m_kd S61 q43 = 100 := by rw [eS61]; exact hk_q43
  have hk_q46 : m_kd S61 q46 = 100 := by rw [eS61]; exact hk_q46
  have hk_q49 : m_kd S61 q49 = 100 := by rw [eS61]; exact hk_q49
  have hk_q52 : m_kd S61 q52 = 100 := by rw [eS61]; exact hk_q52
  have hk_q56 : m_kd S61 q56 = 100 := by rw [eS61]; exact hk_q56
  have hk_q59 : m_kd S61 q59 = 100 := by rw [eS61]; exact hk_q59
  refine mj_aload_n dX11_init_171 rfl rfl ?_
  refine mj_bipush (v := 20) dX11_init_172 (by decide) ?_
  refine mj_newI (N := 20) dX11_init_174 ar_int (by decide) (by decide) (by decide) (Nat.le_of_ble_eq_true rfl) (Nat.le_of_ble_eq_true rfl) ?_
  obtain ⟨q62, eq62⟩ : ∃ z, z = S61.1.length := ⟨_, rfl⟩
  rw [← eq62]
  obtain ⟨S63, eS63⟩ : ∃ z, z = m_nw S61 100 20 := ⟨_, rfl⟩
  rw [← eS63]
  replace h := h q62 eq62 S63 eS63
  have hp : S61.1 <+: S63.1 := by rw [eS63]; exact List.prefix_append _ _
  have hk_q62 : m_kd S63 q62 = 100 := by rw [eS63, eq62]; exact m_kd_nwl
  have hk_a0 : m_kd S63 a0 = 10 := m_kd_pre hp hk_a0 (by decide)
  have hk_q1 : m_kd S63 q1 = 100 := m_kd_pre hp hk_q1 (by decide)
  have hk_q4 : m_kd S63 q4 = 100 := m_kd_pre hp hk_q4 (by decide)
  have hk_q7 : m_kd S63 q7 = 100 := m_kd_pre hp hk_q7 (by decide)
  have hk_q10 : m_kd S63 q10 = 100 := m_kd_pre hp hk_q10 (by decide)
  have hk_q13 : m_kd S63 q13 = 100 := m_kd_pre hp hk_q13 (by decide)
  have hk_q16 : m_kd S63 q16 = 100 := m_kd_pre hp hk_q16 (by decide)
  have hk_q19 : m_kd S63 q19 = 100 := m_kd_pre hp hk_q19 (by decide)
  have hk_q22 : m_kd S63 q22 = 100 := m_kd_pre hp hk_q22 (by decide)
  have hk_q25 : m_kd S63 q25 = 100 := m_kd_pre hp hk_q25 (by decide)
  have hk_q28 : m_kd S63 q28 = 100 := m_kd_pre hp hk_q28 (by decide)
  have hk_q31 : m_kd S63 q31 = 100 := m_kd_pre hp hk_q31 (by decide)
  have hk_q34 : m_kd S63 q34 = 100 := m_kd_pre hp hk_q34 (by decide)
  have hk_q37 : m_kd S63 q37 = 100 := m_kd_pre hp hk_q37 (by decide)
  have hk_q40 : m_kd S63 q40 = 100 := m_kd_pre hp hk_q40 (by decide)
  have hk_q43 : m_kd S63 q43 = 100 := m_kd_pre hp hk_q43 (by decide)
  have hk_q46 : m_kd S63 q46 = 100 := m_kd_pre hp hk_q46 (by decide)
  have hk_q49 : m_kd S63 q49 = 100 := m_kd_pre hp hk_q49 (by decide)
  have hk_q52 : m_kd S63 q52 = 100 := m_kd_pre hp hk_q52 (by decide)
  have hk_q56 : m_kd S63 q56 = 100 := m_kd_pre hp hk_q56 (by decide)
  have hk_q59 : m_kd S63 q59 = 100 := m_kd_pre hp hk_q59 (by decide)
  refine mj_putP dX11_init_176 fl_X11_74_10 hk_a0 (Or.inr ⟨rfl, rfl⟩) rfl hk_q62 (fun _ => rfl) (fun _ => rfl) ?_
  obtain ⟨S64, eS64⟩ : ∃ z, z = m_sp S63 a0 34 (some q62) := ⟨_, rfl⟩
  rw [← eS64]
  replace h := h S64 eS64
  have hk_a0 : m_kd S64 a0 = 10 := by rw [eS64]; exact hk_a0
  have hk_q1 : m_kd S64 q1 = 100 := by rw [eS64]; exact hk_q1
  have hk_q4 : m_kd S64 q4 = 100 := by rw [eS64]; exact hk_q4
  have hk_q7 : m_kd S64 q7 = 100 := by rw [eS64]; exact hk_q7
  have hk_q10 : m_kd S64 q10 = 100 := by rw [eS64]; exact hk_q10
  have hk_q13 : m_kd S64 q13 = 100 := by rw [eS64]; exact hk_q13
  have hk_q16 : m_kd S64 q16 = 100 := by rw [eS64]; exact hk_q16
  have hk_q19 : m_kd S64 q19 = 100 := by rw [eS64]; exact hk_q19
  have hk_q22 : m_kd S64 q22 = 100 := by rw [eS64]; exact hk_q22
  have hk_q25 : m_kd S64 q25 = 100 := by rw [eS64]; exact hk_q25
  have hk_q28 : m_kd S64 q28 = 100 := by rw [eS64]; exact hk_q28
  have hk_q31 : m_kd S64 q31 = 100 := by rw [eS64]; exact hk_q31
  have hk_q34 : m_kd S64 q34 = 100 := by rw [eS64]; exact hk_q34
  have hk_q37 : m_kd S64 q37 = 100 := by rw [eS64]; exact hk_q37
  have hk_q40 : m_kd S64 q40 = 100 := by rw [eS64]; exact hk_q40
  have hk_q43 : m_kd S64 q43 = 100 := by rw [eS64]; exact hk_q43
  have hk_q46 : m_kd S64 q46 = 100 := by rw [eS64]; exact hk_q46
  have hk_q49 : m_kd S64 q49 = 100 := by rw [eS64]; exact hk_q49
  have hk_q52 : m_kd S64 q52 = 100 := by rw [eS64]; exact hk_q52
  have hk_q56 : m_kd S64 q56 = 100 := by rw [eS64]; exact hk_q56
  have hk_q59 : m_kd S64 q59 = 100 := by rw [eS64]; exact hk_q59
  have hk_q62 : m_kd S64 q62 = 100 := by rw [eS64]; exact hk_q62
  refine mj_aload_n dX11_init_179 rfl rfl ?_
  refine mj_bipush (v := 10) dX11_init_180 (by decide) ?_
  refine mj_newI (N := 10) dX11_init_182 ar_int (by decide) (by decide) (by decide) (Nat.le_of_ble_eq_true rfl) (Nat.le_of_ble_eq_true rfl) ?_
  obtain ⟨q65, eq65⟩ : ∃ z, z = S64.1.length := ⟨_, rfl⟩
  rw [← eq65]
  obtain ⟨S66, eS66⟩ : ∃ z, z = m_nw S64 100 10 := ⟨_, rfl⟩
  rw [← eS66]
  replace h := h q65 eq65 S66 eS66
  have hp : S64.1 <+: S66.1 := by rw [eS66]; exact List.prefix_append _ _
  have hk_q65 : m_kd S66 q65 = 100 := by rw [eS66, eq65]; exact m_kd_nwl
  have hk_a0 : m_kd S66 a0 = 10 := m_kd_pre hp hk_a0 (by decide)
  have hk_q1 : m_kd S66 q1 = 100 := m_kd_pre hp hk_q1 (by decide)
  have hk_q4 : m_kd S66 q4 = 100 := m_kd_pre hp hk_q4 (by decide)
  have hk_q7 : m_kd S66 q7 = 100 := m_kd_pre hp hk_q7 (by decide)
  have hk_q10 : m_kd S66 q10 = 100 := m_kd_pre hp hk_q10 (by decide)
  have hk_q13 : m_kd S66 q13 = 100 := m_kd_pre hp hk_q13 (by decide)
  have hk_q16 : m_kd S66 q16 = 100 := m_kd_pre hp hk_q16 (by decide)
  have hk_q19 : m_kd S66 q19 = 100 := m_kd_pre hp hk_q19 (by decide)
  have hk_q22 : m_kd S66 q22 = 100 := m_kd_pre hp hk_q22 (by decide)
  have hk_q25 : m_kd S66 q25 = 100 := m_kd_pre hp hk_q25 (by decide)
  have hk_q28 : m_kd S66 q28 = 100 := m_kd_pre hp hk_q28 (by decide)
  have hk_q31 : m_kd S66 q31 = 100 := m_kd_pre hp hk_q31 (by decide)
  have hk_q34 : m_kd S66 q34 = 100 := m_kd_pre hp hk_q34 (by decide)
  have hk_q37 : m_kd S66 q37 = 100 := m_kd_pre hp hk_q37 (by decide)
  have hk_q40 : m_kd S66 q40 = 100 := m_kd_pre hp hk_q40 (by decide)
  have hk_q43 : m_kd S66 q43 = 100 := m_kd_pre hp hk_q43 (by decide)
  have hk_q46 : m_kd S66 q46 = 100 := m_kd_pre hp hk_q46 (by decide)
  have hk_q49 : m_kd S66 q49 = 100 := m_kd_pre hp hk_q49 (by decide)
  have hk_q52 : m_kd S66 q52 = 100 := m_kd_pre hp hk_q52 (by decide)
  have hk_q56 : m_kd S66 q56 = 100 := m_kd_pre hp hk_q56 (by decide)
  have hk_q59 : m_kd S66 q59 = 100 := m_kd_pre hp hk_q59 (by decide)
  have hk_q62 : m_kd S66 q62 = 100 := m_kd_pre hp hk_q62 (by decide)
  refine mj_putP dX11_init_184 fl_X11_77_10 hk_a0 (Or.inr ⟨rfl, rfl⟩) rfl hk_q65 (fun _ => rfl) (fun _ => rfl) ?_
  obtain ⟨S67, eS67⟩ : ∃ z, z = m_sp S66 a0 35 (some q65) := ⟨_, rfl⟩
  rw [← eS67]
  replace h := h S67 eS67
  have hk_a0 : m_kd S67 a0 = 10 := by rw [eS67]; exact hk_a0
  have hk_q1 : m_kd S67 q1 = 100 := by rw [eS67]; exact hk_q1
  have hk_q4 : m_kd S67 q4 = 100 := by rw [eS67]; exact hk_q4
  have hk_q7 : m_kd S67 q7 = 100 := by rw [eS67]; exact hk_q7
  have hk_q10 : m_kd S67 q10 = 100 := by rw [eS67]; exact hk_q10
  have hk_q13 : m_kd S67 q13 = 100 := by rw [eS67]; exact hk_q13
  have hk_q16 : m_kd S67 q16 = 100 := by rw [eS67]; exact hk_q16
  have hk_q19 : m_kd S67 q19 = 100 := by rw [eS67]; exact hk_q19
  have hk_q22 : m_kd S67 q22 = 100 := by rw [eS67]; exact hk_q22
  have hk_q25 : m_kd S67 q25 = 100 := by rw [eS67]; exact hk_q25
  have hk_q28 : m_kd S67 q28 = 100 := by rw [eS67]; exact hk_q28
  have hk_q31 : m_kd S67 q31 = 100 := by rw [eS67]; exact hk_q31
  have hk_q34 : m_kd S67 q34 = 100 := by rw [eS67]; exact hk_q34
  have hk_q37 : m_kd S67 q37 = 100 := by rw [eS67]; exact hk_q37
  have hk_q40 : m_kd S67 q40 = 100 := by rw [eS67]; exact hk_q40
  have hk_q43 : m_kd S67 q43 = 100 := by rw [eS67]; exact hk_q43
  have hk_q46 : m_kd S67 q46 = 100 := by rw [eS67]; exact hk_q46
  have hk_q49 : m_kd S67 q49 = 100 := by rw [eS67]; exact hk_q49
  have hk_q52 : m_kd S67 q52 = 100 := by rw [eS67]; exact hk_q52
  have hk_q56 : m_kd S67 q56 = 100 := by rw [eS67]; exact hk_q56
  have hk_q59 : m_kd S67 q59 = 100 := by rw [eS67]; exact hk_q59
  have hk_q62 : m_kd S67 q62 = 100 := by rw [eS67]; exact hk_q62
  have hk_q65 : m_kd S67 q65 = 100 := by rw [eS67]; exact hk_q65
  refine mj_aload_n dX11_init_187 rfl rfl ?_
  refine mj_sipush (v := 7960) dX11_init_188 (by decide) ?_
  refine mj_newI (N := 7960) dX11_init_191 ar_int (by decide) (by decide) (by decide) (Nat.le_of_ble_eq_true rfl) (Nat.le_of_ble_eq_true rfl) ?_
  obtain ⟨q68, eq68⟩ : ∃ z, z = S67.1.length := ⟨_, rfl⟩
  rw [← eq68]
  obtain ⟨S69, eS69⟩ : ∃ z, z = m_nw S67 100 7960 := ⟨_, rfl⟩
  rw [← eS69]
  replace h := h q68 eq68 S69 eS69
  have hp : S67.1 <+: S69.1 := by rw [eS69]; exact List.prefix_append _ _
  have hk_q68 : m_kd S69 q68 = 100 := by rw [eS69, eq68]; exact m_kd_nwl
  have hk_a0 : m_kd S69 a0 = 10 := m_kd_pre hp hk_a0 (by decide)
  have hk_q1 : m_kd S69 q1 = 100 := m_kd_pre hp hk_q1 (by decide)
  have hk_q4 : m_kd S69 q4 = 100 := m_kd_pre hp hk_q4 (by decide)
  have hk_q7 : m_kd S69 q7 = 100 := m_kd_pre hp hk_q7 (by decide)
  have hk_q10 : m_kd S69 q10 = 100 := m_kd_pre hp hk_q10 (by decide)
  have hk_q13 : m_kd S69 q13 = 100 := m_kd_pre hp hk_q13 (by decide)
  have hk_q16 : m_kd S69 q16 = 100 := m_kd_pre hp hk_q16 (by decide)
  have hk_q19 : m_kd S69 q19 = 100 := m_kd_pre hp hk_q19 (by decide)
  have hk_q22 : m_kd S69 q22 = 100 := m_kd_pre hp hk_q22 (by decide)
  have hk_q25 : m_kd S69 q25 = 100 := m_kd_pre hp hk_q25 (by decide)
  have hk_q28 : m_kd S69 q28 = 100 := m_kd_pre hp hk_q28 (by decide)
  have hk_q31 : m_kd S69 q31 = 100 := m_kd_pre hp hk_q31 (by decide)
  have hk_q34 : m_kd S69 q34 = 100 := m_kd_pre hp hk_q34 (by decide)
  have hk_q37 : m_kd S69 q37 = 100 := m_kd_pre hp hk_q37 (by decide)
  have hk_q40 : m_kd S69 q40 = 100 := m_kd_pre hp hk_q40 (by decide)
  have hk_q43 : m_kd S69 q43 = 100 := m_kd_pre hp hk_q43 (by decide)
  have hk_q46 : m_kd S69 q46 = 100 := m_kd_pre hp hk_q46 (by decide)
  have hk_q49 : m_kd S69 q49 = 100 := m_kd_pre hp hk_q49 (by decide)
  have hk_q52 : m_kd S69 q52 = 100 := m_kd_pre hp hk_q52 (by decide)
  have hk_q56 : m_kd S69 q56 = 100 := m_kd_pre hp hk_q56 (by decide)
  have hk_q59 : m_kd S69 q59 = 100 := m_kd_pre hp hk_q59 (by decide)
  have hk_q62 : m_kd S69 q62 = 100 := m_kd_pre hp hk_q62 (by decide)
  have hk_q65 : m_kd S69 q65 = 100 := m_kd_pre hp hk_q65 (by decide)
  refine mj_putP dX11_init_193 fl_X11_80_10 hk_a0 (Or.inr ⟨rfl, rfl⟩) rfl hk_q68 (fun _ => rfl) (fun _ => rfl) ?_
  obtain ⟨S70, eS70⟩ : ∃ z, z = m_sp S69 a0 36 (some q68) := ⟨_, rfl⟩
  rw [← eS70]
  replace h := h S70 eS70
  have hk_a0 : m_kd S70 a0 = 10 := by rw [eS70]; exact hk_a0
  have hk_q1 : m_kd S70 q1 = 100 := by rw [eS70]; exact hk_q1
  have hk_q4 : m_kd S70 q4 = 100 := by rw [eS70]; exact hk_q4
  have hk_q7 : m_kd S70 q7 = 100 := by rw [eS70]; exact hk_q7
  have hk_q10 : m_kd S70 q10 = 100 := by rw [eS70]; exact hk_q10
  have hk_q13 : m_kd S70 q13 = 100 := by rw [eS70]; exact hk_q13
  have hk_q16 : m_kd S70 q16 = 100 := by rw [eS70]; exact hk_q16
  have hk_q19 : m_kd S70 q19 = 100 := by rw [eS70]; exact hk_q19
  have hk_q22 : m_kd S70 q22 = 100 := by rw [eS70]; exact hk_q22
  have hk_q25 : m_kd S70 q25 = 100 := by rw [eS70]; exact hk_q25
  have hk_q28 : m_kd S70 q28 = 100 := by rw [eS70]; exact hk_q28
  have hk_q31 : m_kd S70 q31 = 100 := by rw [eS70]; exact hk_q31
  have hk_q34 : m_kd S70 q34 = 100 := by rw [eS70]; exact hk_q34
  have hk_q37 : m_kd S70 q37 = 100 := by rw [eS70]; exact hk_q37
  have hk_q40 : m_kd S70 q40 = 100 := by rw [eS70]; exact hk_q40
  have hk_q43 : m_kd S70 q43 = 100 := by rw [eS70]; exact hk_q43
  have hk_q46 : m_kd S70 q46 = 100 := by rw [eS70]; exact hk_q46
  have hk_q49 : m_kd S70 q49 = 100 := by rw [eS70]; exact hk_q49
  have hk_q52 : m_kd S70 q52 = 100 := by rw [eS70]; exact hk_q52
  have hk_q56 : m_kd S70 q56 = 100 := by rw [eS70]; exact hk_q56
  have hk_q59 : m_kd S70 q59 = 100 := by rw [eS70]; exact hk_q59
  have hk_q62 : m_kd S70 q62 = 100 := by rw [eS70]; exact hk_q62
  have hk_q65 : m_kd S70 q65 = 100 := by rw [eS70]; exact hk_q65
  have hk_q68 : m_kd S70 q68 = 100 := by rw [eS70]; exact hk_q68
  refine mj_aload_n dX11_init_196 rfl rfl ?_
  refine mj_bipush (v := 18) dX11_init_197 (by decide) ?_
  refine mj_newI (N := 18) dX11_init_199 ar_int (by decide) (by decide) (by decide) (Nat.le_of_ble_eq_true rfl) (Nat.le_of_ble_eq_true rfl) ?_
  obtain ⟨q71, eq71⟩ : ∃ z, z = S70.1.length := ⟨_, rfl⟩
  rw [← eq71]
  obtain ⟨S72, eS72⟩ : ∃ z, z = m_nw S70 100 18 := ⟨_, rfl⟩
  rw [← eS72]
  replace h := h q71 eq71 S72 eS72
  have hp : S70.1 <+: S72.1 := by rw [eS72]; exact List.prefix_append _ _
  have hk_q71 : m_kd S72 q71 = 100 := by rw [eS72, eq71]; exact m_kd_nwl
  have hk_a0 : m_kd S72 a0 = 10 := m_kd_pre hp hk_a0 (by decide)
  have hk_q1 : m_kd S72 q1 = 100 := m_kd_pre hp hk_q1 (by decide)
  have hk_q4 : m_kd S72 q4 = 100 := m_kd_pre hp hk_q4 (by decide)
  have hk_q7 : m_kd S72 q7 = 100 := m_kd_pre hp hk_q7 (by decide)
  have hk_q10 : m_kd S72 q10 = 100 := m_kd_pre hp hk_q10 (by decide)
  have hk_q13 : m_kd S72 q13 = 100 := m_kd_pre hp hk_q13 (by decide)
  have hk_q16 : m_kd S72 q16 = 100 := m_kd_pre hp hk_q16 (by decide)
  have hk_q19 : m_kd S72 q19 = 100 := m_kd_pre hp hk_q19 (by decide)
  have hk_q22 : m_kd S72 q22 = 100 := m_kd_pre hp hk_q22 (by decide)
  have hk_q25 : m_kd S72 q25 = 100 := m_kd_pre hp hk_q25 (by decide)
  have hk_q28 : m_kd S72 q28 = 100 := m_kd_pre hp hk_q28 (by decide)
  have hk_q31 : m_kd S72 q31 = 100 := m_kd_pre hp hk_q31 (by decide)
  have hk_q34 : m_kd S72 q34 = 100 := m_kd_pre hp hk_q34 (by decide)
  have hk_q37 : m_kd S72 q37 = 100 := m_kd_pre hp hk_q37 (by decide)
  have hk_q40 : m_kd S72 q40 = 100 := m_kd_pre hp hk_q40 (by decide)
  have hk_q43 : m_kd S72 q43 = 100 := m_kd_pre hp hk_q43 (by decide)
  have hk_q46 : m_kd S72 q46 = 100 := m_kd_pre hp hk_q46 (by decide)
  have hk_q49 : m_kd S72 q49 = 100 := m_kd_pre hp hk_q49 (by decide)
  have hk_q52 : m_kd S72 q52 = 100 := m_kd_pre hp hk_q52 (by decide)
  have hk_q56 : m_kd S72 q56 = 100 := m_kd_pre hp hk_q56 (by decide)
  have hk_q59 : m_kd S72 q59 = 100 := m_kd_pre hp hk_q59 (by decide)
  have hk_q62 : m_kd S72 q62 = 100 := m_kd_pre hp hk_q62 (by decide)
  have hk_q65 : m_kd S72 q65 = 100 := m_kd_pre hp hk_q65 (by decide)
  have hk_q68 : m_kd S72 q68 = 100 := m_kd_pre hp hk_q68 (by decide)
  refine mj_putP dX11_init_201 fl_X11_83_10 hk_a0 (Or.inr ⟨rfl, rfl⟩) rfl hk_q71 (fun _ => rfl) (fun _ => rfl) ?_
  obtain ⟨S73, eS73⟩ : ∃ z, z = m_sp S72 a0 39 (some q71) := ⟨_, rfl⟩
  rw [← eS73]
  replace h := h S73 eS73
  have hk_a0 : m_kd S73 a0 = 10 := by rw [eS73]; exact hk_a0
  have hk_q1 : m_kd S73 q1 = 100 := by rw [eS73]; exact hk_q1
  have hk_q4 : m_kd S73 q4 = 100 := by rw [eS73]; exact hk_q4
  have hk_q7 : m_kd S73 q7 = 100 := by rw [eS73]; exact hk_q7
  have hk_q10 : m_kd S73 q10 = 100 := by rw [eS73]; exact hk_q10
  have hk_q13 : m_kd S73 q13 = 100 := by rw [eS73]; exact hk_q13
  have hk_q16 : m_kd S73 q16 = 100 := by rw [eS73]; exact hk_q16
  have hk_q19 : m_kd S73 q19 = 100 := by rw [eS73]; exact hk_q19
  have hk_q22 : m_kd S73 q22 = 100 := by rw [eS73]; exact hk_q22
  have hk_q25 : m_kd S73 q25 = 100 := by rw [eS73]; exact hk_q25
  have hk_q28 : m_kd S73 q28 = 100 := by rw [eS73]; exact hk_q28
  have hk_q31 : m_kd S73 q31 = 100 := by rw [eS73]; exact hk_q31
  have hk_q34 : m_kd S73 q34 = 100 := by rw [eS73]; exact hk_q34
  have hk_q37 : m_kd S73 q37 = 100 := by rw [eS73]; exact hk_q37
  have hk_q40 : m_kd S73 q40 = 100 := by rw [eS73]; exact hk_q40
  have hk_q43 : m_kd S73 q43 = 100 := by rw [eS73]; exact hk_q43
  have hk_q46 : m_kd S73 q46 = 100 := by rw [eS73]; exact hk_q46
  have hk_q49 : m_kd S73 q49 = 100 := by rw [eS73]; exact hk_q49
  have hk_q52 : m_kd S73 q52 = 100 := by rw [eS73]; exact hk_q52
  have hk_q56 : m_kd S73 q56 = 100 := by rw [eS73]; exact hk_q56
  have hk_q59 : m_kd S73 q59 = 100 := by rw [eS73]; exact hk_q59
  have hk_q62 : m_kd S73 q62 = 100 := by rw [eS73]; exact hk_q62
  have hk_q65 : m_kd S73 q65 = 100 := by rw [eS73]; exact hk_q65
  have hk_q68 : m_kd S73 q68 = 100 := by rw [eS73]; exact hk_q68
  have hk_q71 : m_kd S73 q71 = 100 := by rw [eS73]; exact hk_q71
  refine mj_aload_n dX11_init_204 rfl rfl ?_
  refine mj_bipush (v := 121) dX11_init_205 (by decide) ?_
  refine mj_newI (N := 121) dX11_init_207 ar_int (by decide) (by decide) (by decide) (Nat.le_of_ble_eq_true rfl) (Nat.le_of_ble_eq_true rfl) ?_
  obtain ⟨q74, eq74⟩ : ∃ z, z = S73.1.length := ⟨_, rfl⟩
  rw [← eq74]
  obtain ⟨S75, eS75⟩ : ∃ z, z = m_nw S73 100 121 := ⟨_, rfl⟩
  rw [← eS75]
  replace h := h q74 eq74 S75 eS75
  have hp : S73.1 <+: S75.1 := by rw [eS75]; exact List.prefix_append _ _
  have hk_q74 : m_kd S75 q74 = 100 := by rw [eS75, eq74]; exact m_kd_nwl
  have hk_a0 : m_kd S75 a0 = 10 := m_kd_pre hp hk_a0 (by decide)
  have hk_q1 : m_kd S75 q1 = 100 := m_kd_pre hp hk_q1 (by decide)
  have hk_q4 : m_kd S75 q4 = 100 := m_kd_pre hp hk_q4 (by decide)
  have hk_q7 : m_kd S75 q7 = 100 := m_kd_pre hp hk_q7 (by decide)
  have hk_q10 : m_kd S75 q10 = 100 := m_kd_pre hp hk_q10 (by decide)
  have hk_q13 : m_kd S75 q13 = 100 := m_kd_pre hp hk_q13 (by decide)
  have hk_q16 : m_kd S75 q16 = 100 := m_kd_pre hp hk_q16 (by decide)
  have hk_q19 : m_kd S75 q19 = 100 := m_kd_pre hp hk_q19 (by decide)
  have hk_q22 : m_kd S75 q22 = 100 := m_kd_pre hp hk_q22 (by decide)
  have hk_q25 : m_kd S75 q25 = 100 := m_kd_pre hp hk_q25 (by decide)
  have hk_q28 : m_kd S75 q28 = 100 := m_kd_pre hp hk_q28 (by decide)
  have hk_q31 : m_kd S75 q31 = 100 := m_kd_pre hp hk_q31 (by decide)
  have hk_q34 : m_kd S75 q34 = 100 := m_kd_pre hp hk_q34 (by decide)
  have hk_q37 : m_kd S75 q37 = 100 := m_kd_pre hp hk_q37 (by decide)
  have hk_q40 : m_kd S75 q40 = 100 := m_kd_pre hp hk_q40 (by decide)
  have hk_q43 : m_kd S75 q43 = 100 := m_kd_pre hp hk_q43 (by decide)
  have hk_q46 : m_kd S75 q46 = 100 := m_kd_pre hp hk_q46 (by decide)
  have hk_q49 : m_kd S75 q49 = 100 := m_kd_pre hp hk_q49 (by decide)
  have hk_q52 : m_kd S75 q52 = 100 := m_kd_pre hp hk_q52 (by decide)
  have hk_q56 : m_kd S75 q56 = 100 := m_kd_pre hp hk_q56 (by decide)
  have hk_q59 : m_kd S75 q59 = 100 := m_kd_pre hp hk_q59 (by decide)
  have hk_q62 : m_kd S75 q62 = 100 := m_kd_pre hp hk_q62 (by decide)
  have hk_q65 : m_kd S75 q65 = 100 := m_kd_pre hp hk_q65 (by decide)
  have hk_q68 : m_kd S75 q68 = 100 := m_kd_pre hp hk_q68 (by decide)
  have hk_q71 : m_kd S75 q71 = 100 := m_kd_pre hp hk_q71 (by decide)
  refine mj_putP dX11_init_209 fl_X11_86_10 hk_a0 (Or.inr ⟨rfl, rfl⟩) rfl hk_q74 (fun _ => rfl) (fun _ => rfl) ?_
  obtain ⟨S76, eS76⟩ : ∃ z, z = m_sp S75 a0 40 (some q74) := ⟨_, rfl⟩
  rw [← eS76]
  replace h := h S76 eS76
  have hk_a0 : m_kd S76 a0 = 10 := by rw [eS76]; exact hk_a0
  have hk_q1 : m_kd S76 q1 = 100 := by rw [eS76]; exact hk_q1
  have hk_q4 : m_kd S76 q4 = 100 := by rw [eS76]; exact hk_q4
  have hk_q7 : m_kd S76 q7 = 100 := by rw [eS76]; exact hk_q7
  have hk_q10 : m_kd S76 q10 = 100 := by rw [eS76]; exact hk_q10
  have hk_q13 : m_kd S76 q13 = 100 := by rw [eS76]; exact hk_q13
  have hk_q16 : m_kd S76 q16 = 100 := by rw [eS76]; exact hk_q16
  have hk_q19 : m_kd S76 q19 = 100 := by rw [eS76]; exact hk_q19
  have hk_q22 : m_kd S76 q22 = 100 := by rw [eS76]; exact hk_q22
  have hk_q25 : m_kd S76 q25 = 100 := by rw [eS76]; exact hk_q25
  have hk_q28 : m_kd S76 q28 = 100 := by rw [eS76]; exact hk_q28
  have hk_q31 : m_kd S76 q31 = 100 := by rw [eS76]; exact hk_q31
  have hk_q34 : m_kd S76 q34 = 100 := by rw [eS76]; exact hk_q34
  have hk_q37 : m_kd S76 q37 = 100 := by rw [eS76]; exact hk_q37
  have hk_q40 : m_kd S76 q40 = 100 := by rw [eS76]; exact hk_q40
  have hk_q43 : m_kd S76 q43 = 100 := by rw [eS76]; exact hk_q43
  have hk_q46 : m_kd S76 q46 = 100 := by rw [eS76]; exact hk_q46
  have hk_q49 : m_kd S76 q49 = 100 := by rw [eS76]; exact hk_q49
  have hk_q52 : m_kd S76 q52 = 100 := by rw [eS76]; exact hk_q52
  have hk_q56 : m_kd S76 q56 = 100 := by rw [eS76]; exact hk_q56
  have hk_q59 : m_kd S76 q59 = 100 := by rw [eS76]; exact hk_q59
  have hk_q62 : m_kd S76 q62 = 100 := by rw [eS76]; exact hk_q62
  have hk_q65 : m_kd S76 q65 = 100 := by rw [eS76]; exact hk_q65
  have hk_q68 : m_kd S76 q68 = 100 := by rw [eS76]; exact hk_q68
  have hk_q71 : m_kd S76 q71 = 100 := by rw [eS76]; exact hk_q71
  have hk_q74 : m_kd S76 q74 = 100 := by rw [eS76]; exact hk_q74
  refine mj_aload_n dX11_init_212 rfl rfl ?_
  refine mj_bipush (v := 121) dX11_init_213 (by decide) ?_
  refine mj_newI (N := 121) dX11_init_215 ar_int (by decide) (by decide) (by decide) (Nat.le_of_ble_eq_true rfl) (Nat.le_of_ble_eq_true rfl) ?_
  obtain ⟨q77, eq77⟩ : ∃ z, z = S76.1.length := ⟨_, rfl⟩
  rw [← eq77]
  obtain ⟨S78, eS78⟩ : ∃ z, z = m_nw S76 100 121 := ⟨_, rfl⟩
  rw [← eS78]
  replace h := h q77 eq77 S78 eS78
  have hp : S76.1 <+: S78.1 := by rw [eS78]; exact List.prefix_append _ _
  have hk_q77 : m_kd S78 q77 = 100 := by rw [eS78, eq77]; exact m_kd_nwl
  have hk_a0 : m_kd S78 a0 = 10 := m_kd_pre hp hk_a0 (by decide)
  have hk_q1 : m_kd S78 q1 = 100 := m_kd_pre hp hk_q1 (by decide)
  have hk_q4 : m_kd S78 q4 = 100 := m_kd_pre hp hk_q4 (by decide)
  have hk_q7 : m_kd S78 q7 = 100 := m_kd_pre hp hk_q7 (by decide)
  have hk_q10 : m_kd S78 q10 = 100 := m_kd_pre hp hk_q10 (by decide)
  have hk_q13 : m_kd S78 q13 = 100 := m_kd_pre hp hk_q13 (by decide)
  have hk_q16 : m_kd S78 q16 = 100 := m_kd_pre hp hk_q16 (by decide)
  have hk_q19 : m_kd S78 q19 = 100 := m_kd_pre hp hk_q19 (by decide)
  have hk_q22 : m_kd S78 q22 = 100 := m_kd_pre hp hk_q22 (by decide)
  have hk_q25 : m_kd S78 q25 = 100 := m_kd_pre hp hk_q25 (by decide)
  have hk_q28 : m_kd S78 q28 = 100 := m_kd_pre hp hk_q28 (by decide)
  have hk_q31 : m_kd S78 q31 = 100 := m_kd_pre hp hk_q31 (by decide)
  have hk_q34 : m_kd S78 q34 = 100 := m_kd_pre hp hk_q34 (by decide)
  have hk_q37 : m_kd S78 q37 = 100 := m_kd_pre hp hk_q37 (by decide)
  have hk_q40 : m_kd S78 q40 = 100 := m_kd_pre hp hk_q40 (by decide)
  have hk_q43 : m_kd S78 q43 = 100 := m_kd_pre hp hk_q43 (by decide)
  have hk_q46 : m_kd S78 q46 = 100 := m_kd_pre hp hk_q46 (by decide)
  have hk_q49 : m_kd S78 q49 = 100 := m_kd_pre hp hk_q49 (by decide)
  have hk_q52 : m_kd S78 q52 = 100 := m_kd_pre hp hk_q52 (by decide)
  have hk_q56 : m_kd S78 q56 = 100 := m_kd_pre hp hk_q56 (by decide)
  have hk_q59 : m_kd S78 q59 = 100 := m_kd_pre hp hk_q59 (by decide)
  have hk_q62 : m_kd S78 q62 = 100 := m_kd_pre hp hk_q62 (by decide)
  have hk_q65 : m_kd S78 q65 = 100 := m_kd_pre hp hk_q65 (by decide)
  have hk_q68 : m_kd S78 q68 = 100 := m_kd_pre hp hk_q68 (by decide)
  have hk_q71 : m_kd S78 q71 = 100 := m_kd_pre hp hk_q71 (by decide)
  have hk_q74 : m_kd S78 q74 = 100 := m_kd_pre hp hk_q74 (by decide)
  refine mj_putP dX11_init_217 fl_X11_89_10 hk_a0 (Or.inr ⟨rfl, rfl⟩) rfl hk_q77 (fun _ => rfl) (fun _ => rfl) ?_
  obtain ⟨S79, eS79⟩ : ∃ z, z = m_sp S78 a0 41 (some q77) := ⟨_, rfl⟩
  rw [← eS79]
  replace h := h S79 eS79
  have hk_a0 : m_kd S79 a0 = 10 := by rw [eS79]; exact hk_a0
  have hk_q1 : m_kd S79 q1 = 100 := by rw [eS79]; exact hk_q1
  have hk_q4 : m_kd S79 q4 = 100 := by rw [eS79]; exact hk_q4
  have hk_q7 : m_kd S79 q7 = 100 := by rw [eS79]; exact hk_q7
  have hk_q10 : m_kd S79 q10 = 100 := by rw [eS79]; exact hk_q10
  have hk_q13 : m_kd S79 q13 = 100 := by rw [eS79]; exact hk_q13
  have hk_q16 : m_kd S79 q16 = 100 := by rw [eS79]; exact hk_q16
  have hk_q19 : m_kd S79 q19 = 100 := by rw [eS79]; exact hk_q19
  have hk_q22 : m_kd S79 q22 = 100 := by rw [eS79]; exact hk_q22
  have hk_q25 : m_kd S79 q25 = 100 := by rw [eS79]; exact hk_q25
  have hk_q28 : m_kd S79 q28 = 100 := by rw [eS79]; exact hk_q28
  have hk_q31 : m_kd S79 q31 = 100 := by rw [eS79]; exact hk_q31
  have hk_q34 : m_kd S79 q34 = 100 := by rw [eS79]; exact hk_q34
  have hk_q37 : m_kd S79 q37 = 100 := by rw [eS79]; exact hk_q37
  have hk_q40 : m_kd S79 q40 = 100 := by rw [eS79]; exact hk_q40
  have hk_q43 : m_kd S79 q43 = 100 := by rw [eS79]; exact hk_q43
  have hk_q46 : m_kd S79 q46 = 100 := by rw [eS79]; exact hk_q46
  have hk_q49 : m_kd S79 q49 = 100 := by rw [eS79]; exact hk_q49
  have hk_q52 : m_kd S79 q52 = 100 := by rw [eS79]; exact hk_q52
  have hk_q56 : m_kd S79 q56 = 100 := by rw [eS79]; exact hk_q56
  have hk_q59 : m_kd S79 q59 = 100 := by rw [eS79]; exact hk_q59
  have hk_q62 : m_kd S79 q62 = 100 := by rw [eS79]; exact hk_q62
  have hk_q65 : m_kd S79 q65 = 100 := by rw [eS79]; exact hk_q65
  have hk_q68 : m_kd S79 q68 = 100 := by rw [eS79]; exact hk_q68
  have hk_q71 : m_kd S79 q71 = 100 := by rw [eS79]; exact hk_q71
  have hk_q74 : m_kd S79 q74 = 100 := by rw [eS79]; exact hk_q74
  have hk_q77 : m_kd S79 q77 = 100 := by rw [eS79]; exact hk_q77
  refine mj_aload_n dX11_init_220 rfl rfl ?_
  refine mj_bipush (v := 10) dX11_init_221 (by decide) ?_
  refine mj_newI (N := 10) dX11_init_223 ar_int (by decide) (by decide) (by decide) (Nat.le_of_ble_eq_true rfl) (Nat.le_of_ble_eq_true rfl) ?_
  obtain ⟨q80, eq80⟩ : ∃ z, z = S79.1.length := ⟨_, rfl⟩
  rw [← eq80]
  obtain ⟨S81, eS81⟩ : ∃ z, z = m_nw S79 100 10 := ⟨_, rfl⟩
  rw [← eS81]
  replace h := h q80 eq80 S81 eS81
  have hp : S79.1 <+: S81.1 := by rw [eS81]; exact List.prefix_append _ _
  have hk_q80 : m_kd S81 q80 = 100 := by rw [eS81, eq80]; exact m_kd_nwl
  have hk_a0 : m_kd S81 a0 = 10 := m_kd_pre hp hk_a0 (by decide)
  have hk_q1 : m_kd S81 q1 = 100 := m_kd_pre hp hk_q1 (by decide)
  have hk_q4 : m_kd S81 q4 = 100 := m_kd_pre hp hk_q4 (by decide)
  have hk_q7 : m_kd S81 q7 = 100 := m_kd_pre hp hk_q7 (by decide)
  have hk_q10 : m_kd S81 q10 = 100 := m_kd_pre hp hk_q10 (by decide)
  have hk_q13 : m_kd S81 q13 = 100 := m_kd_pre hp hk_q13 (by decide)
  have hk_q16 : m_kd S81 q16 = 100 := m_kd_pre hp hk_q16 (by decide)
  have hk_q19 : m_kd S81 q19 = 100 := m_kd_pre hp hk_q19 (by decide)
  have hk_q22 : m_kd S81 q22 = 100 := m_kd_pre hp hk_q22 (by decide)
  have hk_q25 : m_kd S81 q25 = 100 := m_kd_pre hp hk_q25 (by decide)
  have hk_q28 : m_kd S81 q28 = 100 := m_kd_pre hp hk_q28 (by decide)
  have hk_q31 : m_kd S81 q31 = 100 := m_kd_pre hp hk_q31 (by decide)
  have hk_q34 : m_kd S81 q34 = 100 := m_kd_pre hp hk_q34 (by decide)
  have hk_q37 : m_kd S81 q37 = 100 := m_kd_pre hp hk_q37 (by decide)
  have hk_q40 : m_kd S81 q40 = 100 := m_kd_pre hp hk_q40 (by decide)
  have hk_q43 : m_kd S81 q43 = 100 := m_kd_pre hp hk_q43 (by decide)
  have hk_q46 : m_kd S81 q46 = 100 := m_kd_pre hp hk_q46 (by decide)
  have hk_q49 : m_kd S81 q49 = 100 := m_kd_pre hp hk_q49 (by decide)
  have hk_q52 : m_kd S81 q52 = 100 := m_kd_pre hp hk_q52 (by decide)
  have hk_q56 : m_kd S81 q56 = 100 := m_kd_pre hp hk_q56 (by decide)
  have hk_q59 : m_kd S81 q59 = 100 := m_kd_pre hp hk_q59 (by decide)
  have hk_q62 : m_kd S81 q62 = 100 := m_kd_pre hp hk_q62 (by decide)
  have hk_q65 : m_kd S81 q65 = 100 := m_kd_pre hp hk_q65 (by decide)
  have hk_q68 : m_kd S81 q68 = 100 := m_kd_pre hp hk_q68 (by decide)
  have hk_q71 : m_kd S81 q71 = 100 := m_kd_pre hp hk_q71 (by decide)
  have hk_q74 : m_kd S81 q74 = 100 := m_kd_pre hp hk_q74 (by decide)
  have hk_q77 : m_kd S81 q77 = 100 := m_kd_pre hp hk_q77 (by decide)
  refine mj_putP dX11_init_225 fl_X11_92_10 hk_a0 (Or.inr ⟨rfl, rfl⟩) rfl hk_q80 (fun _ => rfl) (fun _ => rfl) ?_
  obtain ⟨S82, eS82⟩ : ∃ z, z = m_sp S81 a0 42 (some q80) := ⟨_, rfl⟩
  rw [← eS82]
  replace h := h S82 eS82
  have hk_a0 : m_kd S82 a0 = 10 := by rw [eS82]; exact hk_a0
  have hk_q1 : m_kd S82 q1 = 100 := by rw [eS82]; exact hk_q1
  have hk_q4 : m_kd S82 q4 = 100 := by rw [eS82]; exact hk_q4
  have hk_q7 : m_kd S82 q7 = 100 := by rw [eS82]; exact hk_q7
  have hk_q10 : m_kd S82 q10 = 100 := by rw [eS82]; exact hk_q10
  have hk_q13 : m_kd S82 q13 = 100 := by rw [eS82]; exact hk_q13
  have hk_q16 : m_kd S82 q16 = 100 := by rw [eS82]; exact hk_q16
  have hk_q19 : m_kd S82 q19 = 100 := by rw [eS82]; exact hk_q19
  have hk_q22 : m_kd S82 q22 = 100 := by rw [eS82]; exact hk_q22
  have hk_q25 : m_kd S82 q25 = 100 := by rw [eS82]; exact hk_q25
  have hk_q28 : m_kd S82 q28 = 100 := by rw [eS82]; exact hk_q28
  have hk_q31 : m_kd S82 q31 = 100 := by rw [eS82]; exact hk_q31
  have hk_q34 : m_kd S82 q34 = 100 := by rw [eS82]; exact hk_q34
  have hk_q37 : m_kd S82 q37 = 100 := by rw [eS82]; exact hk_q37
  have hk_q40 : m_kd S82 q40 = 100 := by rw [eS82]; exact hk_q40
  have hk_q43 : m_kd S82 q43 = 100 := by rw [eS82]; exact hk_q43
  have hk_q46 : m_kd S82 q46 = 100 := by rw [eS82]; exact hk_q46
  have hk_q49 : m_kd S82 q49 = 100 := by rw [eS82]; exact hk_q49
  have hk_q52 : m_kd S82 q52 = 100 := by rw [eS82]; exact hk_q52
  have hk_q56 : m_kd S82 q56 = 100 := by rw [eS82]; exact hk_q56
  have hk_q59 : m_kd S82 q59 = 100 := by rw [eS82]; exact hk_q59
  have hk_q62 : m_kd S82 q62 = 100 := by rw [eS82]; exact hk_q62
  have hk_q65 : m_kd S82 q65 = 100 := by rw [eS82]; exact hk_q65
  have hk_q68 : m_kd S82 q68 = 100 := by rw [eS82]; exact hk_q68
  have hk_q71 : m_kd S82 q71 = 100 := by rw [eS82]; exact hk_q71
  have hk_q74 : m_kd S82 q74 = 100 := by rw [eS82]; exact hk_q74
  have hk_q77 : m_kd S82 q77 = 100 := by rw [eS82]; exact hk_q77
  have hk_q80 : m_kd S82 q80 = 100 := by rw [eS82]; exact hk_q80
  refine mj_aload_n dX11_init_228 rfl rfl ?_
  refine mj_bipush (v := 10) dX11_init_229 (by decide) ?_
  refine mj_newZ (N := 10) dX11_init_231 ar_boolean (by decide) (by decide) (by decide) (Nat.le_of_ble_eq_true rfl) (Nat.le_of_ble_eq_true rfl) ?_
  obtain ⟨q83, eq83⟩ : ∃ z, z = S82.1.length := ⟨_, rfl⟩
  rw [← eq83]
  obtain ⟨S84, eS84⟩ : ∃ z, z = m_nw S82 101 10 := ⟨_, rfl⟩
  rw [← eS84]
  replace h := h q83 eq83 S84 eS84
  have hp : S82.1 <+: S84.1 := by rw [eS84]; exact List.prefix_append _ _
  have hk_q83 : m_kd S84 q83 = 101 := by rw [eS84, eq83]; exact m_kd_nwl
  have hk_a0 : m_kd S84 a0 = 10 := m_kd_pre hp hk_a0 (by decide)
  have hk_q1 : m_kd S84 q1 = 100 := m_kd_pre hp hk_q1 (by decide)
  have hk_q4 : m_kd S84 q4 = 100 := m_kd_pre hp hk_q4 (by decide)
  have hk_q7 : m_kd S84 q7 = 100 := m_kd_pre hp hk_q7 (by decide)
  have hk_q10 : m_kd S84 q10 = 100 := m_kd_pre hp hk_q10 (by decide)
  have hk_q13 : m_kd S84 q13 = 100 := m_kd_pre hp hk_q13 (by decide)
  have hk_q16 : m_kd S84 q16 = 100 := m_kd_pre hp hk_q16 (by decide)
  have hk_q19 : m_kd S84 q19 = 100 := m_kd_pre hp hk_q19 (by decide)
  have hk_q22 : m_kd S84 q22 = 100 := m_kd_pre hp hk_q22 (by decide)
  have hk_q25 : m_kd S84 q25 = 100 := m_kd_pre hp hk_q25 (by decide)
  have hk_q28 : m_kd S84 q28 = 100 := m_kd_pre hp hk_q28 (by decide)
  have hk_q31 : m_kd S84 q31 = 100 := m_kd_pre hp hk_q31 (by decide)
  have hk_q34 : m_kd S84 q34 = 100 := m_kd_pre hp hk_q34 (by decide)
  have hk_q37 : m_kd S84 q37 = 100 := m_kd_pre hp hk_q37 (by decide)
  have hk_q40 : m_kd S84 q40 = 100 := m_kd_pre hp hk_q40 (by decide)
  have hk_q43 : m_kd S84 q43 = 100 := m_kd_pre hp hk_q43 (by decide)
  have hk_q46 : m_kd S84 q46 = 100 := m_kd_pre hp hk_q46 (by decide)
  have hk_q49 : m_kd S84 q49 = 100 := m_kd_pre hp hk_q49 (by decide)
  have hk_q52 : m_kd S84 q52 = 100 := m_kd_pre hp hk_q52 (by decide)
  have hk_q56 : m_kd S84 q56 = 100 := m_kd_pre hp hk_q56 (by decide)
  have hk_q59 : m_kd S84 q59 = 100 := m_kd_pre hp hk_q59 (by decide)
  have hk_q62 : m_kd S84 q62 = 100 := m_kd_pre hp hk_q62 (by decide)
  have hk_q65 : m_kd S84 q65 = 100 := m_kd_pre hp hk_q65 (by decide)
  have hk_q68 : m_kd S84 q68 = 100 := m_kd_pre hp hk_q68 (by decide)
  have hk_q71 : m_kd S84 q71 = 100 := m_kd_pre hp hk_q71 (by decide)
  have hk_q74 : m_kd S84 q74 = 100 := m_kd_pre hp hk_q74 (by decide)
  have hk_q77 : m_kd S84 q77 = 100 := m_kd_pre hp hk_q77 (by decide)
  have hk_q80 : m_kd S84 q80 = 100 := m_kd_pre hp hk_q80 (by decide)
  refine mj_putP dX11_init_233 fl_X11_95_10 hk_a0 (Or.inr ⟨rfl, rfl⟩) rfl hk_q83 (fun _ => rfl) (fun _ => rfl) ?_
  obtain ⟨S85, eS85⟩ : ∃ z, z = m_sp S84 a0 43 (some q83) := ⟨_, rfl⟩
  rw [← eS85]
  replace h := h S85 eS85
  have hk_a0 : m_kd S85 a0 = 10 := by rw [eS85]; exact hk_a0
  have hk_q1 : m_kd S85 q1 = 100 := by rw [eS85]; exact hk_q1
  have hk_q4 : m_kd S85 q4 = 100 := by rw [eS85]; exact hk_q4
  have hk_q7 : m_kd S85 q7 = 100 := by rw [eS85]; exact hk_q7
  have hk_q10 : m_kd S85 q10 = 100 := by rw [eS85]; exact hk_q10
  have hk_q13 : m_kd S85 q13 = 100 := by rw [eS85]; exact hk_q13
  have hk_q16 : m_kd S85 q16 = 100 := by rw [eS85]; exact hk_q16
  have hk_q19 : m_kd S85 q19 = 100 := by rw [eS85]; exact hk_q19
  have hk_q22 : m_kd S85 q22 = 100 := by rw [eS85]; exact hk_q22
  have hk_q25 : m_kd S85 q25 = 100 := by rw [eS85]; exact hk_q25
  have hk_q28 : m_kd S85 q28 = 100 := by rw [eS85]; exact hk_q28
  have hk_q31 : m_kd S85 q31 = 100 := by rw [eS85]; exact hk_q31
  have hk_q34 : m_kd S85 q34 = 100 := by rw [eS85]; exact hk_q34
  have hk_q37 : m_kd S85 q37 = 100 := by rw [eS85]; exact hk_q37
  have hk_q40 : m_kd S85 q40 = 100 := by rw [eS85]; exact hk_q40
  have hk_q43 : m_kd S85 q43 = 100 := by rw [eS85]; exact hk_q43
  have hk_q46 : m_kd S85 q46 = 100 := by rw [eS85]; exact hk_q46
  have hk_q49 : m_kd S85 q49 = 100 := by rw [eS85]; exact hk_q49
  have hk_q52 : m_kd S85 q52 = 100 := by rw [eS85]; exact hk_q52
  have hk_q56 : m_kd S85 q56 = 100 := by rw [eS85]; exact hk_q56
  have hk_q59 : m_kd S85 q59 = 100 := by rw [eS85]; exact hk_q59
  have hk_q62 : m_kd S85 q62 = 100 := by rw [eS85]; exact hk_q62
  have hk_q65 : m_kd S85 q65 = 100 := by rw [eS85]; exact hk_q65
  have hk_q68 : m_kd S85 q68 = 100 := by rw [eS85]; exact hk_q68
  have hk_q71 : m_kd S85 q71 = 100 := by rw [eS85]; exact hk_q71
  have hk_q74 : m_kd S85 q74 = 100 := by rw [eS85]; exact hk_q74
  have hk_q77 : m_kd S85 q77 = 100 := by rw [eS85]; exact hk_q77
  have hk_q80 : m_kd S85 q80 = 100 := by rw [eS85]; exact hk_q80
  have hk_q83 : m_kd S85 q83 = 101 := by rw [eS85]; exact hk_q83
  refine mj_aload_n dX11_init_236 rfl rfl ?_
  refine mj_sipush (v := 199) dX11_init_237 (by decide) ?_
  refine mj_newI (N := 199) dX11_init_240 ar_int (by decide) (by decide) (by decide) (Nat.le_of_ble_eq_true rfl) (Nat.le_of_ble_eq_true rfl) ?_
  obtain ⟨q86, eq86⟩ : ∃ z, z = S85.1.length := ⟨_, rfl⟩
  rw [← eq86]
  obtain ⟨S87, eS87⟩ : ∃ z, z = m_nw S85 100 199 := ⟨_, rfl⟩
  rw [← eS87]
  replace h := h q86 eq86 S87 eS87
  have hp : S85.1 <+: S87.1 := by rw [eS87]; exact List.prefix_append _ _
  have hk_q86 : m_kd S87 q86 = 100 := by rw [eS87, eq86]; exact m_kd_nwl
  have hk_a0 : m_kd S87 a0 = 10 := m_kd_pre hp hk_a0 (by decide)
  have hk_q1 : m_kd S87 q1 = 100 := m_kd_pre hp hk_q1 (by decide)
  have hk_q4 : m_kd S87 q4 = 100 := m_kd_pre hp hk_q4 (by decide)
  have hk_q7 : m_kd S87 q7 = 100 := m_kd_pre hp hk_q7 (by decide)
  have hk_q10 : m_kd S87 q10 = 100 := m_kd_pre hp hk_q10 (by decide)
  have hk_q13 : m_kd S87 q13 = 100 := m_kd_pre hp hk_q13 (by decide)
  have hk_q16 : m_kd S87 q16 = 100 := m_kd_pre hp hk_q16 (by decide)
  have hk_q19 : m_kd S87 q19 = 100 := m_kd_pre hp hk_q19 (by decide)
  have hk_q22 : m_kd S87 q22 = 100 := m_kd_pre hp hk_q22 (by decide)
  have hk_q25 : m_kd S87 q25 = 100 := m_kd_pre hp hk_q25 (by decide)
  have hk_q28 : m_kd S87 q28 = 100 := m_kd_pre hp hk_q28 (by decide)
  have hk_q31 : m_kd S87 q31 = 100 := m_kd_pre hp hk_q31 (by decide)
  have hk_q34 : m_kd S87 q34 = 100 := m_kd_pre hp hk_q34 (by decide)
  have hk_q37 : m_kd S87 q37 = 100 := m_kd_pre hp hk_q37 (by decide)
  have hk_q40 : m_kd S87 q40 = 100 := m_kd_pre hp hk_q40 (by decide)
  have hk_q43 : m_kd S87 q43 = 100 := m_kd_pre hp hk_q43 (by decide)
  have hk_q46 : m_kd S87 q46 = 100 := m_kd_pre hp hk_q46 (by decide)
  have hk_q49 : m_kd S87 q49 = 100 := m_kd_pre hp hk_q49 (by decide)
  have hk_q52 : m_kd S87 q52 = 100 := m_kd_pre hp hk_q52 (by decide)
  have hk_q56 : m_kd S87 q56 = 100 := m_kd_pre hp hk_q56 (by decide)
  have hk_q59 : m_kd S87 q59 = 100 := m_kd_pre hp hk_q59 (by decide)
  have hk_q62 : m_kd S87 q62 = 100 := m_kd_pre hp hk_q62 (by decide)
  have hk_q65 : m_kd S87 q65 = 100 := m_kd_pre hp hk_q65 (by decide)
  have hk_q68 : m_kd S87 q68 = 100 := m_kd_pre hp hk_q68 (by decide)
  have hk_q71 : m_kd S87 q71 = 100 := m_kd_pre hp hk_q71 (by decide)
  have hk_q74 : m_kd S87 q74 = 100 := m_kd_pre hp hk_q74 (by decide)
  have hk_q77 : m_kd S87 q77 = 100 := m_kd_pre hp hk_q77 (by decide)
  have hk_q80 : m_kd S87 q80 = 100 := m_kd_pre hp hk_q80 (by decide)
  have hk_q83 : m_kd S87 q83 = 101 := m_kd_pre hp hk_q83 (by decide)
  refine mj_putP dX11_init_242 fl_X11_99_10 hk_a0 (Or.inr ⟨rfl, rfl⟩) rfl hk_q86 (fun _ => rfl) (fun _ => rfl) ?_
  obtain ⟨S88, eS88⟩ : ∃ z, z = m_sp S87 a0 45 (some q86) := ⟨_, rfl⟩
  rw [← eS88]
  replace h := h S88 eS88
  have hk_a0 : m_kd S88 a0 = 10 := by rw [eS88]; exact hk_a0
  have hk_q1 : m_kd S88 q1 = 100 := by rw [eS88]; exact hk_q1
  have hk_q4 : m_kd S88 q4 = 100 := by rw [eS88]; exact hk_q4
  have hk_q7 : m_kd S88 q7 = 100 := by rw [eS88]; exact hk_q7
  have hk_q10 : m_kd S88 q10 = 100 := by rw [eS88]; exact hk_q10
  have hk_q13 : m_kd S88 q13 = 100 := by rw [eS88]; exact hk_q13
  have hk_q16 : m_kd S88 q16 = 100 := by rw [eS88]; exact hk_q16
  have hk_q19 : m_kd S88 q19 = 100 := by rw [eS88]; exact hk_q19
  have hk_q22 : m_kd S88 q22 = 100 := by rw [eS88]; exact hk_q22
  have hk_q25 : m_kd S88 q25 = 100 := by rw [eS88]; exact hk_q25
  have hk_q28 : m_kd S88 q28 = 100 := by rw [eS88]; exact hk_q28
  have hk_q31 : m_kd S88 q31 = 100 := by rw [eS88]; exact hk_q31
  have hk_q34 : m_kd S88 q34 = 100 := by rw [eS88]; exact hk_q34
  have hk_q37 : m_kd S88 q37 = 100 := by rw [eS88]; exact hk_q37
  have hk_q40 : m_kd S88 q40 = 100 := by rw [eS88]; exact hk_q40
  have hk_q43 : m_kd S88 q43 = 100 := by rw [eS88]; exact hk_q43
  have hk_q46 : m_kd S88 q46 = 100 := by rw [eS88]; exact hk_q46
  have hk_q49 : m_kd S88 q49 = 100 := by rw [eS88]; exact hk_q49
  have hk_q52 : m_kd S88 q52 = 100 := by rw [eS88]; exact hk_q52
  have hk_q56 : m_kd S88 q56 = 100 := by rw [eS88]; exact hk_q56
  have hk_q59 : m_kd S88 q59 = 100 := by rw [eS88]; exact hk_q59
  have hk_q62 : m_kd S88 q62 = 100 := by rw [eS88]; exact hk_q62
  have hk_q65 : m_kd S88 q65 = 100 := by rw [eS88]; exact hk_q65
  have hk_q68 : m_kd S88 q68 = 100 := by rw [eS88]; exact hk_q68
  have hk_q71 : m_kd S88 q71 = 100 := by rw [eS88]; exact hk_q71
  have hk_q74 : m_kd S88 q74 = 100 := by rw [eS88]; exact hk_q74
  have hk_q77 : m_kd S88 q77 = 100 := by rw [eS88]; exact hk_q77
  have hk_q80 : m_kd S88 q80 = 100 := by rw [eS88]; exact hk_q80
  have hk_q83 : m_kd S88 q83 = 101 := by rw [eS88]; exact hk_q83
  have hk_q86 : m_kd S88 q86 = 100 := by rw [eS88]; exact hk_q86
  exact mj_retv dX11_init_245 rfl ⟨Nat.le_of_ble_eq_true rfl, Nat.le_of_ble_eq_true rfl⟩ h
abbrev V_X11_thrown_0 (l : Launch) (G : mj_G) (a0 : Nat) (S : mj_S) (Q : mj_S → Int32 → Prop) : Prop := mj_V l G (mj_room 1 0 0) RX11 cX11_thrown 1 (some .int) false 0 [some (.ref a0)] [] S 0 0 (mj_std G (some .int) (mj_room 1 0 0) (mj_qi Q))
theorem e_X11_thrown {l : Launch} {G : mj_G} {a0 : Nat} {S : mj_S} {Q : mj_S → Int32 → Prop} (h : V_X11_thrown_0 l G a0 S Q) : M_X11_thrown l G a0 S Q := mj_enter (r := 0) (ini := false) (by decide +kernel) (fun h => by cases h) (fun _ => Nat.le_of_ble_eq_true rfl) rfl h
set_option maxRecDepth 20000 in
set_option maxHeartbeats 1000000 in
theorem b_X11_thrown_0 {l : Launch} {G : mj_G} {a0 : Nat} {S : mj_S} {Q : mj_S → Int32 → Prop} (hk_a0 : m_kd S a0 = 10) (h : Q S (m_gi S a0 0)) : V_X11_thrown_0 l G a0 S Q := by
  refine mj_aload_n dX11_thrown_0 rfl rfl ?_
  refine mj_getI dX11_thrown_1 fl_X11_102_10 hk_a0 rfl ?_
  exact mj_reti dX11_thrown_4 rfl ⟨Nat.le_of_ble_eq_true rfl, Nat.le_of_ble_eq_true rfl⟩ h
abbrev V_X11_byteOf_0 (l : Launch) (G : mj_G) (x0 : Int32) (x1 : Int32) (x2 : Int32) (x3 : Int32) (x4 : Int32) (x5 : Int32) (S : mj_S) (Q : mj_S → Int32 → Prop) : Prop := mj_V l G (mj_room 1 0 0) RX11 cX11_byteOf 7 (some .int) false 0 [some (.int x0), some (.int x1), some (.int x2), some (.int x3), some (.int x4), some (.int x5), none] [] S 0 0 (mj_std G (some .int) (mj_room 1 0 0) (mj_qi Q))
abbrev V_X11_byteOf_45 (l : Launch) (G : mj_G) (x5 : Int32) (s0 : Int32) (S : mj_S) (Q : mj_S → Int32 → Prop) : Prop := mj_V l G (mj_room 1 0 0) RX11 cX11_byteOf 7 (some .int) false 45 [none, none, none, none, none, some (.int x5), none] [.int s0] S 0 0 (mj_std G (some .int) (mj_room 1 0 0) (mj_qi Q))
theorem e_X11_byteOf {l : Launch} {G : mj_G} {x0 : Int32} {x1 : Int32} {x2 : Int32} {x3 : Int32} {x4 : Int32} {x5 : Int32} {S : mj_S} {Q : mj_S → Int32 → Prop} (h : V_X11_byteOf_0 l G x0 x1 x2 x3 x4 x5 S Q) : M_X11_byteOf l G x0 x1 x2 x3 x4 x5 S Q := mj_enter (r := 1) (ini := false) (by decide +kernel) (fun h => by cases h) (fun _ => Nat.le_of_ble_eq_true rfl) rfl h
set_option maxRecDepth 20000 in
set_option maxHeartbeats 1000000 in
theorem b_X11_byteOf_0 {l : Launch} {G : mj_G} {x0 : Int32} {x1 : Int32} {x2 : Int32} {x3 : Int32} {x4 : Int32} {x5 : Int32} {S : mj_S} {Q : mj_S → Int32 → Prop} (h : (((4 : Int32) ≤ x5) → (((8 : Int32) ≤ x5) → (((12 : Int32) ≤ x5) → (((16 : Int32) ≤ x5) → V_X11_byteOf_45 l G x5 x4 S Q) ∧ ((¬ ((16 : Int32) ≤ x5)) → V_X11_byteOf_45 l G x5 x3 S Q)) ∧ ((¬ ((12 : Int32) ≤ x5)) → V_X11_byteOf_45 l G x5 x2 S Q)) ∧ ((¬ ((8 : Int32) ≤ x5)) → V_X11_byteOf_45 l G x5 x1 S Q)) ∧ ((¬ ((4 : Int32) ≤ x5)) → V_X11_byteOf_45 l G x5 x0 S Q)) : V_X11_byteOf_0 l G x0 x1 x2 x3 x4 x5 S Q := by
  refine mj_iload dX11_byteOf_0 rfl ?_
  refine mj_iconst (v := 4) dX11_byteOf_2 (by decide) ?_
  refine mj_icmp_ge (tgt := 10) dX11_byteOf_3 (by decide) ⟨fun hc => ?_, fun hc => ?_⟩
  · replace h := h.1 hc
    refine mj_iload dX11_byteOf_10 rfl ?_
    refine mj_bipush (v := 8) dX11_byteOf_12 (by decide) ?_
    refine mj_icmp_ge (tgt := 21) dX11_byteOf_14 (by decide) ⟨fun hc => ?_, fun hc => ?_⟩
    · replace h := h.1 hc
      refine mj_iload dX11_byteOf_21 rfl ?_
      refine mj_bipush (v := 12) dX11_byteOf_23 (by decide) ?_
      refine mj_icmp_ge (tgt := 32) dX11_byteOf_25 (by decide) ⟨fun hc => ?_, fun hc => ?_⟩
      · replace h := h.1 hc
        refine mj_iload dX11_byteOf_32 rfl ?_
        refine mj_bipush (v := 16) dX11_byteOf_34 (by decide) ?_
        refine mj_icmp_ge (tgt := 43) dX11_byteOf_36 (by decide) ⟨fun hc => ?_, fun hc => ?_⟩
        · replace h := h.1 hc
          refine mj_iload dX11_byteOf_43 rfl ?_
          exact mj_lessm [false, false, false, false, false, true, false] rfl h
        · replace h := h.2 hc
          refine mj_iload_n dX11_byteOf_39 rfl rfl ?_
          refine mj_goto (tgt := 45) dX11_byteOf_40 (by decide) ?_
          exact mj_lessm [false, false, false, false, false, true, false] rfl h
      · replace h := h.2 hc
        refine mj_iload_n dX11_byteOf_28 rfl rfl ?_
        refine mj_goto (tgt := 45) dX11_byteOf_29 (by decide) ?_
        exact mj_lessm [false, false, false, false, false, true, false] rfl h
    · replace h := h.2 hc
      refine mj_iload_n dX11_byteOf_17 rfl rfl ?_
      refine mj_goto (tgt := 45) dX11_byteOf_18 (by decide) ?_
      exact mj_lessm [false, false, false, false, false, true, false] rfl h
  · replace h := h.2 hc
    refine mj_iload_n dX11_byteOf_6 rfl rfl ?_
    refine mj_goto (tgt := 45) dX11_byteOf_7 (by decide) ?_
    exact mj_lessm [false, false, false, false, false, true, false] rfl h
set_option maxRecDepth 20000 in
set_option maxHeartbeats 1000000 in
theorem b_X11_byteOf_45 {l : Launch} {G : mj_G} {x5 : Int32} {s0 : Int32} {S : mj_S} {Q : mj_S → Int32 → Prop} (h : ¬ (4 : Int32) = 0 ∧ (Q S ((s0 >>> (((24 : Int32) - ((8 : Int32) * (x5 - x5 / (4 : Int32) * (4 : Int32)))) &&& 31)) &&& (255 : Int32)))) : V_X11_byteOf_45 l G x5 s0 S Q := by
  refine mj_istore dX11_byteOf_45 (by decide) rfl rfl ?_
  refine mj_iload dX11_byteOf_47 rfl ?_
  refine mj_bipush (v := 24) dX11_byteOf_49 (by decide) ?_
  refine mj_bipush (v := 8) dX11_byteOf_51 (by decide) ?_
  refine mj_iload dX11_byteOf_53 rfl ?_
  refine mj_iconst (v := 4) dX11_byteOf_55 (by decide) ?_
  refine mj_irem dX11_byteOf_56 h.1 ?_
  replace h := h.2
  refine mj_imul dX11_byteOf_57 ?_
  refine mj_isub dX11_byteOf_58 ?_
  refine mj_ishr dX11_byteOf_59 ?_
  refine mj_sipush (v := 255) dX11_byteOf_60 (by decide) ?_
  refine mj_iand dX11_byteOf_63 ?_
  exact mj_reti dX11_byteOf_64 rfl ⟨Nat.le_of_ble_eq_true rfl, Nat.le_of_ble_eq_true rfl⟩ h
abbrev V_X11_feed_0 (l : Launch) (G : mj_G) (a0 : Nat) (x1 : Int32) (x2 : Int32) (x3 : Int32) (x4 : Int32) (x5 : Int32) (S : mj_S) (Q : mj_S → Int32 → Prop) : Prop := mj_V l G (mj_room 2 0 0) RX11 cX11_feed 9 (some .int) false 0 [some (.ref a0), some (.int x1), some (.int x2), some (.int x3), some (.int x4), some (.int x5), none, none, none] [] S 0 0 (mj_std G (some .int) (mj_room 2 0 0) (mj_qi Q))
abbrev V_X11_feed_6 (l : Launch) (G : mj_G) (a0 : Nat) (x1 : Int32) (x2 : Int32) (x3 : Int32) (x4 : Int32) (x5 : Int32) (x6 : Int32) (x7 : Int32) (S : mj_S) (Q : mj_S → Int32 → Prop) : Prop := mj_V l G (mj_room 2 0 0) RX11 cX11_feed 9 (some .int) false 6 [some (.ref a0), some (.int x1), some (.int x2), some (.int x3), some (.int x4), some (.int x5), some (.int x6), some (.int x7), none] [] S 0 0 (mj_std G (some .int) (mj_room 2 0 0) (mj_qi Q))
abbrev V_X11_feed_62 (l : Launch) (G : mj_G) (a0 : Nat) (x1 : Int32) (x2 : Int32) (x3 : Int32) (x4 : Int32) (x5 : Int32) (x7 : Int32) (S : mj_S) (Q : mj_S → Int32 → Prop) : Prop := mj_V l G (mj_room 2 0 0) RX11 cX11_feed 9 (some .int) false 62 [some (.ref a0), some (.int x1), some (.int x2), some (.int x3), some (.int x4), some (.int x5), none, some (.int x7), none] [] S 0 0 (mj_std G (some .int) (mj_room 2 0 0) (mj_qi Q))
theorem e_X11_feed {l : Launch} {G : mj_G} {a0 : Nat} {x1 : Int32} {x2 : Int32} {x3 : Int32} {x4 : Int32} {x5 : Int32} {S : mj_S} {Q : mj_S → Int32 → Prop} (h : V_X11_feed_0 l G a0 x1 x2 x3 x4 x5 S Q) : M_X11_feed l G a0 x1 x2 x3 x4 x5 S Q := mj_enter (r := 3) (ini := false) (by decide +kernel) (fun h => by cases h) (fun _ => Nat.le_of_ble_eq_true rfl) rfl h
set_option maxRecDepth 20000 in
set_option maxHeartbeats 1000000 in
theorem b_X11_feed_0 {l : Launch} {G : mj_G} {a0 : Nat} {x1 : Int32} {x2 : Int32} {x3 : Int32} {x4 : Int32} {x5 : Int32} {S : mj_S} {Q : mj_S → Int32 → Prop} (hk_a0 : m_kd S a0 = 10) (h : V_X11_feed_6 l G a0 x1 x2 x3 x4 x5 (0 : Int32) (0 : Int32) S Q) : V_X11_feed_0 l G a0 x1 x2 x3 x4 x5 S Q := by
  refine mj_iconst (v := 0) dX11_feed_0 (by decide) ?_
  refine mj_istore dX11_feed_1 (by decide) rfl rfl ?_
  refine mj_iconst (v := 0) dX11_feed_3 (by decide) ?_
  refine mj_istore dX11_feed_4 (by decide) rfl rfl ?_
  exact h
set_option maxRecDepth 20000 in
set_option maxHeartbeats 1000000 in
theorem b_X11_feed_6 {l : Launch} {G : mj_G} {a0 : Nat} {x1 : Int32} {x2 : Int32} {x3 : Int32} {x4 : Int32} {x5 : Int32} {x6 : Int32} {x7 : Int32} {S : mj_S} {Q : mj_S → Int32 → Prop} (hk_a0 : m_kd S a0 = 10) (h : (((20 : Int32) ≤ x7) → ((((m_gi S a0 2) + x6) ≤ (240 : Int32)) → V_X11_feed_62 l G a0 x1 x2 x3 x4 x5 (0 : Int32) S Q) ∧ ((¬ (((m_gi S a0 2) + x6) ≤ (240 : Int32))) → Q S (-1 : Int32))) ∧ ((¬ ((20 : Int32) ≤ x7)) → M_X11_byteOf l G x1 x2 x3 x4 x5 x7 S (fun S1 r2 => ((r2 = 0) → ∀ v3 : Int32, v3 = (x6 + (0 : Int32)) → ∀ v4 : Int32, v4 = x7 + (1 : Int32) → V_X11_feed_6 l G a0 x1 x2 x3 x4 x5 v3 v4 S1 Q) ∧ ((¬ (r2 = 0)) → ∀ v5 : Int32, v5 = (x6 + (1 : Int32)) → ∀ v6 : Int32, v6 = x7 + (1 : Int32) → V_X11_feed_6 l G a0 x1 x2 x3 x4 x5 v5 v6 S1 Q)))) : V_X11_feed_6 l G a0 x1 x2 x3 x4 x5 x6 x7 S Q := by
  refine mj_iload dX11_feed_6 rfl ?_
  refine mj_bipush (v := 20) dX11_feed_8 (by decide) ?_
  refine mj_icmp_ge (tgt := 44) dX11_feed_10 (by decide) ⟨fun hc => ?_, fun hc => ?_⟩
  · replace h := h.1 hc
    refine mj_aload_n dX11_feed_44 rfl rfl ?_
    refine mj_getI dX11_feed_45 fl_X11_109_10 hk_a0 rfl ?_
    refine mj_iload dX11_feed_48 rfl ?_
    refine mj_iadd dX11_feed_50 ?_
    refine mj_sipush (v := 240) dX11_feed_51 (by decide) ?_
    refine mj_icmp_le (tgt := 59) dX11_feed_54 (by decide) ⟨fun hc => ?_, fun hc => ?_⟩
    · replace h := h.1 hc
      refine mj_iconst (v := 0) dX11_feed_59 (by decide) ?_
      refine mj_istore dX11_feed_60 (by decide) rfl rfl ?_
      exact mj_lessm [true, true, true, true, true, true, false, true, false] rfl h
    · replace h := h.2 hc
      refine mj_iconst (v := (-1)) dX11_feed_57 (by decide) ?_
      exact mj_reti dX11_feed_58 rfl ⟨Nat.le_of_ble_eq_true rfl, Nat.le_of_ble_eq_true rfl⟩ h
  · replace h := h.2 hc
    refine mj_iload dX11_feed_13 rfl ?_
    refine mj_iload_n dX11_feed_15 rfl rfl ?_
    refine mj_iload_n dX11_feed_16 rfl rfl ?_
    refine mj_iload_n dX11_feed_17 rfl rfl ?_
    refine mj_iload dX11_feed_18 rfl ?_
    refine mj_iload dX11_feed_20 rfl ?_
    refine mj_iload dX11_feed_22 rfl ?_
    refine mj_callSi (as := [.int x1, .int x2, .int x3, .int x4, .int x5, .int x7]) (st := [.int x6]) dX11_feed_24 cal_X11_byteOf lk_X11_105 sm_X11_byteOf h rfl (Nat.le_of_ble_eq_true rfl) (by decide) ⟨Nat.le_of_ble_eq_true rfl, Nat.le_of_ble_eq_true rfl⟩ (fun S1 r2 h hn_r2 hp => ?_)
    have hk_a0 : m_kd S1 a0 = 10 := m_kd_pre hp hk_a0 (by decide)
    refine mj_if_eq (tgt := 34) dX11_feed_27 (by decide) ⟨fun hc => ?_, fun hc => ?_⟩
    · replace h := h.1 hc
      refine mj_iconst (v := 0) dX11_feed_34 (by decide) ?_
      refine mj_iadd dX11_feed_35 ?_
      refine mj_nmi (fun v3 ev3 => ?_)
      replace h := h v3 ev3
      refine mj_istore dX11_feed_36 (by decide) rfl rfl ?_
      obtain ⟨v4, ev4⟩ : ∃ z : Int32, z = x7 + (1 : Int32) := ⟨_, rfl⟩
      refine mj_iinc (v := v4) dX11_feed_38 rfl (by rw [ev4]; rfl) (by decide) rfl rfl ?_
      replace h := h v4 ev4
      refine mj_goto (tgt := 6) dX11_feed_41 (by decide) ?_
      exact h
    · replace h := h.2 hc
      refine mj_iconst (v := 1) dX11_feed_30 (by decide) ?_
      refine mj_goto (tgt := 35) dX11_feed_31 (by decide) ?_
      refine mj_iadd dX11_feed_35 ?_
      refine mj_nmi (fun v5 ev5 => ?_)
      replace h := h v5 ev5
      refine mj_istore dX11_feed_36 (by decide) rfl rfl ?_
      obtain ⟨v6, ev6⟩ : ∃ z : Int32, z = x7 + (1 : Int32) := ⟨_, rfl⟩
      refine mj_iinc (v := v6) dX11_feed_38 rfl (by rw [ev6]; rfl) (by decide) rfl rfl ?_
      replace h := h v6 ev6
      refine mj_goto (tgt := 6) dX11_feed_41 (by decide) ?_
      exact h
set_option maxRecDepth 20000 in
set_option maxHeartbeats 1000000 in
theorem b_X11_feed_62 {l : Launch} {G : mj_G} {a0 : Nat} {x1 : Int32} {x2 : Int32} {x3 : Int32} {x4 : Int32} {x5 : Int32} {x7 : Int32} {S : mj_S} {Q : mj_S → Int32 → Prop} (hk_a0 : m_kd S a0 = 10) (h : (((20 : Int32) ≤ x7) → Q S (m_gi S a0 2)) ∧ ((¬ ((20 : Int32) ≤ x7)) → M_X11_byteOf l G x1 x2 x3 x4 x5 x7 S (fun S1 r2 => ((r2 = 0) → ∀ v3 : Int32, v3 = x7 + (1 : Int32) → V_X11_feed_62 l G a0 x1 x2 x3 x4 x5 v3 S1 Q) ∧ ((¬ (r2 = 0)) → ∃ b4, m_gp S1 a0 1 = some b4 ∧ (vp_in (m_gi S1 a0 2) (m_ln S1 b4) ∧ (∀ S5 : mj_S, S5 = m_si S1 b4 ((m_gi S1 a0 2)).toNatClampNeg r2 → ∀ S6 : mj_S, S6 = m_si S5 a0 2 ((m_gi S5 a0 2) + (1 : Int32)) → ∀ v7 : Int32, v7 = x7 + (1 : Int32) → V_X11_feed_62 l G a0 x1 x2 x3 x4 x5 v7 S6 Q)))))) : V_X11_feed_62 l G a0 x1 x2 x3 x4 x5 x7 S Q := by
  refine mj_iload dX11_feed_62 rfl ?_
  refine mj_bipush (v := 20) dX11_feed_64 (by decide) ?_
  refine mj_icmp_ge (tgt := 115) dX11_feed_66 (by decide) ⟨fun hc => ?_, fun hc => ?_⟩
  · replace h := h.1 hc
    refine mj_aload_n dX11_feed_115 rfl rfl ?_
    refine mj_getI dX11_feed_116 fl_X11_109_10 hk_a0 rfl ?_
    exact mj_reti dX11_feed_119 rfl ⟨Nat.le_of_ble_eq_true rfl, Nat.le_of_ble_eq_true rfl⟩ h
  · replace h := h.2 hc
    refine mj_iload_n dX11_feed_69 rfl rfl ?_
    refine mj_iload_n dX11_feed_70 rfl rfl ?_
    refine mj_iload_n dX11_feed_71 rfl rfl ?_
    refine mj_iload dX11_feed_72 rfl ?_
    refine mj_iload dX11_feed_74 rfl ?_
    refine mj_iload dX11_feed_76 rfl ?_
    refine mj_callSi (as := [.int x1, .int x2, .int x3, .int x4, .int x5, .int x7]) (st := []) dX11_feed_78 cal_X11_byteOf lk_X11_105 sm_X11_byteOf h rfl (Nat.le_of_ble_eq_true rfl) (by decide) ⟨Nat.le_of_ble_eq_true rfl, Nat.le_of_ble_eq_true rfl⟩ (fun S1 r2 h hn_r2 hp => ?_)
    have hk_a0 : m_kd S1 a0 = 10 := m_kd_pre hp hk_a0 (by decide)
    refine mj_istore dX11_feed_81 (by decide) rfl rfl ?_
    refine mj_iload dX11_feed_83 rfl ?_
    refine mj_if_eq (tgt := 109) dX11_feed_85 (by decide) ⟨fun hc => ?_, fun hc => ?_⟩
    · replace h := h.1 hc
      obtain ⟨v3, ev3⟩ : ∃ z : Int32, z = x7 + (1 : Int32) := ⟨_, rfl⟩
      refine mj_iinc (v := v3) dX11_feed_109 rfl (by rw [ev3]; rfl) (by decide) rfl rfl ?_
      replace h := h v3 ev3
      refine mj_goto (tgt := 62) dX11_feed_112 (by decide) ?_
      exact mj_lessm [true, true, true, true, true, true, false, true, false] rfl h
    · replace h := h.2 hc
      refine mj_aload_n dX11_feed_88 rfl rfl ?_
      obtain ⟨b4, eb4, h⟩ := h
      refine mj_getP dX11_feed_89 fl_X11_9_10 hk_a0 rfl ⟨b4, eb4, fun hk_b4 => ?_⟩
      refine mj_aload_n dX11_feed_92 rfl rfl ?_
      refine mj_getI dX11_feed_93 fl_X11_109_10 hk_a0 rfl ?_
      refine mj_iload dX11_feed_96 rfl ?_
      refine mj_iast dX11_feed_98 hk_b4 ⟨h.1, ?_⟩
      replace h := h.2
      obtain ⟨S5, eS5⟩ : ∃ z, z = m_si S1 b4 ((m_gi S1 a0 2)).toNatClampNeg r2 := ⟨_, rfl⟩
      rw [← eS5]
      replace h := h S5 eS5
      have hk_a0 : m_kd S5 a0 = 10 := by rw [eS5]; exact hk_a0
      have hk_b4 : m_kd S5 b4 = 100 := by rw [eS5]; exact hk_b4
      refine mj_aload_n dX11_feed_99 rfl rfl ?_
      refine mj_dup dX11_feed_100 rfl ?_
      refine mj_getI dX11_feed_101 fl_X11_109_10 hk_a0 rfl ?_
      refine mj_iconst (v := 1) dX11_feed_104 (by decide) ?_
      refine mj_iadd dX11_feed_105 ?_
      refine mj_putI dX11_feed_106 fl_X11_109_10 hk_a0 (Or.inl rfl) rfl rfl rfl ?_
      obtain ⟨S6, eS6⟩ : ∃ z, z = m_si S5 a0 2 ((m_gi S5 a0 2) + (1 : Int32)) := ⟨_, rfl⟩
      rw [← eS6]
      replace h := h S6 eS6
      have hk_a0 : m_kd S6 a0 = 10 := by rw [eS6]; exact hk_a0
      have hk_b4 : m_kd S6 b4 = 100 := by rw [eS6]; exact hk_b4
      obtain ⟨v7, ev7⟩ : ∃ z : Int32, z = x7 + (1 : Int32) := ⟨_, rfl⟩
      refine mj_iinc (v := v7) dX11_feed_109 rfl (by rw [ev7]; rfl) (by decide) rfl rfl ?_
      replace h := h v7 ev7
      refine mj_goto (tgt := 62) dX11_feed_112 (by decide) ?_
      exact mj_lessm [true, true, true, true, true, true, false, true, false] rfl h
abbrev V_X11_end_0 (l : Launch) (G : mj_G) (a0 : Nat) (x1 : Int32) (S : mj_S) (Q : mj_S → Int32 → Prop) : Prop := mj_V l G (mj_room 1 0 0) RX11 cX11_end 2 (some .boolean) false 0 [some (.ref a0), some (.int x1)] [] S 0 0 (mj_std G (some .boolean) (mj_room 1 0 0) (mj_qi Q))
theorem e_X11_end {l : Launch} {G : mj_G} {a0 : Nat} {x1 : Int32} {S : mj_S} {Q : mj_S → Int32 → Prop} (h : V_X11_end_0 l G a0 x1 S Q) : M_X11_end l G a0 x1 S Q := mj_enter (r := 0) (ini := false) (by decide +kernel) (fun h => by cases h) (fun _ => Nat.le_of_ble_eq_true rfl) rfl h
set_option maxRecDepth 20000 in
set_option maxHeartbeats 1000000 in
theorem b_X11_end_0 {l : Launch} {G : mj_G} {a0 : Nat} {x1 : Int32} {S : mj_S} {Q : mj_S → Int32 → Prop} (hk_a0 : m_kd S a0 = 10) (h : ((x1 < 0) → Q S (0 : Int32)) ∧ ((¬ (x1 < 0)) → ((x1 ≤ (m_gi S a0 2)) → ∀ S1 : mj_S, S1 = m_si S a0 2 x1 → Q S1 (1 : Int32)) ∧ ((¬ (x1 ≤ (m_gi S a0 2))) → Q S (0 : Int32)))) : V_X11_end_0 l G a0 x1 S Q := by
  refine mj_iload_n dX11_end_0 rfl rfl ?_
  refine mj_if_lt (tgt := 12) dX11_end_1 (by decide) ⟨fun hc => ?_, fun hc => ?_⟩
  · replace h := h.1 hc
    refine mj_iconst (v := 0) dX11_end_12 (by decide) ?_
    exact mj_retz dX11_end_13 rfl (rfl) ⟨Nat.le_of_ble_eq_true rfl, Nat.le_of_ble_eq_true rfl⟩ h
  · replace h := h.2 hc
    refine mj_iload_n dX11_end_4 rfl rfl ?_
    refine mj_aload_n dX11_end_5 rfl rfl ?_
    refine mj_getI dX11_end_6 fl_X11_109_10 hk_a0 rfl ?_
    refine mj_icmp_le (tgt := 14) dX11_end_9 (by decide) ⟨fun hc => ?_, fun hc => ?_⟩
    · replace h := h.1 hc
      refine mj_aload_n dX11_end_14 rfl rfl ?_
      refine mj_iload_n dX11_end_15 rfl rfl ?_
      refine mj_putI dX11_end_16 fl_X11_109_10 hk_a0 (Or.inl rfl) rfl rfl rfl ?_
      obtain ⟨S1, eS1⟩ : ∃ z, z = m_si S a0 2 x1 := ⟨_, rfl⟩
      rw [← eS1]
      replace h := h S1 eS1
      have hk_a0 : m_kd S1 a0 = 10 := by rw [eS1]; exact hk_a0
      refine mj_iconst (v := 1) dX11_end_19 (by decide) ?_
      exact mj_retz dX11_end_20 rfl (rfl) ⟨Nat.le_of_ble_eq_true rfl, Nat.le_of_ble_eq_true rfl⟩ h
    · replace h := h.2 hc
      refine mj_iconst (v := 0) dX11_end_12 (by decide) ?_
      exact mj_retz dX11_end_13 rfl (rfl) ⟨Nat.le_of_ble_eq_true rfl, Nat.le_of_ble_eq_true rfl⟩ h
abbrev V_X11_here_0 (l : Launch) (G : mj_G) (a0 : Nat) (S : mj_S) (Q : mj_S → Int32 → Prop) : Prop := mj_V l G (mj_room 1 0 0) RX11 cX11_here 1 (some .int) false 0 [some (.ref a0)] [] S 0 0 (mj_std G (some .int) (mj_room 1 0 0) (mj_qi Q))
theorem e_X11_here {l : Launch} {G : mj_G} {a0 : Nat} {S : mj_S} {Q : mj_S → Int32 → Prop} (h : V_X11_here_0 l G a0 S Q) : M_X11_here l G a0 S Q := mj_enter (r := 0) (ini := false) (by decide +kernel) (fun h => by cases h) (fun _ => Nat.le_of_ble_eq_true rfl) rfl h
set_option maxRecDepth 20000 in
set_option maxHeartbeats 1000000 in
theorem b_X11_here_0 {l : Launch} {G : mj_G} {a0 : Nat} {S : mj_S} {Q : mj_S → Int32 → Prop} (hk_a0 : m_kd S a0 = 10) (h : (((m_gi S a0 2) ≤ (m_gi S a0 3)) → Q S (-1 : Int32)) ∧ ((¬ ((m_gi S a0 2) ≤ (m_gi S a0 3))) → ∃ b1, m_gp S a0 1 = some b1 ∧ (vp_in (m_gi S a0 3) (m_ln S b1) ∧ (Q S (m_gi S b1 ((m_gi S a0 3)).toNatClampNeg))))) : V_X11_here_0 l G a0 S Q := by
  refine mj_aload_n dX11_here_0 rfl rfl ?_
  refine mj_getI dX11_here_1 fl_X11_112_10 hk_a0 rfl ?_
  refine mj_aload_n dX11_here_4 rfl rfl ?_
  refine mj_getI dX11_here_5 fl_X11_109_10 hk_a0 rfl ?_
  refine mj_icmp_ge (tgt := 23) dX11_here_8 (by decide) ⟨fun hc => ?_, fun hc => ?_⟩
  · replace h := h.1 hc
    refine mj_iconst (v := (-1)) dX11_here_23 (by decide) ?_
    exact mj_reti dX11_here_24 rfl ⟨Nat.le_of_ble_eq_true rfl, Nat.le_of_ble_eq_true rfl⟩ h
  · replace h := h.2 hc
    refine mj_aload_n dX11_here_11 rfl rfl ?_
    obtain ⟨b1, eb1, h⟩ := h
    refine mj_getP dX11_here_12 fl_X11_9_10 hk_a0 rfl ⟨b1, eb1, fun hk_b1 => ?_⟩
    refine mj_aload_n dX11_here_15 rfl rfl ?_
    refine mj_getI dX11_here_16 fl_X11_112_10 hk_a0 rfl ?_
    refine mj_iald dX11_here_19 (Or.inl hk_b1) ⟨h.1, ?_⟩
    replace h := h.2
    refine mj_goto (tgt := 24) dX11_here_20 (by decide) ?_
    exact mj_reti dX11_here_24 rfl ⟨Nat.le_of_ble_eq_true rfl, Nat.le_of_ble_eq_true rfl⟩ h
abbrev V_X11_look_0 (l : Launch) (G : mj_G) (a0 : Nat) (S : mj_S) (Q : mj_S → Int32 → Prop) : Prop := mj_V l G (mj_room 2 0 0) RX11 cX11_look 1 (some .int) false 0 [some (.ref a0)] [] S 0 0 (mj_std G (some .int) (mj_room 2 0 0) (mj_qi Q))
theorem e_X11_look {l : Launch} {G : mj_G} {a0 : Nat} {S : mj_S} {Q : mj_S → Int32 → Prop} (h : V_X11_look_0 l G a0 S Q) : M_X11_look l G a0 S Q := mj_enter (r := 0) (ini := false) (by decide +kernel) (fun h => by cases h) (fun _ => Nat.le_of_ble_eq_true rfl) rfl h
set_option maxRecDepth 20000 in
set_option maxHeartbeats 1000000 in
theorem b_X11_look_0 {l : Launch} {G : mj_G} {a0 : Nat} {S : mj_S} {Q : mj_S → Int32 → Prop} (hk_a0 : m_kd S a0 = 10) (h : M_X11_here l G a0 S (fun S1 r2 => ((¬ r2 = (32 : Int32)) → M_X11_here l G a0 S1 (fun S3 r4 => Q S3 r4)) ∧ ((r2 = (32 : Int32)) → ∀ S5 : mj_S, S5 = m_si S1 a0 3 ((m_gi S1 a0 3) + (1 : Int32)) → V_X11_look_0 l G a0 S5 Q))) : V_X11_look_0 l G a0 S Q := by
  refine mj_aload_n dX11_look_0 rfl rfl ?_
  refine mj_callVi (as := []) (st := []) dX11_look_1 cal_X11_here lk_X11_115 im_X11_here se_X11_here (ci := 10) rfl (by decide) hk_a0 h rfl (Nat.le_of_ble_eq_true rfl) (by decide) ⟨Nat.le_of_ble_eq_true rfl, Nat.le_of_ble_eq_true rfl⟩ (fun S1 r2 h hn_r2 hp => ?_)
  have hk_a0 : m_kd S1 a0 = 10 := m_kd_pre hp hk_a0 (by decide)
  refine mj_bipush (v := 32) dX11_look_4 (by decide) ?_
  refine mj_icmp_ne (tgt := 22) dX11_look_6 (by decide) ⟨fun hc => ?_, fun hc => ?_⟩
  · replace h := h.1 hc
    refine mj_aload_n dX11_look_22 rfl rfl ?_
    refine mj_callVi (as := []) (st := []) dX11_look_23 cal_X11_here lk_X11_115 im_X11_here se_X11_here (ci := 10) rfl (by decide) hk_a0 h rfl (Nat.le_of_ble_eq_true rfl) (by decide) ⟨Nat.le_of_ble_eq_true rfl, Nat.le_of_ble_eq_true rfl⟩ (fun S3 r4 h hn_r4 hp => ?_)
    have hk_a0 : m_kd S3 a0 = 10 := m_kd_pre hp hk_a0 (by decide)
    exact mj_reti dX11_look_26 rfl ⟨Nat.le_of_ble_eq_true rfl, Nat.le_of_ble_eq_true rfl⟩ h
  · replace h := h.2 hc
    refine mj_aload_n dX11_look_9 rfl rfl ?_
    refine mj_dup dX11_look_10 rfl ?_
    refine mj_getI dX11_look_11 fl_X11_112_10 hk_a0 rfl ?_
    refine mj_iconst (v := 1) dX11_look_14 (by decide) ?_
    refine mj_iadd dX11_look_15 ?_
    refine mj_putI dX11_look_16 fl_X11_112_10 hk_a0 (Or.inl rfl) rfl rfl rfl ?_
    obtain ⟨S5, eS5⟩ : ∃ z, z = m_si S1 a0 3 ((m_gi S1 a0 3) + (1 : Int32)) := ⟨_, rfl⟩
    rw [← eS5]
    replace h := h S5 eS5
    have hk_a0 : m_kd S5 a0 = 10 := by rw [eS5]; exact hk_a0
    refine mj_goto (tgt := 0) dX11_look_19 (by decide) ?_
    exact h
abbrev V_X11_bad_0 (l : Launch) (G : mj_G) (a0 : Nat) (S : mj_S) (Q : mj_S → Prop) : Prop := mj_V l G (mj_room 1 0 0) RX11 cX11_bad 1 none false 0 [some (.ref a0)] [] S 0 0 (mj_std G none (mj_room 1 0 0) (mj_qv Q))
theorem e_X11_bad {l : Launch} {G : mj_G} {a0 : Nat} {S : mj_S} {Q : mj_S → Prop} (h : V_X11_bad_0 l G a0 S Q) : M_X11_bad l G a0 S Q := mj_enter (r := 0) (ini := false) (by decide +kernel) (fun h => by cases h) (fun _ => Nat.le_of_ble_eq_true rfl) rfl h
set_option maxRecDepth 20000 in
set_option maxHeartbeats 1000000 in
theorem b_X11_bad_0 {l : Launch} {G : mj_G} {a0 : Nat} {S : mj_S} {Q : mj_S → Prop} (hk_a0 : m_kd S a0 = 10) (h : ((¬ (m_gi S a0 4) = (-1 : Int32)) → ∀ S1 : mj_S, S1 = m_si S a0 4 (m_gi S a0 4) → Q S1) ∧ (((m_gi S a0 4) = (-1 : Int32)) → ∀ S2 : mj_S, S2 = m_si S a0 4 (m_gi S a0 3) → Q S2)) : V_X11_bad_0 l G a0 S Q := by
  refine mj_aload_n dX11_bad_0 rfl rfl ?_
  refine mj_aload_n dX11_bad_1 rfl rfl ?_
  refine mj_getI dX11_bad_2 fl_X11_119_10 hk_a0 rfl ?_
  refine mj_iconst (v := (-1)) dX11_bad_5 (by decide) ?_
  refine mj_icmp_ne (tgt := 16) dX11_bad_6 (by decide) ⟨fun hc => ?_, fun hc => ?_⟩
  · replace h := h.1 hc
    refine mj_aload_n dX11_bad_16 rfl rfl ?_
    refine mj_getI dX11_bad_17 fl_X11_119_10 hk_a0 rfl ?_
    refine mj_putI dX11_bad_20 fl_X11_119_10 hk_a0 (Or.inl rfl) rfl rfl rfl ?_
    obtain ⟨S1, eS1⟩ : ∃ z, z = m_si S a0 4 (m_gi S a0 4) := ⟨_, rfl⟩
    rw [← eS1]
    replace h := h S1 eS1
    have hk_a0 : m_kd S1 a0 = 10 := by rw [eS1]; exact hk_a0
    exact mj_retv dX11_bad_23 rfl ⟨Nat.le_of_ble_eq_true rfl, Nat.le_of_ble_eq_true rfl⟩ h
  · replace h := h.2 hc
    refine mj_aload_n dX11_bad_9 rfl rfl ?_
    refine mj_getI dX11_bad_10 fl_X11_112_10 hk_a0 rfl ?_
    refine mj_goto (tgt := 20) dX11_bad_13 (by decide) ?_
    refine mj_putI dX11_bad_20 fl_X11_119_10 hk_a0 (Or.inl rfl) rfl rfl rfl ?_
    obtain ⟨S2, eS2⟩ : ∃ z, z = m_si S a0 4 (m_gi S a0 3) := ⟨_, rfl⟩
    rw [← eS2]
    replace h := h S2 eS2
    have hk_a0 : m_kd S2 a0 = 10 := by rw [eS2]; exact hk_a0
    exact mj_retv dX11_bad_23 rfl ⟨Nat.le_of_ble_eq_true rfl, Nat.le_of_ble_eq_true rfl⟩ h
abbrev V_X11_isDigit_0 (l : Launch) (G : mj_G) (x0 : Int32) (S : mj_S) (Q : mj_S → Int32 → Prop) : Prop := mj_V l G (mj_room 1 0 0) RX11 cX11_isDigit 1 (some .boolean) false 0 [some (.int x0)] [] S 0 0 (mj_std G (some .boolean) (mj_room 1 0 0) (mj_qi Q))
theorem e_X11_isDigit {l : Launch} {G : mj_G} {x0 : Int32} {S : mj_S} {Q : mj_S → Int32 → Prop} (h : V_X11_isDigit_0 l G x0 S Q) : M_X11_isDigit l G x0 S Q := mj_enter (r := 0) (ini := false) (by decide +kernel) (fun h => by cases h) (fun _ => Nat.le_of_ble_eq_true rfl) rfl h
set_option maxRecDepth 20000 in
set_option maxHeartbeats 1000000 in
theorem b_X11_isDigit_0 {l : Launch} {G : mj_G} {x0 : Int32} {S : mj_S} {Q : mj_S → Int32 → Prop} (h : ((x0 < (48 : Int32)) → Q S (0 : Int32)) ∧ ((¬ (x0 < (48 : Int32))) → (((57 : Int32) < x0) → Q S (0 : Int32)) ∧ ((¬ ((57 : Int32) < x0)) → Q S (1 : Int32)))) : V_X11_isDigit_0 l G x0 S Q := by
  refine mj_iload_n dX11_isDigit_0 rfl rfl ?_
  refine mj_bipush (v := 48) dX11_isDigit_1 (by decide) ?_
  refine mj_icmp_lt (tgt := 16) dX11_isDigit_3 (by decide) ⟨fun hc => ?_, fun hc => ?_⟩
  · replace h := h.1 hc
    refine mj_iconst (v := 0) dX11_isDigit_16 (by decide) ?_
    exact mj_retz dX11_isDigit_17 rfl (rfl) ⟨Nat.le_of_ble_eq_true rfl, Nat.le_of_ble_eq_true rfl⟩ h
  · replace h := h.2 hc
    refine mj_iload_n dX11_isDigit_6 rfl rfl ?_
    refine mj_bipush (v := 57) dX11_isDigit_7 (by decide) ?_
    refine mj_icmp_gt (tgt := 16) dX11_isDigit_9 (by decide) ⟨fun hc => ?_, fun hc => ?_⟩
    · replace h := h.1 hc
      refine mj_iconst (v := 0) dX11_isDigit_16 (by decide) ?_
      exact mj_retz dX11_isDigit_17 rfl (rfl) ⟨Nat.le_of_ble_eq_true rfl, Nat.le_of_ble_eq_true rfl⟩ h
    · replace h := h.2 hc
      refine mj_iconst (v := 1) dX11_isDigit_12 (by decide) ?_
      refine mj_goto (tgt := 17) dX11_isDigit_13 (by decide) ?_
      exact mj_retz dX11_isDigit_17 rfl (rfl) ⟨Nat.le_of_ble_eq_true rfl, Nat.le_of_ble_eq_true rfl⟩ h
abbrev V_X11_put_0 (l : Launch) (G : mj_G) (a0 : Nat) (x1 : Int32) (x2 : Int32) (S : mj_S) (Q : mj_S → Prop) : Prop := mj_V l G (mj_room 1 0 0) RX11 cX11_put 3 none false 0 [some (.ref a0), some (.int x1), some (.int x2)] [] S 0 0 (mj_std G none (mj_room 1 0 0) (mj_qv Q))
theorem e_X11_put {l : Launch} {G : mj_G} {a0 : Nat} {x1 : Int32} {x2 : Int32} {S : mj_S} {Q : mj_S → Prop} (h : V_X11_put_0 l G a0 x1 x2 S Q) : M_X11_put l G a0 x1 x2 S Q := mj_enter (r := 0) (ini := false) (by decide +kernel) (fun h => by cases h) (fun _ => Nat.le_of_ble_eq_true rfl) rfl h
set_option maxRecDepth 20000 in
set_option maxHeartbeats 1000000 in
theorem b_X11_put_0 {l : Launch} {G : mj_G} {a0 : Nat} {x1 : Int32} {x2 : Int32} {S : mj_S} {Q : mj_S → Prop} (hk_a0 : m_kd S a0 = 10) (h : ∃ b1, m_gp S a0 6 = some b1 ∧ (∃ b2, m_gp S a0 8 = some b2 ∧ (vp_in (m_gi S a0 14) (m_ln S b2) ∧ (vp_in (((520 : Int32) * (m_gi S a0 14)) + (m_gi S b2 ((m_gi S a0 14)).toNatClampNeg)) (m_ln S b1) ∧ (∀ S3 : mj_S, S3 = m_si S b1 ((((520 : Int32) * (m_gi S a0 14)) + (m_gi S b2 ((m_gi S a0 14)).toNatClampNeg))).toNatClampNeg x1 → ∃ b4, m_gp S3 a0 7 = some b4 ∧ (∃ b5, m_gp S3 a0 8 = some b5 ∧ (vp_in (m_gi S3 a0 14) (m_ln S3 b5) ∧ (vp_in (((520 : Int32) * (m_gi S3 a0 14)) + (m_gi S3 b5 ((m_gi S3 a0 14)).toNatClampNeg)) (m_ln S3 b4) ∧ (∀ S6 : mj_S, S6 = m_si S3 b4 ((((520 : Int32) * (m_gi S3 a0 14)) + (m_gi S3 b5 ((m_gi S3 a0 14)).toNatClampNeg))).toNatClampNeg x2 → ∃ b7, m_gp S6 a0 8 = some b7 ∧ (vp_in (m_gi S6 a0 14) (m_ln S6 b7) ∧ (vp_in (m_gi S6 a0 14) (m_ln S6 b7) ∧ (∀ S8 : mj_S, S8 = m_si S6 b7 ((m_gi S6 a0 14)).toNatClampNeg ((m_gi S6 b7 ((m_gi S6 a0 14)).toNatClampNeg) + (1 : Int32)) → Q S8)))))))))))) : V_X11_put_0 l G a0 x1 x2 S Q := by
  refine mj_aload_n dX11_put_0 rfl rfl ?_
  obtain ⟨b1, eb1, h⟩ := h
  refine mj_getP dX11_put_1 fl_X11_13_10 hk_a0 rfl ⟨b1, eb1, fun hk_b1 => ?_⟩
  refine mj_sipush (v := 520) dX11_put_4 (by decide) ?_
  refine mj_aload_n dX11_put_7 rfl rfl ?_
  refine mj_getI dX11_put_8 fl_X11_122_10 hk_a0 rfl ?_
  refine mj_imul dX11_put_11 ?_
  refine mj_aload_n dX11_put_12 rfl rfl ?_
  obtain ⟨b2, eb2, h⟩ := h
  refine mj_getP dX11_put_13 fl_X11_19_10 hk_a0 rfl ⟨b2, eb2, fun hk_b2 => ?_⟩
  refine mj_aload_n dX11_put_16 rfl rfl ?_
  refine mj_getI dX11_put_17 fl_X11_122_10 hk_a0 rfl ?_
  refine mj_iald dX11_put_20 (Or.inl hk_b2) ⟨h.1, ?_⟩
  replace h := h.2
  refine mj_iadd dX11_put_21 ?_
  refine mj_iload_n dX11_put_22 rfl rfl ?_
  refine mj_iast dX11_put_23 hk_b1 ⟨h.1, ?_⟩
  replace h := h.2
  obtain ⟨S3, eS3⟩ : ∃ z, z = m_si S b1 ((((520 : Int32) * (m_gi S a0 14)) + (m_gi S b2 ((m_gi S a0 14)).toNatClampNeg))).toNatClampNeg x1 := ⟨_, rfl⟩
  rw [← eS3]
  replace h := h S3 eS3
  have hk_a0 : m_kd S3 a0 = 10 := by rw [eS3]; exact hk_a0
  have hk_b1 : m_kd S3 b1 = 100 := by rw [eS3]; exact hk_b1
  have hk_b2 : m_kd S3 b2 = 100 := by rw [eS3]; exact hk_b2
  refine mj_aload_n dX11_put_24 rfl rfl ?_
  obtain ⟨b4, eb4, h⟩ := h
  refine mj_getP dX11_put_25 fl_X11_16_10 hk_a0 rfl ⟨b4, eb4, fun hk_b4 => ?_⟩
  refine mj_sipush (v := 520) dX11_put_28 (by decide) ?_
  refine mj_aload_n dX11_put_31 rfl rfl ?_
  refine mj_getI dX11_put_32 fl_X11_122_10 hk_a0 rfl ?_
  refine mj_imul dX11_put_35 ?_
  refine mj_aload_n dX11_put_36 rfl rfl ?_
  obtain ⟨b5, eb5, h⟩ := h
  refine mj_getP dX11_put_37 fl_X11_19_10 hk_a0 rfl ⟨b5, eb5, fun hk_b5 => ?_⟩
  refine mj_aload_n dX11_put_40 rfl rfl ?_
  refine mj_getI dX11_put_41 fl_X11_122_10 hk_a0 rfl ?_
  refine mj_iald dX11_put_44 (Or.inl hk_b5) ⟨h.1, ?_⟩
  replace h := h.2
  refine mj_iadd dX11_put_45 ?_
  refine mj_iload_n dX11_put_46 rfl rfl ?_
  refine mj_iast dX11_put_47 hk_b4 ⟨h.1, ?_⟩
  replace h := h.2
  obtain ⟨S6, eS6⟩ : ∃ z, z = m_si S3 b4 ((((520 : Int32) * (m_gi S3 a0 14)) + (m_gi S3 b5 ((m_gi S3 a0 14)).toNatClampNeg))).toNatClampNeg x2 := ⟨_, rfl⟩
  rw [← eS6]
  replace h := h S6 eS6
  have hk_a0 : m_kd S6 a0 = 10 := by rw [eS6]; exact hk_a0
  have hk_b1 : m_kd S6 b1 = 100 := by rw [eS6]; exact hk_b1
  have hk_b2 : m_kd S6 b2 = 100 := by rw [eS6]; exact hk_b2
  have hk_b4 : m_kd S6 b4 = 100 := by rw [eS6]; exact hk_b4
  have hk_b5 : m_kd S6 b5 = 100 := by rw [eS6]; exact hk_b5
  refine mj_aload_n dX11_put_48 rfl rfl ?_
  obtain ⟨b7, eb7, h⟩ := h
  refine mj_getP dX11_put_49 fl_X11_19_10 hk_a0 rfl ⟨b7, eb7, fun hk_b7 => ?_⟩
  refine mj_aload_n dX11_put_52 rfl rfl ?_
  refine mj_getI dX11_put_53 fl_X11_122_10 hk_a0 rfl ?_
  refine mj_dup2 dX11_put_56 rfl rfl ?_
  refine mj_iald dX11_put_57 (Or.inl hk_b7) ⟨h.1, ?_⟩
  replace h := h.2
  refine mj_iconst (v := 1) dX11_put_58 (by decide) ?_
  refine mj_iadd dX11_put_59 ?_
  refine mj_iast dX11_put_60 hk_b7 ⟨h.1, ?_⟩
  replace h := h.2
  obtain ⟨S8, eS8⟩ : ∃ z, z = m_si S6 b7 ((m_gi S6 a0 14)).toNatClampNeg ((m_gi S6 b7 ((m_gi S6 a0 14)).toNatClampNeg) + (1 : Int32)) := ⟨_, rfl⟩
  rw [← eS8]
  replace h := h S8 eS8
  have hk_a0 : m_kd S8 a0 = 10 := by rw [eS8]; exact hk_a0
  have hk_b1 : m_kd S8 b1 = 100 := by rw [eS8]; exact hk_b1
  have hk_b2 : m_kd S8 b2 = 100 := by rw [eS8]; exact hk_b2
  have hk_b4 : m_kd S8 b4 = 100 := by rw [eS8]; exact hk_b4
  have hk_b5 : m_kd S8 b5 = 100 := by rw [eS8]; exact hk_b5
  have hk_b7 : m_kd S8 b7 = 100 := by rw [eS8]; exact hk_b7
  exact mj_retv dX11_put_61 rfl ⟨Nat.le_of_ble_eq_true rfl, Nat.le_of_ble_eq_true rfl⟩ h
