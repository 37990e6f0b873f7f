abbrev V_L_law_0 (l : Launch) (G : mj_G) (a0 : Nat) (S : mj_S) : Prop := mj_V l G (mj_room 1312 601024 7293033) RL cL_law 7 (some .boolean) false 0 [some (.ref a0), none, none, none, none, none, none] [] S 0 0 mj_ly
abbrev V_L_law_23 (l : Launch) (G : mj_G) (k n : Nat) (a0 : Nat) (a1 : Nat) (a2 : Nat) (a3 : Nat) (x4 : Int32) (S : mj_S) : Prop := mj_V l G (mj_room 1312 601024 7293033) RL cL_law 7 (some .boolean) false 23 [some (.ref a0), some (.ref a1), some (.ref a2), some (.ref a3), some (.int x4), none, none] [] S k n mj_ly
abbrev V_L_law_682 (l : Launch) (G : mj_G) (k n : Nat) (a0 : Nat) (a1 : Nat) (a2 : Nat) (a3 : Nat) (x4 : Int32) (c0 : Nat) (s1 : Int32) (s2 : Int32) (s3 : Int32) (S : mj_S) : Prop := mj_V l G (mj_room 1312 601024 7293033) RL cL_law 7 (some .boolean) false 682 [some (.ref a0), some (.ref a1), some (.ref a2), some (.ref a3), some (.int x4), none, none] [.int s3, .int s2, .int s1, .ref c0] S k n mj_ly
abbrev V_L_law_712 (l : Launch) (G : mj_G) (k n : Nat) (a0 : Nat) (a1 : Nat) (a2 : Nat) (a3 : Nat) (x4 : Int32) (s0 : Int32) (c1 : Nat) (s2 : Int32) (s3 : Int32) (s4 : Int32) (S : mj_S) : Prop := mj_V l G (mj_room 1312 601024 7293033) RL cL_law 7 (some .boolean) false 712 [some (.ref a0), some (.ref a1), some (.ref a2), some (.ref a3), some (.int x4), none, none] [.int s4, .int s3, .int s2, .ref c1, .int s0] S k n mj_ly
abbrev V_L_law_1477 (l : Launch) (G : mj_G) (k n : Nat) (a0 : Nat) (a1 : Nat) (a2 : Nat) (a3 : Nat) (x4 : Int32) (c0 : Nat) (s1 : Int32) (s2 : Int32) (S : mj_S) : Prop := mj_V l G (mj_room 1312 601024 7293033) RL cL_law 7 (some .boolean) false 1477 [some (.ref a0), some (.ref a1), some (.ref a2), some (.ref a3), some (.int x4), none, none] [.int s2, .int s1, .ref c0] S k n mj_ly
abbrev V_L_law_1501 (l : Launch) (G : mj_G) (k n : Nat) (a0 : Nat) (a1 : Nat) (a2 : Nat) (a3 : Nat) (x4 : Int32) (s0 : Int32) (c1 : Nat) (s2 : Int32) (s3 : Int32) (S : mj_S) : Prop := mj_V l G (mj_room 1312 601024 7293033) RL cL_law 7 (some .boolean) false 1501 [some (.ref a0), some (.ref a1), some (.ref a2), some (.ref a3), some (.int x4), none, none] [.int s3, .int s2, .ref c1, .int s0] S k n mj_ly
set_option maxRecDepth 40000 in
set_option maxHeartbeats 8000000 in
theorem b_L_law_0 {l : Launch} {G : mj_G} {a0 : Nat} {S : mj_S} (hk_a0 : m_kd S a0 = 110) (h : ∀ q1 : Nat, q1 = S.1.length → ∀ S2 : mj_S, S2 = m_nw S 9 (mj_nf 9) → M_X10_init l G q1 S2 (fun S3 => ∀ q4 : Nat, q4 = S3.1.length → ∀ S5 : mj_S, S5 = m_nw S3 10 (mj_nf 10) → M_X11_init l G q4 S5 (fun S6 => ∀ q7 : Nat, q7 = S6.1.length → ∀ S8 : mj_S, S8 = m_nw S6 102 1 → V_L_law_23 l G 200 25000 a0 q1 q4 q7 (0 : Int32) S8))) : V_L_law_0 l G a0 S := by
  refine mj_new dL_law_0 cn_L_8 (Nat.le_of_ble_eq_true rfl) (Nat.le_of_ble_eq_true rfl) ?_
  obtain ⟨q1, eq1⟩ : ∃ z, z = S.1.length := ⟨_, rfl⟩
  rw [← eq1]
  obtain ⟨S2, eS2⟩ : ∃ z, z = m_nw S 9 (mj_nf 9) := ⟨_, rfl⟩
  rw [← eS2]
  replace h := h q1 eq1 S2 eS2
  have hp : S.1 <+: S2.1 := by rw [eS2]; exact List.prefix_append _ _
  have hk_q1 : m_kd S2 q1 = 9 := by rw [eS2, eq1]; exact m_kd_nwl
  have hk_a0 : m_kd S2 a0 = 110 := m_kd_pre hp hk_a0 (by decide)
  refine mj_dup dL_law_3 rfl ?_
  refine mj_callI (st := [.ref q1]) dL_law_4 cal_X10_init lk_L_15 im_X10_init rfl h (Nat.le_of_ble_eq_true rfl) (by decide) ⟨Nat.le_of_ble_eq_true rfl, Nat.le_of_ble_eq_true rfl⟩ (fun S3 h hp => ?_)
  have hk_a0 : m_kd S3 a0 = 110 := m_kd_pre hp hk_a0 (by decide)
  have hk_q1 : m_kd S3 q1 = 9 := m_kd_pre hp hk_q1 (by decide)
  refine mj_astore_n dL_law_7 rfl (by decide) rfl rfl ?_
  refine mj_new dL_law_8 cn_L_16 (Nat.le_of_ble_eq_true rfl) (Nat.le_of_ble_eq_true rfl) ?_
  obtain ⟨q4, eq4⟩ : ∃ z, z = S3.1.length := ⟨_, rfl⟩
  rw [← eq4]
  obtain ⟨S5, eS5⟩ : ∃ z, z = m_nw S3 10 (mj_nf 10) := ⟨_, rfl⟩
  rw [← eS5]
  replace h := h q4 eq4 S5 eS5
  have hp : S3.1 <+: S5.1 := by rw [eS5]; exact List.prefix_append _ _
  have hk_q4 : m_kd S5 q4 = 10 := by rw [eS5, eq4]; exact m_kd_nwl
  have hk_a0 : m_kd S5 a0 = 110 := m_kd_pre hp hk_a0 (by decide)
  have hk_q1 : m_kd S5 q1 = 9 := m_kd_pre hp hk_q1 (by decide)
  refine mj_dup dL_law_11 rfl ?_
  refine mj_callI (st := [.ref q4]) dL_law_12 cal_X11_init lk_L_18 im_X11_init rfl h (Nat.le_of_ble_eq_true rfl) (by decide) ⟨Nat.le_of_ble_eq_true rfl, Nat.le_of_ble_eq_true rfl⟩ (fun S6 h hp => ?_)
  have hk_a0 : m_kd S6 a0 = 110 := m_kd_pre hp hk_a0 (by decide)
  have hk_q1 : m_kd S6 q1 = 9 := m_kd_pre hp hk_q1 (by decide)
  have hk_q4 : m_kd S6 q4 = 10 := m_kd_pre hp hk_q4 (by decide)
  refine mj_astore_n dL_law_15 rfl (by decide) rfl rfl ?_
  refine mj_iconst (v := 1) dL_law_16 (by decide) ?_
  refine mj_newL (N := 1) dL_law_17 ar_long (by decide) (by decide) (by decide) (Nat.le_of_ble_eq_true rfl) (Nat.le_of_ble_eq_true rfl) ?_
  obtain ⟨q7, eq7⟩ : ∃ z, z = S6.1.length := ⟨_, rfl⟩
  rw [← eq7]
  obtain ⟨S8, eS8⟩ : ∃ z, z = m_nw S6 102 1 := ⟨_, rfl⟩
  rw [← eS8]
  replace h := h q7 eq7 S8 eS8
  have hp : S6.1 <+: S8.1 := by rw [eS8]; exact List.prefix_append _ _
  have hk_q7 : m_kd S8 q7 = 102 := by rw [eS8, eq7]; exact m_kd_nwl
  have hk_a0 : m_kd S8 a0 = 110 := m_kd_pre hp hk_a0 (by decide)
  have hk_q1 : m_kd S8 q1 = 9 := m_kd_pre hp hk_q1 (by decide)
  have hk_q4 : m_kd S8 q4 = 10 := m_kd_pre hp hk_q4 (by decide)
  refine mj_astore_n dL_law_19 rfl (by decide) rfl rfl ?_
  refine mj_iconst (v := 0) dL_law_20 (by decide) ?_
  refine mj_istore dL_law_21 (by decide) rfl rfl ?_
  refine mj_wid (k2 := 200) (n2 := 25000) (Nat.le_of_ble_eq_true rfl) (Nat.le_of_ble_eq_true rfl) ?_
  exact h
set_option maxRecDepth 40000 in
set_option maxHeartbeats 8000000 in
theorem b_L_law_23 {l : Launch} {G : mj_G} {k n : Nat} {a0 : Nat} {a1 : Nat} {a2 : Nat} {a3 : Nat} {x4 : Int32} {S : mj_S} (hkn : k ≤ 600000 ∧ n ≤ 7200000) (hk_a0 : m_kd S a0 = 110) (hk_a1 : m_kd S a1 = 9) (hk_a2 : m_kd S a2 = 10) (hk_a3 : m_kd S a3 = 102) (h : ((((Int32.ofNat (m_ln S a0)) - (6 : Int32)) < x4) → (1 : Int32) = 1) ∧ ((¬ (((Int32.ofNat (m_ln S a0)) - (6 : Int32)) < x4)) → vp_in x4 (m_ln S a0) ∧ ((((m_gi S a0 (x4).toNatClampNeg) &&& (63 : Int32)).toInt < 0 ∨ 45 < ((m_gi S a0 (x4).toNatClampNeg) &&& (63 : Int32)).toInt → ∀ v1 : Int32, v1 = x4 + (6 : Int32) → V_L_law_23 l G k n a0 a1 a2 a3 v1 S) ∧ (((m_gi S a0 (x4).toNatClampNeg) &&& (63 : Int32)).toInt = 0 → vp_in (x4 + (1 : Int32)) (m_ln S a0) ∧ (vp_in (x4 + (2 : Int32)) (m_ln S a0) ∧ (vp_in (x4 + (3 : Int32)) (m_ln S a0) ∧ (vp_in (x4 + (4 : Int32)) (m_ln S a0) ∧ (vp_in (x4 + (5 : Int32)) (m_ln S a0) ∧ (M_X10_feed l G a1 (m_gi S a0 ((x4 + (1 : Int32))).toNatClampNeg) (m_gi S a0 ((x4 + (2 : Int32))).toNatClampNeg) (m_gi S a0 ((x4 + (3 : Int32))).toNatClampNeg) (m_gi S a0 ((x4 + (4 : Int32))).toNatClampNeg) (m_gi S a0 ((x4 + (5 : Int32))).toNatClampNeg) S (fun S2 r3 => vp_in (x4 + (1 : Int32)) (m_ln S2 a0) ∧ (vp_in (x4 + (2 : Int32)) (m_ln S2 a0) ∧ (vp_in (x4 + (3 : Int32)) (m_ln S2 a0) ∧ (vp_in (x4 + (4 : Int32)) (m_ln S2 a0) ∧ (vp_in (x4 + (5 : Int32)) (m_ln S2 a0) ∧ (M_X11_feed l G a2 (m_gi S2 a0 ((x4 + (1 : Int32))).toNatClampNeg) (m_gi S2 a0 ((x4 + (2 : Int32))).toNatClampNeg) (m_gi S2 a0 ((x4 + (3 : Int32))).toNatClampNeg) (m_gi S2 a0 ((x4 + (4 : Int32))).toNatClampNeg) (m_gi S2 a0 ((x4 + (5 : Int32))).toNatClampNeg) S2 (fun S4 r5 => ((r3 = r5) → ∀ v6 : Int32, v6 = x4 + (6 : Int32) → V_L_law_23 l G k n a0 a1 a2 a3 v6 S4) ∧ ((¬ (r3 = r5)) → (0 : Int32) = 1)))))))))))))) ∧ (((m_gi S a0 (x4).toNatClampNeg) &&& (63 : Int32)).toInt = 1 → vp_in (x4 + (1 : Int32)) (m_ln S a0) ∧ (M_X10_end l G a1 (m_gi S a0 ((x4 + (1 : Int32))).toNatClampNeg) S (fun S7 r8 => vp_in (x4 + (1 : Int32)) (m_ln S7 a0) ∧ (M_X11_end l G a2 (m_gi S7 a0 ((x4 + (1 : Int32))).toNatClampNeg) S7 (fun S9 r10 => ((r8 = r10) → ∀ v11 : Int32, v11 = x4 + (6 : Int32) → V_L_law_23 l G k n a0 a1 a2 a3 v11 S9) ∧ ((¬ (r8 = r10)) → (0 : Int32) = 1)))))) ∧ (((m_gi S a0 (x4).toNatClampNeg) &&& (63 : Int32)).toInt = 2 → vp_in (x4 + (1 : Int32)) (m_ln S a0) ∧ (M_X10_fault l G a1 (m_gi S a0 ((x4 + (1 : Int32))).toNatClampNeg) S (fun S12 r13 => vp_in (x4 + (1 : Int32)) (m_ln S12 a0) ∧ (M_X11_fault l G a2 (m_gi S12 a0 ((x4 + (1 : Int32))).toNatClampNeg) S12 (fun S14 r15 => ((r13 = r15) → ∀ v16 : Int32, v16 = x4 + (6 : Int32) → V_L_law_23 l G k n a0 a1 a2 a3 v16 S14) ∧ ((¬ (r13 = r15)) → (0 : Int32) = 1)))))) ∧ (((m_gi S a0 (x4).toNatClampNeg) &&& (63 : Int32)).toInt = 3 → vp_in (x4 + (1 : Int32)) (m_ln S a0) ∧ (M_X10_text l G a1 (m_gi S a0 ((x4 + (1 : Int32))).toNatClampNeg) S (fun S17 r18 => vp_in (x4 + (1 : Int32)) (m_ln S17 a0) ∧ (M_X11_text l G a2 (m_gi S17 a0 ((x4 + (1 : Int32))).toNatClampNeg) S17 (fun S19 r20 => ((r18 = r20) → ∀ v21 : Int32, v21 = x4 + (6 : Int32) → V_L_law_23 l G k n a0 a1 a2 a3 v21 S19) ∧ ((¬ (r18 = r20)) → (0 : Int32) = 1)))))) ∧ (((m_gi S a0 (x4).toNatClampNeg) &&& (63 : Int32)).toInt = 4 → vp_in (x4 + (1 : Int32)) (m_ln S a0) ∧ (M_X10_rule l G a1 (m_gi S a0 ((x4 + (1 : Int32))).toNatClampNeg) S (fun S22 r23 => vp_in (x4 + (1 : Int32)) (m_ln S22 a0) ∧ (M_X11_rule l G a2 (m_gi S22 a0 ((x4 + (1 : Int32))).toNatClampNeg) S22 (fun S24 r25 => ((r23 = r25) → ∀ v26 : Int32, v26 = x4 + (6 : Int32) → V_L_law_23 l G k n a0 a1 a2 a3 v26 S24) ∧ ((¬ (r23 = r25)) → (0 : Int32) = 1)))))) ∧ (((m_gi S a0 (x4).toNatClampNeg) &&& (63 : Int32)).toInt = 5 → vp_in (x4 + (1 : Int32)) (m_ln S a0) ∧ (vp_in (x4 + (2 : Int32)) (m_ln S a0) ∧ (M_X10_curtain l G a1 (m_gi S a0 ((x4 + (1 : Int32))).toNatClampNeg) (m_gi S a0 ((x4 + (2 : Int32))).toNatClampNeg) S (fun S27 r28 => vp_in (x4 + (1 : Int32)) (m_ln S27 a0) ∧ (vp_in (x4 + (2 : Int32)) (m_ln S27 a0) ∧ (M_X11_curtain l G a2 (m_gi S27 a0 ((x4 + (1 : Int32))).toNatClampNeg) (m_gi S27 a0 ((x4 + (2 : Int32))).toNatClampNeg) S27 (fun S29 r30 => ((r28 = r30) → ∀ v31 : Int32, v31 = x4 + (6 : Int32) → V_L_law_23 l G k n a0 a1 a2 a3 v31 S29) ∧ ((¬ (r28 = r30)) → (0 : Int32) = 1)))))))) ∧ (((m_gi S a0 (x4).toNatClampNeg) &&& (63 : Int32)).toInt = 6 → vp_in (x4 + (1 : Int32)) (m_ln S a0) ∧ (vp_in (x4 + (2 : Int32)) (m_ln S a0) ∧ (M_L_person l G a1 (m_gi S a0 ((x4 + (1 : Int32))).toNatClampNeg) (m_gi S a0 ((x4 + (2 : Int32))).toNatClampNeg) a3 S (fun S32 r33 => vp_in (x4 + (1 : Int32)) (m_ln S32 a0) ∧ (vp_in (x4 + (2 : Int32)) (m_ln S32 a0) ∧ (M_X11_person l G a2 (m_gi S32 a0 ((x4 + (1 : Int32))).toNatClampNeg) (m_gi S32 a0 ((x4 + (2 : Int32))).toNatClampNeg) S32 (fun S34 r35 => M_X11_thrown l G a2 S34 (fun S36 r37 => ((r37 = r33) → ((¬ r33 = 0) → ∀ v38 : Int32, v38 = x4 + (6 : Int32) → V_L_law_23 l G (k + 1) (n + 6) a0 a1 a2 a3 v38 S36) ∧ ((r33 = 0) → vp_in (0 : Int32) (m_ln S36 a3) ∧ ((((lg_cmp (m_gl S36 a3 ((0 : Int32)).toNatClampNeg) ((r35).toInt64)) = 0) → ∀ v39 : Int32, v39 = x4 + (6 : Int32) → V_L_law_23 l G (k + 1) (n + 6) a0 a1 a2 a3 v39 S36) ∧ ((¬ ((lg_cmp (m_gl S36 a3 ((0 : Int32)).toNatClampNeg) ((r35).toInt64)) = 0)) → (0 : Int32) = 1)))) ∧ ((¬ (r37 = r33)) → (0 : Int32) = 1))))))))) ∧ (((m_gi S a0 (x4).toNatClampNeg) &&& (63 : Int32)).toInt = 7 → vp_in (x4 + (1 : Int32)) (m_ln S a0) ∧ (M_X10_law l G a1 (m_gi S a0 ((x4 + (1 : Int32))).toNatClampNeg) S (fun S40 r41 => vp_in (x4 + (1 : Int32)) (m_ln S40 a0) ∧ (M_X11_law l G a2 (m_gi S40 a0 ((x4 + (1 : Int32))).toNatClampNeg) S40 (fun S42 r43 => ((r41 = r43) → ∀ v44 : Int32, v44 = x4 + (6 : Int32) → V_L_law_23 l G k n a0 a1 a2 a3 v44 S42) ∧ ((¬ (r41 = r43)) → (0 : Int32) = 1)))))) ∧ (((m_gi S a0 (x4).toNatClampNeg) &&& (63 : Int32)).toInt = 8 → vp_in (x4 + (1 : Int32)) (m_ln S a0) ∧ (M_X10_state l G a1 (m_gi S a0 ((x4 + (1 : Int32))).toNatClampNeg) S (fun S45 r46 => vp_in (x4 + (1 : Int32)) (m_ln S45 a0) ∧ (M_X11_state l G a2 (m_gi S45 a0 ((x4 + (1 : Int32))).toNatClampNeg) S45 (fun S47 r48 => ((r46 = r48) → ∀ v49 : Int32, v49 = x4 + (6 : Int32) → V_L_law_23 l G k n a0 a1 a2 a3 v49 S47) ∧ ((¬ (r46 = r48)) → (0 : Int32) = 1)))))) ∧ (((m_gi S a0 (x4).toNatClampNeg) &&& (63 : Int32)).toInt = 9 → vp_in (x4 + (1 : Int32)) (m_ln S a0) ∧ (M_X10_lord l G a1 (m_gi S a0 ((x4 + (1 : Int32))).toNatClampNeg) S (fun S50 r51 => vp_in (x4 + (1 : Int32)) (m_ln S50 a0) ∧ (M_X11_lord l G a2 (m_gi S50 a0 ((x4 + (1 : Int32))).toNatClampNeg) S50 (fun S52 r53 => ((r51 = r53) → ∀ v54 : Int32, v54 = x4 + (6 : Int32) → V_L_law_23 l G k n a0 a1 a2 a3 v54 S52) ∧ ((¬ (r51 = r53)) → (0 : Int32) = 1)))))) ∧ (((m_gi S a0 (x4).toNatClampNeg) &&& (63 : Int32)).toInt = 10 → vp_in (x4 + (1 : Int32)) (m_ln S a0) ∧ (M_X10_lit l G a1 (m_gi S a0 ((x4 + (1 : Int32))).toNatClampNeg) S (fun S55 r56 => vp_in (x4 + (1 : Int32)) (m_ln S55 a0) ∧ (M_X11_lit l G a2 (m_gi S55 a0 ((x4 + (1 : Int32))).toNatClampNeg) S55 (fun S57 r58 => ((r56 = r58) → ∀ v59 : Int32, v59 = x4 + (6 : Int32) → V_L_law_23 l G k n a0 a1 a2 a3 v59 S57) ∧ ((¬ (r56 = r58)) → (0 : Int32) = 1)))))) ∧ (((m_gi S a0 (x4).toNatClampNeg) &&& (63 : Int32)).toInt = 11 → vp_in (x4 + (1 : Int32)) (m_ln S a0) ∧ (vp_in (x4 + (2 : Int32)) (m_ln S a0) ∧ (M_X10_touch l G a1 (m_gi S a0 ((x4 + (1 : Int32))).toNatClampNeg) (m_gi S a0 ((x4 + (2 : Int32))).toNatClampNeg) S (fun S60 r61 => vp_in (x4 + (1 : Int32)) (m_ln S60 a0) ∧ (vp_in (x4 + (2 : Int32)) (m_ln S60 a0) ∧ (M_X11_touch l G a2 (m_gi S60 a0 ((x4 + (1 : Int32))).toNatClampNeg) (m_gi S60 a0 ((x4 + (2 : Int32))).toNatClampNeg) S60 (fun S62 r63 => ((r61 = r63) → ∀ v64 : Int32, v64 = x4 + (6 : Int32) → V_L_law_23 l G k n a0 a1 a2 a3 v64 S62) ∧ ((¬ (r61 = r63)) → (0 : Int32) = 1)))))))) ∧ (((m_gi S a0 (x4).toNatClampNeg) &&& (63 : Int32)).toInt = 12 → vp_in (x4 + (1 : Int32)) (m_ln S a0) ∧ (vp_in (x4 + (2 : Int32)) (m_ln S a0) ∧ (vp_in (x4 + (3 : Int32)) (m_ln S a0) ∧ ((((m_gi S a0 ((x4 + (3 : Int32))).toNatClampNeg) = 0) → V_L_law_682 l G k n a0 a1 a2 a3 x4 a1 (m_gi S a0 ((x4 + (1 : Int32))).toNatClampNeg) (m_gi S a0 ((x4 + (2 : Int32))).toNatClampNeg) (0 : Int32) S) ∧ ((¬ ((m_gi S a0 ((x4 + (3 : Int32))).toNatClampNeg) = 0)) → V_L_law_682 l G k n a0 a1 a2 a3 x4 a1 (m_gi S a0 ((x4 + (1 : Int32))).toNatClampNeg) (m_gi S a0 ((x4 + (2 : Int32))).toNatClampNeg) (1 : Int32) S))))) ∧ (((m_gi S a0 (x4).toNatClampNeg) &&& (63 : Int32)).toInt = 13 → vp_in (x4 + (1 : Int32)) (m_ln S a0) ∧ (vp_in (x4 + (2 : Int32)) (m_ln S a0) ∧ (M_X10_go l G a1 (m_gi S a0 ((x4 + (1 : Int32))).toNatClampNeg) (m_gi S a0 ((x4 + (2 : Int32))).toNatClampNeg) S (fun S65 r66 => vp_in (x4 + (1 : Int32)) (m_ln S65 a0) ∧ (vp_in (x4 + (2 : Int32)) (m_ln S65 a0) ∧ (M_X11_go l G a2 (m_gi S65 a0 ((x4 + (1 : Int32))).toNatClampNeg) (m_gi S65 a0 ((x4 + (2 : Int32))).toNatClampNeg) S65 (fun S67 r68 => ((r66 = r68) → ∀ v69 : Int32, v69 = x4 + (6 : Int32) → V_L_law_23 l G k n a0 a1 a2 a3 v69 S67) ∧ ((¬ (r66 = r68)) → (0 : Int32) = 1)))))))) ∧ (((m_gi S a0 (x4).toNatClampNeg) &&& (63 : Int32)).toInt = 14 → vp_in (x4 + (1 : Int32)) (m_ln S a0) ∧ (vp_in (x4 + (2 : Int32)) (m_ln S a0) ∧ (M_X10_creep l G a1 (m_gi S a0 ((x4 + (1 : Int32))).toNatClampNeg) (m_gi S a0 ((x4 + (2 : Int32))).toNatClampNeg) S (fun S70 r71 => vp_in (x4 + (1 : Int32)) (m_ln S70 a0) ∧ (vp_in (x4 + (2 : Int32)) (m_ln S70 a0) ∧ (M_X11_creep l G a2 (m_gi S70 a0 ((x4 + (1 : Int32))).toNatClampNeg) (m_gi S70 a0 ((x4 + (2 : Int32))).toNatClampNeg) S70 (fun S72 r73 => ((r71 = r73) → ∀ v74 : Int32, v74 = x4 + (6 : Int32) → V_L_law_23 l G k n a0 a1 a2 a3 v74 S72) ∧ ((¬ (r71 = r73)) → (0 : Int32) = 1)))))))) ∧ (((m_gi S a0 (x4).toNatClampNeg) &&& (63 : Int32)).toInt = 15 → vp_in (x4 + (1 : Int32)) (m_ln S a0) ∧ (vp_in (x4 + (2 : Int32)) (m_ln S a0) ∧ (M_X10_mend l G a1 (m_gi S a0 ((x4 + (1 : Int32))).toNatClampNeg) (m_gi S a0 ((x4 + (2 : Int32))).toNatClampNeg) S (fun S75 r76 => vp_in (x4 + (1 : Int32)) (m_ln S75 a0) ∧ (vp_in (x4 + (2 : Int32)) (m_ln S75 a0) ∧ (M_X11_mend l G a2 (m_gi S75 a0 ((x4 + (1 : Int32))).toNatClampNeg) (m_gi S75 a0 ((x4 + (2 : Int32))).toNatClampNeg) S75 (fun S77 r78 => ((r76 = r78) → ∀ v79 : Int32, v79 = x4 + (6 : Int32) → V_L_law_23 l G k n a0 a1 a2 a3 v79 S77) ∧ ((¬ (r76 = r78)) → (0 : Int32) = 1)))))))) ∧ (((m_gi S a0 (x4).toNatClampNeg) &&& (63 : Int32)).toInt = 16 → vp_in (x4 + (1 : Int32)) (m_ln S a0) ∧ (M_X10_years l G a1 (m_gi S a0 ((x4 + (1 : Int32))).toNatClampNeg) S (fun S80 r81 => vp_in (x4 + (1 : Int32)) (m_ln S80 a0) ∧ (M_X11_years l G a2 (m_gi S80 a0 ((x4 + (1 : Int32))).toNatClampNeg) S80 (fun S82 r83 => ((r81 = r83) → ∀ v84 : Int32, v84 = x4 + (6 : Int32) → V_L_law_23 l G k n a0 a1 a2 a3 v84 S82) ∧ ((¬ (r81 = r83)) → (0 : Int32) = 1)))))) ∧ (((m_gi S a0 (x4).toNatClampNeg) &&& (63 : Int32)).toInt = 17 → vp_in (x4 + (1 : Int32)) (m_ln S a0) ∧ (M_X10_heat l G a1 (m_gi S a0 ((x4 + (1 : Int32))).toNatClampNeg) S (fun S85 r86 => vp_in (x4 + (1 : Int32)) (m_ln S85 a0) ∧ (M_X11_heat l G a2 (m_gi S85 a0 ((x4 + (1 : Int32))).toNatClampNeg) S85 (fun S87 r88 => ((r86 = r88) → ∀ v89 : Int32, v89 = x4 + (6 : Int32) → V_L_law_23 l G k n a0 a1 a2 a3 v89 S87) ∧ ((¬ (r86 = r88)) → (0 : Int32) = 1)))))) ∧ (((m_gi S a0 (x4).toNatClampNeg) &&& (63 : Int32)).toInt = 18 → vp_in (x4 + (1 : Int32)) (m_ln S a0) ∧ (vp_in (x4 + (2 : Int32)) (m_ln S a0) ∧ (vp_in (x4 + (3 : Int32)) (m_ln S a0) ∧ (M_X10_centuries l G a1 (m_gi S a0 ((x4 + (1 : Int32))).toNatClampNeg) ((((m_gi S a0 ((x4 + (2 : Int32))).toNatClampNeg)).toInt64 <<< (((32 : Int32)).toInt64 &&& 63)) ||| (((m_gi S a0 ((x4 + (3 : Int32))).toNatClampNeg)).toInt64 &&& (4294967295 : Int64))) S (fun S90 r91 => vp_in (x4 + (1 : Int32)) (m_ln S90 a0) ∧ (vp_in (x4 + (2 : Int32)) (m_ln S90 a0) ∧ (vp_in (x4 + (3 : Int32)) (m_ln S90 a0) ∧ (M_X11_centuries l G a2 (m_gi S90 a0 ((x4 + (1 : Int32))).toNatClampNeg) ((((m_gi S90 a0 ((x4 + (2 : Int32))).toNatClampNeg)).toInt64 <<< (((32 : Int32)).toInt64 &&& 63)) ||| (((m_gi S90 a0 ((x4 + (3 : Int32))).toNatClampNeg)).toInt64 &&& (4294967295 : Int64))) S90 (fun S92 r93 => ((r91 = r93) → ∀ v94 : Int32, v94 = x4 + (6 : Int32) → V_L_law_23 l G k n a0 a1 a2 a3 v94 S92) ∧ ((¬ (r91 = r93)) → (0 : Int32) = 1)))))))))) ∧ (((m_gi S a0 (x4).toNatClampNeg) &&& (63 : Int32)).toInt = 19 → vp_in (x4 + (1 : Int32)) (m_ln S a0) ∧ (M_X10_status l G a1 (m_gi S a0 ((x4 + (1 : Int32))).toNatClampNeg) S (fun S95 r96 => vp_in (x4 + (1 : Int32)) (m_ln S95 a0) ∧ (M_X11_status l G a2 (m_gi S95 a0 ((x4 + (1 : Int32))).toNatClampNeg) S95 (fun S97 r98 => ((r96 = r98) → ∀ v99 : Int32, v99 = x4 + (6 : Int32) → V_L_law_23 l G k n a0 a1 a2 a3 v99 S97) ∧ ((¬ (r96 = r98)) → (0 : Int32) = 1)))))) ∧ (((m_gi S a0 (x4).toNatClampNeg) &&& (63 : Int32)).toInt = 20 → M_X10_undo l G a1 S (fun S100 r101 => M_X11_undo l G a2 S100 (fun S102 r103 => ((r101 = r103) → ∀ v104 : Int32, v104 = x4 + (6 : Int32) → V_L_law_23 l G k n a0 a1 a2 a3 v104 S102) ∧ ((¬ (r101 = r103)) → (0 : Int32) = 1)))) ∧ (((m_gi S a0 (x4).toNatClampNeg) &&& (63 : Int32)).toInt = 21 → vp_in (x4 + (1 : Int32)) (m_ln S a0) ∧ (vp_in (x4 + (2 : Int32)) (m_ln S a0) ∧ (M_X10_log l G a1 (m_gi S a0 ((x4 + (1 : Int32))).toNatClampNeg) (m_gi S a0 ((x4 + (2 : Int32))).toNatClampNeg) S (fun S105 r106 => vp_in (x4 + (1 : Int32)) (m_ln S105 a0) ∧ (vp_in (x4 + (2 : Int32)) (m_ln S105 a0) ∧ (M_X11_log l G a2 (m_gi S105 a0 ((x4 + (1 : Int32))).toNatClampNeg) (m_gi S105 a0 ((x4 + (2 : Int32))).toNatClampNeg) S105 (fun S107 r108 => ((r106 = r108) → ∀ v109 : Int32, v109 = x4 + (6 : Int32) → V_L_law_23 l G k n a0 a1 a2 a3 v109 S107) ∧ ((¬ (r106 = r108)) → (0 : Int32) = 1)))))))) ∧ (((m_gi S a0 (x4).toNatClampNeg) &&& (63 : Int32)).toInt = 22 → vp_in (x4 + (1 : Int32)) (m_ln S a0) ∧ (vp_in (x4 + (2 : Int32)) (m_ln S a0) ∧ (M_X10_join l G a1 (m_gi S a0 ((x4 + (1 : Int32))).toNatClampNeg) (m_gi S a0 ((x4 + (2 : Int32))).toNatClampNeg) S (fun S110 r111 => vp_in (x4 + (1 : Int32)) (m_ln S110 a0) ∧ (vp_in (x4 + (2 : Int32)) (m_ln S110 a0) ∧ (M_X11_join l G a2 (m_gi S110 a0 ((x4 + (1 : Int32))).toNatClampNeg) (m_gi S110 a0 ((x4 + (2 : Int32))).toNatClampNeg) S110 (fun S112 r113 => ((r111 = r113) → ∀ v114 : Int32, v114 = x4 + (6 : Int32) → V_L_law_23 l G k n a0 a1 a2 a3 v114 S112) ∧ ((¬ (r111 = r113)) → (0 : Int32) = 1)))))))) ∧ (((m_gi S a0 (x4).toNatClampNeg) &&& (63 : Int32)).toInt = 23 → vp_in (x4 + (1 : Int32)) (m_ln S a0) ∧ (vp_in (x4 + (2 : Int32)) (m_ln S a0) ∧ (vp_in (x4 + (3 : Int32)) (m_ln S a0) ∧ (M_X10_hide l G a1 (m_gi S a0 ((x4 + (1 : Int32))).toNatClampNeg) (m_gi S a0 ((x4 + (2 : Int32))).toNatClampNeg) (m_gi S a0 ((x4 + (3 : Int32))).toNatClampNeg) S (fun S115 r116 => vp_in (x4 + (1 : Int32)) (m_ln S115 a0) ∧ (vp_in (x4 + (2 : Int32)) (m_ln S115 a0) ∧ (vp_in (x4 + (3 : Int32)) (m_ln S115 a0) ∧ (M_X11_hide l G a2 (m_gi S115 a0 ((x4 + (1 : Int32))).toNatClampNeg) (m_gi S115 a0 ((x4 + (2 : Int32))).toNatClampNeg) (m_gi S115 a0 ((x4 + (3 : Int32))).toNatClampNeg) S115 (fun S117 r118 => ((r116 = r118) → ∀ v119 : Int32, v119 = x4 + (6 : Int32) → V_L_law_23 l G k n a0 a1 a2 a3 v119 S117) ∧ ((¬ (r116 = r118)) → (0 : Int32) = 1)))))))))) ∧ (((m_gi S a0 (x4).toNatClampNeg) &&& (63 : Int32)).toInt = 24 → vp_in (x4 + (1 : Int32)) (m_ln S a0) ∧ (vp_in (x4 + (2 : Int32)) (m_ln S a0) ∧ (M_X10_seen l G a1 (m_gi S a0 ((x4 + (1 : Int32))).toNatClampNeg) (m_gi S a0 ((x4 + (2 : Int32))).toNatClampNeg) S (fun S120 r121 => vp_in (x4 + (1 : Int32)) (m_ln S120 a0) ∧ (vp_in (x4 + (2 : Int32)) (m_ln S120 a0) ∧ (M_X11_seen l G a2 (m_gi S120 a0 ((x4 + (1 : Int32))).toNatClampNeg) (m_gi S120 a0 ((x4 + (2 : Int32))).toNatClampNeg) S120 (fun S122 r123 => ((r121 = r123) → ∀ v124 : Int32, v124 = x4 + (6 : Int32) → V_L_law_23 l G k n a0 a1 a2 a3 v124 S122) ∧ ((¬ (r121 = r123)) → (0 : Int32) = 1)))))))) ∧ (((m_gi S a0 (x4).toNatClampNeg) &&& (63 : Int32)).toInt = 25 → vp_in (x4 + (1 : Int32)) (m_ln S a0) ∧ (vp_in (x4 + (2 : Int32)) (m_ln S a0) ∧ (vp_in (x4 + (3 : Int32)) (m_ln S a0) ∧ (M_X10_under l G a1 (m_gi S a0 ((x4 + (1 : Int32))).toNatClampNeg) (m_gi S a0 ((x4 + (2 : Int32))).toNatClampNeg) (m_gi S a0 ((x4 + (3 : Int32))).toNatClampNeg) S (fun S125 r126 => vp_in (x4 + (1 : Int32)) (m_ln S125 a0) ∧ (vp_in (x4 + (2 : Int32)) (m_ln S125 a0) ∧ (vp_in (x4 + (3 : Int32)) (m_ln S125 a0) ∧ (M_X11_under l G a2 (m_gi S125 a0 ((x4 + (1 : Int32))).toNatClampNeg) (m_gi S125 a0 ((x4 + (2 : Int32))).toNatClampNeg) (m_gi S125 a0 ((x4 + (3 : Int32))).toNatClampNeg) S125 (fun S127 r128 => ((r126 = r128) → ∀ v129 : Int32, v129 = x4 + (6 : Int32) → V_L_law_23 l G k n a0 a1 a2 a3 v129 S127) ∧ ((¬ (r126 = r128)) → (0 : Int32) = 1)))))))))) ∧ (((m_gi S a0 (x4).toNatClampNeg) &&& (63 : Int32)).toInt = 26 → vp_in (x4 + (1 : Int32)) (m_ln S a0) ∧ (M_X10_lead l G a1 (m_gi S a0 ((x4 + (1 : Int32))).toNatClampNeg) S (fun S130 r131 => vp_in (x4 + (1 : Int32)) (m_ln S130 a0) ∧ (M_X11_lead l G a2 (m_gi S130 a0 ((x4 + (1 : Int32))).toNatClampNeg) S130 (fun S132 r133 => ((r131 = r133) → ∀ v134 : Int32, v134 = x4 + (6 : Int32) → V_L_law_23 l G k n a0 a1 a2 a3 v134 S132) ∧ ((¬ (r131 = r133)) → (0 : Int32) = 1)))))) ∧ (((m_gi S a0 (x4).toNatClampNeg) &&& (63 : Int32)).toInt = 27 → vp_in (x4 + (1 : Int32)) (m_ln S a0) ∧ (M_X10_first l G a1 (m_gi S a0 ((x4 + (1 : Int32))).toNatClampNeg) S (fun S135 r136 => vp_in (x4 + (1 : Int32)) (m_ln S135 a0) ∧ (M_X11_first l G a2 (m_gi S135 a0 ((x4 + (1 : Int32))).toNatClampNeg) S135 (fun S137 r138 => ((r136 = r138) → ∀ v139 : Int32, v139 = x4 + (6 : Int32) → V_L_law_23 l G k n a0 a1 a2 a3 v139 S137) ∧ ((¬ (r136 = r138)) → (0 : Int32) = 1)))))) ∧ (((m_gi S a0 (x4).toNatClampNeg) &&& (63 : Int32)).toInt = 28 → vp_in (x4 + (1 : Int32)) (m_ln S a0) ∧ (M_X10_cloth l G a1 (m_gi S a0 ((x4 + (1 : Int32))).toNatClampNeg) S (fun S140 r141 => vp_in (x4 + (1 : Int32)) (m_ln S140 a0) ∧ (M_X11_cloth l G a2 (m_gi S140 a0 ((x4 + (1 : Int32))).toNatClampNeg) S140 (fun S142 r143 => ((r141 = r143) → ∀ v144 : Int32, v144 = x4 + (6 : Int32) → V_L_law_23 l G k n a0 a1 a2 a3 v144 S142) ∧ ((¬ (r141 = r143)) → (0 : Int32) = 1)))))) ∧ (((m_gi S a0 (x4).toNatClampNeg) &&& (63 : Int32)).toInt = 29 → vp_in (x4 + (1 : Int32)) (m_ln S a0) ∧ (vp_in (x4 + (2 : Int32)) (m_ln S a0) ∧ (vp_in (x4 + (3 : Int32)) (m_ln S a0) ∧ (vp_in (x4 + (4 : Int32)) (m_ln S a0) ∧ (vp_in (x4 + (5 : Int32)) (m_ln S a0) ∧ (M_X10_game l G a1 (m_gi S a0 ((x4 + (1 : Int32))).toNatClampNeg) (m_gi S a0 ((x4 + (2 : Int32))).toNatClampNeg) (m_gi S a0 ((x4 + (3 : Int32))).toNatClampNeg) (m_gi S a0 ((x4 + (4 : Int32))).toNatClampNeg) (m_gi S a0 ((x4 + (5 : Int32))).toNatClampNeg) S (fun S145 r146 => vp_in (x4 + (1 : Int32)) (m_ln S145 a0) ∧ (vp_in (x4 + (2 : Int32)) (m_ln S145 a0) ∧ (vp_in (x4 + (3 : Int32)) (m_ln S145 a0) ∧ (vp_in (x4 + (4 : Int32)) (m_ln S145 a0) ∧ (vp_in (x4 + (5 : Int32)) (m_ln S145 a0) ∧ (M_X11_game l G a2 (m_gi S145 a0 ((x4 + (1 : Int32))).toNatClampNeg) (m_gi S145 a0 ((x4 + (2 : Int32))).toNatClampNeg) (m_gi S145 a0 ((x4 + (3 : Int32))).toNatClampNeg) (m_gi S145 a0 ((x4 + (4 : Int32))).toNatClampNeg) (m_gi S145 a0 ((x4 + (5 : Int32))).toNatClampNeg) S145 (fun S147 r148 => ((r146 = r148) → ∀ v149 : Int32, v149 = x4 + (6 : Int32) → V_L_law_23 l G k n a0 a1 a2 a3 v149 S147) ∧ ((¬ (r146 = r148)) → (0 : Int32) = 1)))))))))))))) ∧ (((m_gi S a0 (x4).toNatClampNeg) &&& (63 : Int32)).toInt = 30 → vp_in (x4 + (1 : Int32)) (m_ln S a0) ∧ (vp_in (x4 + (2 : Int32)) (m_ln S a0) ∧ (vp_in (x4 + (3 : Int32)) (m_ln S a0) ∧ (M_X10_rests l G a1 (m_gi S a0 ((x4 + (1 : Int32))).toNatClampNeg) (m_gi S a0 ((x4 + (2 : Int32))).toNatClampNeg) (m_gi S a0 ((x4 + (3 : Int32))).toNatClampNeg) S (fun S150 r151 => vp_in (x4 + (1 : Int32)) (m_ln S150 a0) ∧ (vp_in (x4 + (2 : Int32)) (m_ln S150 a0) ∧ (vp_in (x4 + (3 : Int32)) (m_ln S150 a0) ∧ (M_X11_rests l G a2 (m_gi S150 a0 ((x4 + (1 : Int32))).toNatClampNeg) (m_gi S150 a0 ((x4 + (2 : Int32))).toNatClampNeg) (m_gi S150 a0 ((x4 + (3 : Int32))).toNatClampNeg) S150 (fun S152 r153 => ((r151 = r153) → ∀ v154 : Int32, v154 = x4 + (6 : Int32) → V_L_law_23 l G k n a0 a1 a2 a3 v154 S152) ∧ ((¬ (r151 = r153)) → (0 : Int32) = 1)))))))))) ∧ (((m_gi S a0 (x4).toNatClampNeg) &&& (63 : Int32)).toInt = 31 → vp_in (x4 + (1 : Int32)) (m_ln S a0) ∧ (vp_in (x4 + (2 : Int32)) (m_ln S a0) ∧ (M_X10_treaty l G a1 (m_gi S a0 ((x4 + (1 : Int32))).toNatClampNeg) (m_gi S a0 ((x4 + (2 : Int32))).toNatClampNeg) S (fun S155 r156 => vp_in (x4 + (1 : Int32)) (m_ln S155 a0) ∧ (vp_in (x4 + (2 : Int32)) (m_ln S155 a0) ∧ (M_X11_treaty l G a2 (m_gi S155 a0 ((x4 + (1 : Int32))).toNatClampNeg) (m_gi S155 a0 ((x4 + (2 : Int32))).toNatClampNeg) S155 (fun S157 r158 => ((r156 = r158) → ∀ v159 : Int32, v159 = x4 + (6 : Int32) → V_L_law_23 l G k n a0 a1 a2 a3 v159 S157) ∧ ((¬ (r156 = r158)) → (0 : Int32) = 1)))))))) ∧ (((m_gi S a0 (x4).toNatClampNeg) &&& (63 : Int32)).toInt = 32 → vp_in (x4 + (1 : Int32)) (m_ln S a0) ∧ (M_X10_air l G a1 (m_gi S a0 ((x4 + (1 : Int32))).toNatClampNeg) S (fun S160 r161 => vp_in (x4 + (1 : Int32)) (m_ln S160 a0) ∧ (M_X11_air l G a2 (m_gi S160 a0 ((x4 + (1 : Int32))).toNatClampNeg) S160 (fun S162 r163 => ((r161 = r163) → ∀ v164 : Int32, v164 = x4 + (6 : Int32) → V_L_law_23 l G k n a0 a1 a2 a3 v164 S162) ∧ ((¬ (r161 = r163)) → (0 : Int32) = 1)))))) ∧ (((m_gi S a0 (x4).toNatClampNeg) &&& (63 : Int32)).toInt = 33 → vp_in (x4 + (1 : Int32)) (m_ln S a0) ∧ (vp_in (x4 + (2 : Int32)) (m_ln S a0) ∧ ((((m_gi S a0 ((x4 + (2 : Int32))).toNatClampNeg) = 0) → V_L_law_1477 l G k n a0 a1 a2 a3 x4 a1 (m_gi S a0 ((x4 + (1 : Int32))).toNatClampNeg) (0 : Int32) S) ∧ ((¬ ((m_gi S a0 ((x4 + (2 : Int32))).toNatClampNeg) = 0)) → V_L_law_1477 l G k n a0 a1 a2 a3 x4 a1 (m_gi S a0 ((x4 + (1 : Int32))).toNatClampNeg) (1 : Int32) S)))) ∧ (((m_gi S a0 (x4).toNatClampNeg) &&& (63 : Int32)).toInt = 34 → vp_in (x4 + (1 : Int32)) (m_ln S a0) ∧ (vp_in (x4 + (2 : Int32)) (m_ln S a0) ∧ (M_X10_leant l G a1 (m_gi S a0 ((x4 + (1 : Int32))).toNatClampNeg) (m_gi S a0 ((x4 + (2 : Int32))).toNatClampNeg) S (fun S165 r166 => vp_in (x4 + (1 : Int32)) (m_ln S165 a0) ∧ (vp_in (x4 + (2 : Int32)) (m_ln S165 a0) ∧ (M_X11_leant l G a2 (m_gi S165 a0 ((x4 + (1 : Int32))).toNatClampNeg) (m_gi S165 a0 ((x4 + (2 : Int32))).toNatClampNeg) S165 (fun S167 r168 => ((r166 = r168) → ∀ v169 : Int32, v169 = x4 + (6 : Int32) → V_L_law_23 l G k n a0 a1 a2 a3 v169 S167) ∧ ((¬ (r166 = r168)) → (0 : Int32) = 1)))))))) ∧ (((m_gi S a0 (x4).toNatClampNeg) &&& (63 : Int32)).toInt = 35 → vp_in (x4 + (1 : Int32)) (m_ln S a0) ∧ (M_X10_sure l G a1 (m_gi S a0 ((x4 + (1 : Int32))).toNatClampNeg) S (fun S170 r171 => vp_in (x4 + (1 : Int32)) (m_ln S170 a0) ∧ (M_X11_sure l G a2 (m_gi S170 a0 ((x4 + (1 : Int32))).toNatClampNeg) S170 (fun S172 r173 => ((r171 = r173) → ∀ v174 : Int32, v174 = x4 + (6 : Int32) → V_L_law_23 l G k n a0 a1 a2 a3 v174 S172) ∧ ((¬ (r171 = r173)) → (0 : Int32) = 1)))))) ∧ (((m_gi S a0 (x4).toNatClampNeg) &&& (63 : Int32)).toInt = 36 → vp_in (x4 + (1 : Int32)) (m_ln S a0) ∧ (M_X10_best l G a1 (m_gi S a0 ((x4 + (1 : Int32))).toNatClampNeg) S (fun S175 r176 => vp_in (x4 + (1 : Int32)) (m_ln S175 a0) ∧ (M_X11_best l G a2 (m_gi S175 a0 ((x4 + (1 : Int32))).toNatClampNeg) S175 (fun S177 r178 => ((r176 = r178) → ∀ v179 : Int32, v179 = x4 + (6 : Int32) → V_L_law_23 l G k n a0 a1 a2 a3 v179 S177) ∧ ((¬ (r176 = r178)) → (0 : Int32) = 1)))))) ∧ (((m_gi S a0 (x4).toNatClampNeg) &&& (63 : Int32)).toInt = 37 → M_X10_cross l G a1 S (fun S180 r181 => M_X11_cross l G a2 S180 (fun S182 r183 => ((r181 = r183) → ∀ v184 : Int32, v184 = x4 + (6 : Int32) → V_L_law_23 l G k n a0 a1 a2 a3 v184 S182) ∧ ((¬ (r181 = r183)) → (0 : Int32) = 1)))) ∧ (((m_gi S a0 (x4).toNatClampNeg) &&& (63 : Int32)).toInt = 38 → M_X10_realm l G a1 S (fun S185 r186 => M_X11_realm l G a2 S185 (fun S187 r188 => ((r186 = r188) → ∀ v189 : Int32, v189 = x4 + (6 : Int32) → V_L_law_23 l G k n a0 a1 a2 a3 v189 S187) ∧ ((¬ (r186 = r188)) → (0 : Int32) = 1)))) ∧ (((m_gi S a0 (x4).toNatClampNeg) &&& (63 : Int32)).toInt = 39 → M_X10_gathered l G a1 S (fun S190 r191 => M_X11_gathered l G a2 S190 (fun S192 r193 => ((r191 = r193) → ∀ v194 : Int32, v194 = x4 + (6 : Int32) → V_L_law_23 l G k n a0 a1 a2 a3 v194 S192) ∧ ((¬ (r191 = r193)) → (0 : Int32) = 1)))) ∧ (((m_gi S a0 (x4).toNatClampNeg) &&& (63 : Int32)).toInt = 40 → M_X10_dark l G a1 S (fun S195 r196 => M_X11_dark l G a2 S195 (fun S197 r198 => ((r196 = r198) → ∀ v199 : Int32, v199 = x4 + (6 : Int32) → V_L_law_23 l G k n a0 a1 a2 a3 v199 S197) ∧ ((¬ (r196 = r198)) → (0 : Int32) = 1)))) ∧ (((m_gi S a0 (x4).toNatClampNeg) &&& (63 : Int32)).toInt = 41 → vp_in (x4 + (1 : Int32)) (m_ln S a0) ∧ (M_X10_borders l G a1 (m_gi S a0 ((x4 + (1 : Int32))).toNatClampNeg) S (fun S200 r201 => vp_in (x4 + (1 : Int32)) (m_ln S200 a0) ∧ (M_X11_borders l G a2 (m_gi S200 a0 ((x4 + (1 : Int32))).toNatClampNeg) S200 (fun S202 r203 => ((r201 = r203) → ∀ v204 : Int32, v204 = x4 + (6 : Int32) → V_L_law_23 l G k n a0 a1 a2 a3 v204 S202) ∧ ((¬ (r201 = r203)) → (0 : Int32) = 1)))))) ∧ (((m_gi S a0 (x4).toNatClampNeg) &&& (63 : Int32)).toInt = 42 → M_X10_guests l G a1 S (fun S205 r206 => M_X11_guests l G a2 S205 (fun S207 r208 => ((r206 = r208) → ∀ v209 : Int32, v209 = x4 + (6 : Int32) → V_L_law_23 l G k n a0 a1 a2 a3 v209 S207) ∧ ((¬ (r206 = r208)) → (0 : Int32) = 1)))) ∧ (((m_gi S a0 (x4).toNatClampNeg) &&& (63 : Int32)).toInt = 43 → M_X10_image l G a1 S (fun S210 r211 => M_X11_image l G a2 S210 (fun S212 r213 => ((r211 = r213) → ∀ v214 : Int32, v214 = x4 + (6 : Int32) → V_L_law_23 l G k n a0 a1 a2 a3 v214 S212) ∧ ((¬ (r211 = r213)) → (0 : Int32) = 1)))) ∧ (((m_gi S a0 (x4).toNatClampNeg) &&& (63 : Int32)).toInt = 44 → M_X10_back l G a1 S (fun S215 r216 => M_X11_back l G a2 S215 (fun S217 r218 => ((r216 = r218) → ∀ v219 : Int32, v219 = x4 + (6 : Int32) → V_L_law_23 l G k n a0 a1 a2 a3 v219 S217) ∧ ((¬ (r216 = r218)) → (0 : Int32) = 1)))) ∧ (((m_gi S a0 (x4).toNatClampNeg) &&& (63 : Int32)).toInt = 45 → vp_in (x4 + (1 : Int32)) (m_ln S a0) ∧ (M_X10_count l G a1 (m_gi S a0 ((x4 + (1 : Int32))).toNatClampNeg) S (fun S220 r221 => vp_in (x4 + (1 : Int32)) (m_ln S220 a0) ∧ (M_X11_count l G a2 (m_gi S220 a0 ((x4 + (1 : Int32))).toNatClampNeg) S220 (fun S222 r223 => ((r221 = r223) → ∀ v224 : Int32, v224 = x4 + (6 : Int32) → V_L_law_23 l G k n a0 a1 a2 a3 v224 S222) ∧ ((¬ (r221 = r223)) → (0 : Int32) = 1))))))))) : V_L_law_23 l G k n a0 a1 a2 a3 x4 S := by
  obtain ⟨hkn1, hkn2⟩ := hkn
  refine mj_iload dL_law_23 rfl ?_
  refine mj_aload_n dL_law_25 rfl rfl ?_
  refine mj_alen dL_law_26 (Or.inr hk_a0) ?_
  refine mj_bipush (v := 6) dL_law_27 (by decide) ?_
  refine mj_isub dL_law_29 ?_
  refine mj_icmp_gt (tgt := 1743) dL_law_30 (by decide) ⟨fun hc => ?_, fun hc => ?_⟩
  · replace h := h.1 hc
    refine mj_iconst (v := 1) dL_law_1743 (by decide) ?_
    exact mj_lrety dL_law_1744 h (by omega) (by omega)
  · replace h := h.2 hc
    refine mj_aload_n dL_law_33 rfl rfl ?_
    refine mj_iload dL_law_34 rfl ?_
    refine mj_iald dL_law_36 (Or.inr hk_a0) ⟨h.1, ?_⟩
    replace h := h.2
    refine mj_bipush (v := 63) dL_law_37 (by decide) ?_
    refine mj_iand dL_law_39 ?_
    by_cases hlo : ((m_gi S a0 (x4).toNatClampNeg) &&& (63 : Int32)).toInt < 0 ∨ 45 < ((m_gi S a0 (x4).toNatClampNeg) &&& (63 : Int32)).toInt
    · replace h := h.1 hlo
      refine mj_tabOut (tgt := 1737) dL_law_40 hlo (by decide) ?_
      obtain ⟨v1, ev1⟩ : ∃ z : Int32, z = x4 + (6 : Int32) := ⟨_, rfl⟩
      refine mj_iinc (v := v1) dL_law_1737 rfl (by rw [ev1]; rfl) (by decide) rfl rfl ?_
      replace h := h v1 ev1
      refine mj_goto (tgt := 23) dL_law_1740 (by decide) ?_
      exact h
    · replace h := h.2
      rcases (show ((m_gi S a0 (x4).toNatClampNeg) &&& (63 : Int32)).toInt = 0 ∨ ((m_gi S a0 (x4).toNatClampNeg) &&& (63 : Int32)).toInt = 1 ∨ ((m_gi S a0 (x4).toNatClampNeg) &&& (63 : Int32)).toInt = 2 ∨ ((m_gi S a0 (x4).toNatClampNeg) &&& (63 : Int32)).toInt = 3 ∨ ((m_gi S a0 (x4).toNatClampNeg) &&& (63 : Int32)).toInt = 4 ∨ ((m_gi S a0 (x4).toNatClampNeg) &&& (63 : Int32)).toInt = 5 ∨ ((m_gi S a0 (x4).toNatClampNeg) &&& (63 : Int32)).toInt = 6 ∨ ((m_gi S a0 (x4).toNatClampNeg) &&& (63 : Int32)).toInt = 7 ∨ ((m_gi S a0 (x4).toNatClampNeg) &&& (63 : Int32)).toInt = 8 ∨ ((m_gi S a0 (x4).toNatClampNeg) &&& (63 : Int32)).toInt = 9 ∨ ((m_gi S a0 (x4).toNatClampNeg) &&& (63 : Int32)).toInt = 10 ∨ ((m_gi S a0 (x4).toNatClampNeg) &&& (63 : Int32)).toInt = 11 ∨ ((m_gi S a0 (x4).toNatClampNeg) &&& (63 : Int32)).toInt = 12 ∨ ((m_gi S a0 (x4).toNatClampNeg) &&& (63 : Int32)).toInt = 13 ∨ ((m_gi S a0 (x4).toNatClampNeg) &&& (63 : Int32)).toInt = 14 ∨ ((m_gi S a0 (x4).toNatClampNeg) &&& (63 : Int32)).toInt = 15 ∨ ((m_gi S a0 (x4).toNatClampNeg) &&& (63 : Int32)).toInt = 16 ∨ ((m_gi S a0 (x4).toNatClampNeg) &&& (63 : Int32)).toInt = 17 ∨ ((m_gi S a0 (x4).toNatClampNeg) &&& (63 : Int32)).toInt = 18 ∨ ((m_gi S a0 (x4).toNatClampNeg) &&& (63 : Int32)).toInt = 19 ∨ ((m_gi S a0 (x4).toNatClampNeg) &&& (63 : Int32)).toInt = 20 ∨ ((m_gi S a0 (x4).toNatClampNeg) &&& (63 : Int32)).toInt = 21 ∨ ((m_gi S a0 (x4).toNatClampNeg) &&& (63 : Int32)).toInt = 22 ∨ ((m_gi S a0 (x4).toNatClampNeg) &&& (63 : Int32)).toInt = 23 ∨ ((m_gi S a0 (x4).toNatClampNeg) &&& (63 : Int32)).toInt = 24 ∨ ((m_gi S a0 (x4).toNatClampNeg) &&& (63 : Int32)).toInt = 25 ∨ ((m_gi S a0 (x4).toNatClampNeg) &&& (63 : Int32)).toInt = 26 ∨ ((m_gi S a0 (x4).toNatClampNeg) &&& (63 : Int32)).toInt = 27 ∨ ((m_gi S a0 (x4).toNatClampNeg) &&& (63 : Int32)).toInt = 28 ∨ ((m_gi S a0 (x4).toNatClampNeg) &&& (63 : Int32)).toInt = 29 ∨ ((m_gi S a0 (x4).toNatClampNeg) &&& (63 : Int32)).toInt = 30 ∨ ((m_gi S a0 (x4).toNatClampNeg) &&& (63 : Int32)).toInt = 31 ∨ ((m_gi S a0 (x4).toNatClampNeg) &&& (63 : Int32)).toInt = 32 ∨ ((m_gi S a0 (x4).toNatClampNeg) &&& (63 : Int32)).toInt = 33 ∨ ((m_gi S a0 (x4).toNatClampNeg) &&& (63 : Int32)).toInt = 34 ∨ ((m_gi S a0 (x4).toNatClampNeg) &&& (63 : Int32)).toInt = 35 ∨ ((m_gi S a0 (x4).toNatClampNeg) &&& (63 : Int32)).toInt = 36 ∨ ((m_gi S a0 (x4).toNatClampNeg) &&& (63 : Int32)).toInt = 37 ∨ ((m_gi S a0 (x4).toNatClampNeg) &&& (63 : Int32)).toInt = 38 ∨ ((m_gi S a0 (x4).toNatClampNeg) &&& (63 : Int32)).toInt = 39 ∨ ((m_gi S a0 (x4).toNatClampNeg) &&& (63 : Int32)).toInt = 40 ∨ ((m_gi S a0 (x4).toNatClampNeg) &&& (63 : Int32)).toInt = 41 ∨ ((m_gi S a0 (x4).toNatClampNeg) &&& (63 : Int32)).toInt = 42 ∨ ((m_gi S a0 (x4).toNatClampNeg) &&& (63 : Int32)).toInt = 43 ∨ ((m_gi S a0 (x4).toNatClampNeg) &&& (63 : Int32)).toInt = 44 ∨ ((m_gi S a0 (x4).toNatClampNeg) &&& (63 : Int32)).toInt = 45 by omega) with e | e | e | e | e | e | e | e | e | e | e | e | e | e | e | e | e | e | e | e | e | e | e | e | e | e | e | e | e | e | e | e | e | e | e | e | e | e | e | e | e | e | e | e | e | e
      · replace h := h.1 e
        refine mj_tabIn (tgt := 240) (off := 200) dL_law_40 (by omega) (by omega) (by rw [e]; rfl) (by decide) ?_
        refine mj_aload_n dL_law_240 rfl rfl ?_
        refine mj_aload_n dL_law_241 rfl rfl ?_
        refine mj_iload dL_law_242 rfl ?_
        refine mj_iconst (v := 1) dL_law_244 (by decide) ?_
        refine mj_iadd dL_law_245 ?_
        refine mj_iald dL_law_246 (Or.inr hk_a0) ⟨h.1, ?_⟩
        replace h := h.2
        refine mj_aload_n dL_law_247 rfl rfl ?_
        refine mj_iload dL_law_248 rfl ?_
        refine mj_iconst (v := 2) dL_law_250 (by decide) ?_
        refine mj_iadd dL_law_251 ?_
        refine mj_iald dL_law_252 (Or.inr hk_a0) ⟨h.1, ?_⟩
        replace h := h.2
        refine mj_aload_n dL_law_253 rfl rfl ?_
        refine mj_iload dL_law_254 rfl ?_
        refine mj_iconst (v := 3) dL_law_256 (by decide) ?_
        refine mj_iadd dL_law_257 ?_
        refine mj_iald dL_law_258 (Or.inr hk_a0) ⟨h.1, ?_⟩
        replace h := h.2
        refine mj_aload_n dL_law_259 rfl rfl ?_
        refine mj_iload dL_law_260 rfl ?_
        refine mj_iconst (v := 4) dL_law_262 (by decide) ?_
        refine mj_iadd dL_law_263 ?_
        refine mj_iald dL_law_264 (Or.inr hk_a0) ⟨h.1, ?_⟩
        replace h := h.2
        refine mj_aload_n dL_law_265 rfl rfl ?_
        refine mj_iload dL_law_266 rfl ?_
        refine mj_iconst (v := 5) dL_law_268 (by decide) ?_
        refine mj_iadd dL_law_269 ?_
        refine mj_iald dL_law_270 (Or.inr hk_a0) ⟨h.1, ?_⟩
        replace h := h.2
        refine mj_callVi (as := [.int (m_gi S a0 ((x4 + (1 : Int32))).toNatClampNeg), .int (m_gi S a0 ((x4 + (2 : Int32))).toNatClampNeg), .int (m_gi S a0 ((x4 + (3 : Int32))).toNatClampNeg), .int (m_gi S a0 ((x4 + (4 : Int32))).toNatClampNeg), .int (m_gi S a0 ((x4 + (5 : Int32))).toNatClampNeg)]) (st := []) dL_law_271 cal_X10_feed lk_L_19 im_X10_feed se_X10_feed (ci := 9) rfl (by decide) hk_a1 h rfl (Nat.le_of_ble_eq_true rfl) (by decide) ⟨by omega, by omega⟩ (fun S2 r3 h hn_r3 hp => ?_)
        have hk_a0 : m_kd S2 a0 = 110 := m_kd_pre hp hk_a0 (by decide)
        have hk_a1 : m_kd S2 a1 = 9 := m_kd_pre hp hk_a1 (by decide)
        have hk_a2 : m_kd S2 a2 = 10 := m_kd_pre hp hk_a2 (by decide)
        have hk_a3 : m_kd S2 a3 = 102 := m_kd_pre hp hk_a3 (by decide)
        refine mj_aload_n dL_law_274 rfl rfl ?_
        refine mj_aload_n dL_law_275 rfl rfl ?_
        refine mj_iload dL_law_276 rfl ?_
        refine mj_iconst (v := 1) dL_law_278 (by decide) ?_
        refine mj_iadd dL_law_279 ?_
        refine mj_iald dL_law_280 (Or.inr hk_a0) ⟨h.1, ?_⟩
        replace h := h.2
        refine mj_aload_n dL_law_281 rfl rfl ?_
        refine mj_iload dL_law_282 rfl ?_
        refine mj_iconst (v := 2) dL_law_284 (by decide) ?_
        refine mj_iadd dL_law_285 ?_
        refine mj_iald dL_law_286 (Or.inr hk_a0) ⟨h.1, ?_⟩
        replace h := h.2
        refine mj_aload_n dL_law_287 rfl rfl ?_
        refine mj_iload dL_law_288 rfl ?_
        refine mj_iconst (v := 3) dL_law_290 (by decide) ?_
        refine mj_iadd dL_law_291 ?_
        refine mj_iald dL_law_292 (Or.inr hk_a0) ⟨h.1, ?_⟩
        replace h := h.2
        refine mj_aload_n dL_law_293 rfl rfl ?_
        refine mj_iload dL_law_294 rfl ?_
        refine mj_iconst (v := 4) dL_law_296 (by decide) ?_
        refine mj_iadd dL_law_297 ?_
        refine mj_iald dL_law_298 (Or.inr hk_a0) ⟨h.1, ?_⟩
        replace h := h.2
        refine mj_aload_n dL_law_299 rfl rfl ?_
        refine mj_iload dL_law_300 rfl ?_
        refine mj_iconst (v := 5) dL_law_302 (by decide) ?_
        refine mj_iadd dL_law_303 ?_
        refine mj_iald dL_law_304 (Or.inr hk_a0) ⟨h.1, ?_⟩
        replace h := h.2
        refine mj_callVi (as := [.int (m_gi S2 a0 ((x4 + (1 : Int32))).toNatClampNeg), .int (m_gi S2 a0 ((x4 + (2 : Int32))).toNatClampNeg), .int (m_gi S2 a0 ((x4 + (3 : Int32))).toNatClampNeg), .int (m_gi S2 a0 ((x4 + (4 : Int32))).toNatClampNeg), .int (m_gi S2 a0 ((x4 + (5 : Int32))).toNatClampNeg)]) (st := [.int r3]) dL_law_305 cal_X11_feed lk_L_23 im_X11_feed se_X11_feed (ci := 10) rfl (by decide) hk_a2 h rfl (Nat.le_of_ble_eq_true rfl) (by decide) ⟨by omega, by omega⟩ (fun S4 r5 h hn_r5 hp => ?_)
        have hk_a0 : m_kd S4 a0 = 110 := m_kd_pre hp hk_a0 (by decide)
        have hk_a1 : m_kd S4 a1 = 9 := m_kd_pre hp hk_a1 (by decide)
        have hk_a2 : m_kd S4 a2 = 10 := m_kd_pre hp hk_a2 (by decide)
        have hk_a3 : m_kd S4 a3 = 102 := m_kd_pre hp hk_a3 (by decide)
        refine mj_icmp_eq (tgt := 1737) dL_law_308 (by decide) ⟨fun hc => ?_, fun hc => ?_⟩
        · replace h := h.1 hc
          obtain ⟨v6, ev6⟩ : ∃ z : Int32, z = x4 + (6 : Int32) := ⟨_, rfl⟩
          refine mj_iinc (v := v6) dL_law_1737 rfl (by rw [ev6]; rfl) (by decide) rfl rfl ?_
          replace h := h v6 ev6
          refine mj_goto (tgt := 23) dL_law_1740 (by decide) ?_
          exact h
        · replace h := h.2 hc
          refine mj_iconst (v := 0) dL_law_311 (by decide) ?_
          exact mj_lrety dL_law_312 h (by omega) (by omega)
      · replace h := h.2.1 e
        refine mj_tabIn (tgt := 313) (off := 273) dL_law_40 (by omega) (by omega) (by rw [e]; rfl) (by decide) ?_
        refine mj_aload_n dL_law_313 rfl rfl ?_
        refine mj_aload_n dL_law_314 rfl rfl ?_
        refine mj_iload dL_law_315 rfl ?_
        refine mj_iconst (v := 1) dL_law_317 (by decide) ?_
        refine mj_iadd dL_law_318 ?_
        refine mj_iald dL_law_319 (Or.inr hk_a0) ⟨h.1, ?_⟩
        replace h := h.2
        refine mj_callVi (as := [.int (m_gi S a0 ((x4 + (1 : Int32))).toNatClampNeg)]) (st := []) dL_law_320 cal_X10_end lk_L_24 im_X10_end se_X10_end (ci := 9) rfl (by decide) hk_a1 h rfl (Nat.le_of_ble_eq_true rfl) (by decide) ⟨by omega, by omega⟩ (fun S7 r8 h hn_r8 hp => ?_)
        have hk_a0 : m_kd S7 a0 = 110 := m_kd_pre hp hk_a0 (by decide)
        have hk_a1 : m_kd S7 a1 = 9 := m_kd_pre hp hk_a1 (by decide)
        have hk_a2 : m_kd S7 a2 = 10 := m_kd_pre hp hk_a2 (by decide)
        have hk_a3 : m_kd S7 a3 = 102 := m_kd_pre hp hk_a3 (by decide)
        refine mj_aload_n dL_law_323 rfl rfl ?_
        refine mj_aload_n dL_law_324 rfl rfl ?_
        refine mj_iload dL_law_325 rfl ?_
        refine mj_iconst (v := 1) dL_law_327 (by decide) ?_
        refine mj_iadd dL_law_328 ?_
        refine mj_iald dL_law_329 (Or.inr hk_a0) ⟨h.1, ?_⟩
        replace h := h.2
        refine mj_callVi (as := [.int (m_gi S7 a0 ((x4 + (1 : Int32))).toNatClampNeg)]) (st := [.int r8]) dL_law_330 cal_X11_end lk_L_28 im_X11_end se_X11_end (ci := 10) rfl (by decide) hk_a2 h rfl (Nat.le_of_ble_eq_true rfl) (by decide) ⟨by omega, by omega⟩ (fun S9 r10 h hn_r10 hp => ?_)
        have hk_a0 : m_kd S9 a0 = 110 := m_kd_pre hp hk_a0 (by decide)
        have hk_a1 : m_kd S9 a1 = 9 := m_kd_pre hp hk_a1 (by decide)
        have hk_a2 : m_kd S9 a2 = 10 := m_kd_pre hp hk_a2 (by decide)
        have hk_a3 : m_kd S9 a3 = 102 := m_kd_pre hp hk_a3 (by decide)
        refine mj_icmp_eq (tgt := 1737) dL_law_333 (by decide) ⟨fun hc => ?_, fun hc => ?_⟩
        · replace h := h.1 hc
          obtain ⟨v11, ev11⟩ : ∃ z : Int32, z = x4 + (6 : Int32) := ⟨_, rfl⟩
          refine mj_iinc (v := v11) dL_law_1737 rfl (by rw [ev11]; rfl) (by decide) rfl rfl ?_
          replace h := h v11 ev11
          refine mj_goto (tgt := 23) dL_law_1740 (by decide) ?_
          exact h
        · replace h := h.2 hc
          refine mj_iconst (v := 0) dL_law_336 (by decide) ?_
          exact mj_lrety dL_law_337 h (by omega) (by omega)
      · replace h := h.2.2.1 e
        refine mj_tabIn (tgt := 338) (off := 298) dL_law_40 (by omega) (by omega) (by rw [e]; rfl) (by decide) ?_
        refine mj_aload_n dL_law_338 rfl rfl ?_
        refine mj_aload_n dL_law_339 rfl rfl ?_
        refine mj_iload dL_law_340 rfl ?_
        refine mj_iconst (v := 1) dL_law_342 (by decide) ?_
        refine mj_iadd dL_law_343 ?_
        refine mj_iald dL_law_344 (Or.inr hk_a0) ⟨h.1, ?_⟩
        replace h := h.2
        refine mj_callVi (as := [.int (m_gi S a0 ((x4 + (1 : Int32))).toNatClampNeg)]) (st := []) dL_law_345 cal_X10_fault lk_L_29 im_X10_fault se_X10_fault (ci := 9) rfl (by decide) hk_a1 h rfl (Nat.le_of_ble_eq_true rfl) (by decide) ⟨by omega, by omega⟩ (fun S12 r13 h hn_r13 hp => ?_)
        have hk_a0 : m_kd S12 a0 = 110 := m_kd_pre hp hk_a0 (by decide)
        have hk_a1 : m_kd S12 a1 = 9 := m_kd_pre hp hk_a1 (by decide)
        have hk_a2 : m_kd S12 a2 = 10 := m_kd_pre hp hk_a2 (by decide)
        have hk_a3 : m_kd S12 a3 = 102 := m_kd_pre hp hk_a3 (by decide)
        refine mj_aload_n dL_law_348 rfl rfl ?_
        refine mj_aload_n dL_law_349 rfl rfl ?_
        refine mj_iload dL_law_350 rfl ?_
        refine mj_iconst (v := 1) dL_law_352 (by decide) ?_
        refine mj_iadd dL_law_353 ?_
        refine mj_iald dL_law_354 (Or.inr hk_a0) ⟨h.1, ?_⟩
        replace h := h.2
        refine mj_callVi (as := [.int (m_gi S12 a0 ((x4 + (1 : Int32))).toNatClampNeg)]) (st := [.int r13]) dL_law_355 cal_X11_fault lk_L_33 im_X11_fault se_X11_fault (ci := 10) rfl (by decide) hk_a2 h rfl (Nat.le_of_ble_eq_true rfl) (by decide) ⟨by omega, by omega⟩ (fun S14 r15 h hn_r15 hp => ?_)
        have hk_a0 : m_kd S14 a0 = 110 := m_kd_pre hp hk_a0 (by decide)
        have hk_a1 : m_kd S14 a1 = 9 := m_kd_pre hp hk_a1 (by decide)
        have hk_a2 : m_kd S14 a2 = 10 := m_kd_pre hp hk_a2 (by decide)
        have hk_a3 : m_kd S14 a3 = 102 := m_kd_pre hp hk_a3 (by decide)
        refine mj_icmp_eq (tgt := 1737) dL_law_358 (by decide) ⟨fun hc => ?_, fun hc => ?_⟩
        · replace h := h.1 hc
          obtain ⟨v16, ev16⟩ : ∃ z : Int32, z = x4 + (6 : Int32) := ⟨_, rfl⟩
          refine mj_iinc (v := v16) dL_law_1737 rfl (by rw [ev16]; rfl) (by decide) rfl rfl ?_
          replace h := h v16 ev16
          refine mj_goto (tgt := 23) dL_law_1740 (by decide) ?_
          exact h
        · replace h := h.2 hc
          refine mj_iconst (v := 0) dL_law_361 (by decide) ?_
          exact mj_lrety dL_law_362 h (by omega) (by omega)
      · replace h := h.2.2.2.1 e
        refine mj_tabIn (tgt := 363) (off := 323) dL_law_40 (by omega) (by omega) (by rw [e]; rfl) (by decide) ?_
        refine mj_aload_n dL_law_363 rfl rfl ?_
        refine mj_aload_n dL_law_364 rfl rfl ?_
        refine mj_iload dL_law_365 rfl ?_
        refine mj_iconst (v := 1) dL_law_367 (by decide) ?_
        refine mj_iadd dL_law_368 ?_
        refine mj_iald dL_law_369 (Or.inr hk_a0) ⟨h.1, ?_⟩
        replace h := h.2
        refine mj_callVi (as := [.int (m_gi S a0 ((x4 + (1 : Int32))).toNatClampNeg)]) (st := []) dL_law_370 cal_X10_text lk_L_34 im_X10_text se_X10_text (ci := 9) rfl (by decide) hk_a1 h rfl (Nat.le_of_ble_eq_true rfl) (by decide) ⟨by omega, by omega⟩ (fun S17 r18 h hn_r18 hp => ?_)
        have hk_a0 : m_kd S17 a0 = 110 := m_kd_pre hp hk_a0 (by decide)
        have hk_a1 : m_kd S17 a1 = 9 := m_kd_pre hp hk_a1 (by decide)
        have hk_a2 : m_kd S17 a2 = 10 := m_kd_pre hp hk_a2 (by decide)
        have hk_a3 : m_kd S17 a3 = 102 := m_kd_pre hp hk_a3 (by decide)
        refine mj_aload_n dL_law_373 rfl rfl ?_
        refine mj_aload_n dL_law_374 rfl rfl ?_
        refine mj_iload dL_law_375 rfl ?_
        refine mj_iconst (v := 1) dL_law_377 (by decide) ?_
        refine mj_iadd dL_law_378 ?_
        refine mj_iald dL_law_379 (Or.inr hk_a0) ⟨h.1, ?_⟩
        replace h := h.2
        refine mj_callVi (as := [.int (m_gi S17 a0 ((x4 + (1 : Int32))).toNatClampNeg)]) (st := [.int r18]) dL_law_380 cal_X11_text lk_L_37 im_X11_text se_X11_text (ci := 10) rfl (by decide) hk_a2 h rfl (Nat.le_of_ble_eq_true rfl) (by decide) ⟨by omega, by omega⟩ (fun S19 r20 h hn_r20 hp => ?_)
        have hk_a0 : m_kd S19 a0 = 110 := m_kd_pre hp hk_a0 (by decide)
        have hk_a1 : m_kd S19 a1 = 9 := m_kd_pre hp hk_a1 (by decide)
        have hk_a2 : m_kd S19 a2 = 10 := m_kd_pre hp hk_a2 (by decide)
        have hk_a3 : m_kd S19 a3 = 102 := m_kd_pre hp hk_a3 (by decide)
        refine mj_icmp_eq (tgt := 1737) dL_law_383 (by decide) ⟨fun hc => ?_, fun hc => ?_⟩
        · replace h := h.1 hc
          obtain ⟨v21, ev21⟩ : ∃ z : Int32, z = x4 + (6 : Int32) := ⟨_, rfl⟩
          refine mj_iinc (v := v21) dL_law_1737 rfl (by rw [ev21]; rfl) (by decide) rfl rfl ?_
          replace h := h v21 ev21
          refine mj_goto (tgt := 23) dL_law_1740 (by decide) ?_
          exact h
        · replace h := h.2 hc
          refine mj_iconst (v := 0) dL_law_386 (by decide) ?_
          exact mj_lrety dL_law_387 h (by omega) (by omega)
      · replace h := h.2.2.2.2.1 e
        refine mj_tabIn (tgt := 388) (off := 348) dL_law_40 (by omega) (by omega) (by rw [e]; rfl) (by decide) ?_
        refine mj_aload_n dL_law_388 rfl rfl ?_
        refine mj_aload_n dL_law_389 rfl rfl ?_
        refine mj_iload dL_law_390 rfl ?_
        refine mj_iconst (v := 1) dL_law_392 (by decide) ?_
        refine mj_iadd dL_law_393 ?_
        refine mj_iald dL_law_394 (Or.inr hk_a0) ⟨h.1, ?_⟩
        replace h := h.2
        refine mj_callVi (as := [.int (m_gi S a0 ((x4 + (1 : Int32))).toNatClampNeg)]) (st := []) dL_law_395 cal_X10_rule lk_L_38 im_X10_rule se_X10_rule (ci := 9) rfl (by decide) hk_a1 h rfl (Nat.le_of_ble_eq_true rfl) (by decide) ⟨by omega, by omega⟩ (fun S22 r23 h hn_r23 hp => ?_)
        have hk_a0 : m_kd S22 a0 = 110 := m_kd_pre hp hk_a0 (by decide)
        have hk_a1 : m_kd S22 a1 = 9 := m_kd_pre hp hk_a1 (by decide)
        have hk_a2 : m_kd S22 a2 = 10 := m_kd_pre hp hk_a2 (by decide)
        have hk_a3 : m_kd S22 a3 = 102 := m_kd_pre hp hk_a3 (by decide)
        refine mj_aload_n dL_law_398 rfl rfl ?_
        refine mj_aload_n dL_law_399 rfl rfl ?_
        refine mj_iload dL_law_400 rfl ?_
        refine mj_iconst (v := 1) dL_law_402 (by decide) ?_
        refine mj_iadd dL_law_403 ?_
        refine mj_iald dL_law_404 (Or.inr hk_a0) ⟨h.1, ?_⟩
        replace h := h.2
        refine mj_callVi (as := [.int (m_gi S22 a0 ((x4 + (1 : Int32))).toNatClampNeg)]) (st := [.int r23]) dL_law_405 cal_X11_rule lk_L_41 im_X11_rule se_X11_rule (ci := 10) rfl (by decide) hk_a2 h rfl (Nat.le_of_ble_eq_true rfl) (by decide) ⟨by omega, by omega⟩ (fun S24 r25 h hn_r25 hp => ?_)
        have hk_a0 : m_kd S24 a0 = 110 := m_kd_pre hp hk_a0 (by decide)
        have hk_a1 : m_kd S24 a1 = 9 := m_kd_pre hp hk_a1 (by decide)
        have hk_a2 : m_kd S24 a2 = 10 := m_kd_pre hp hk_a2 (by decide)
        have hk_a3 : m_kd S24 a3 = 102 := m_kd_pre hp hk_a3 (by decide)
        refine mj_icmp_eq (tgt := 1737) dL_law_408 (by decide) ⟨fun hc => ?_, fun hc => ?_⟩
        · replace h := h.1 hc
          obtain ⟨v26, ev26⟩ : ∃ z : Int32, z = x4 + (6 : Int32) := ⟨_, rfl⟩
          refine mj_iinc (v := v26) dL_law_1737 rfl (by rw [ev26]; rfl) (by decide) rfl rfl ?_
          replace h := h v26 ev26
          refine mj_goto (tgt := 23) dL_law_1740 (by decide) ?_
          exact h
        · replace h := h.2 hc
          refine mj_iconst (v := 0) dL_law_411 (by decide) ?_
          exact mj_lrety dL_law_412 h (by omega) (by omega)
      · replace h := h.2.2.2.2.2.1 e
        refine mj_tabIn (tgt := 413) (off := 373) dL_law_40 (by omega) (by omega) (by rw [e]; rfl) (by decide) ?_
        refine mj_aload_n dL_law_413 rfl rfl ?_
        refine mj_aload_n dL_law_414 rfl rfl ?_
        refine mj_iload dL_law_415 rfl ?_
        refine mj_iconst (v := 1) dL_law_417 (by decide) ?_
        refine mj_iadd dL_law_418 ?_
        refine mj_iald dL_law_419 (Or.inr hk_a0) ⟨h.1, ?_⟩
        replace h := h.2
        refine mj_aload_n dL_law_420 rfl rfl ?_
        refine mj_iload dL_law_421 rfl ?_
        refine mj_iconst (v := 2) dL_law_423 (by decide) ?_
        refine mj_iadd dL_law_424 ?_
        refine mj_iald dL_law_425 (Or.inr hk_a0) ⟨h.1, ?_⟩
        replace h := h.2
        refine mj_callVi (as := [.int (m_gi S a0 ((x4 + (1 : Int32))).toNatClampNeg), .int (m_gi S a0 ((x4 + (2 : Int32))).toNatClampNeg)]) (st := []) dL_law_426 cal_X10_curtain lk_L_42 im_X10_curtain se_X10_curtain (ci := 9) rfl (by decide) hk_a1 h rfl (Nat.le_of_ble_eq_true rfl) (by decide) ⟨by omega, by omega⟩ (fun S27 r28 h hn_r28 hp => ?_)
        have hk_a0 : m_kd S27 a0 = 110 := m_kd_pre hp hk_a0 (by decide)
        have hk_a1 : m_kd S27 a1 = 9 := m_kd_pre hp hk_a1 (by decide)
        have hk_a2 : m_kd S27 a2 = 10 := m_kd_pre hp hk_a2 (by decide)
        have hk_a3 : m_kd S27 a3 = 102 := m_kd_pre hp hk_a3 (by decide)
        refine mj_aload_n dL_law_429 rfl rfl ?_
        refine mj_aload_n dL_law_430 rfl rfl ?_
        refine mj_iload dL_law_431 rfl ?_
        refine mj_iconst (v := 1) dL_law_433 (by decide) ?_
        refine mj_iadd dL_law_434 ?_
        refine mj_iald dL_law_435 (Or.inr hk_a0) ⟨h.1, ?_⟩
        replace h := h.2
        refine mj_aload_n dL_law_436 rfl rfl ?_
        refine mj_iload dL_law_437 rfl ?_
        refine mj_iconst (v := 2) dL_law_439 (by decide) ?_
        refine mj_iadd dL_law_440 ?_
        refine mj_iald dL_law_441 (Or.inr hk_a0) ⟨h.1, ?_⟩
        replace h := h.2
        refine mj_callVi (as := [.int (m_gi S27 a0 ((x4 + (1 : Int32))).toNatClampNeg), .int (m_gi S27 a0 ((x4 + (2 : Int32))).toNatClampNeg)]) (st := [.int r28]) dL_law_442 cal_X11_curtain lk_L_45 im_X11_curtain se_X11_curtain (ci := 10) rfl (by decide) hk_a2 h rfl (Nat.le_of_ble_eq_true rfl) (by decide) ⟨by omega, by omega⟩ (fun S29 r30 h hn_r30 hp => ?_)
        have hk_a0 : m_kd S29 a0 = 110 := m_kd_pre hp hk_a0 (by decide)
        have hk_a1 : m_kd S29 a1 = 9 := m_kd_pre hp hk_a1 (by decide)
        have hk_a2 : m_kd S29 a2 = 10 := m_kd_pre hp hk_a2 (by decide)
        have hk_a3 : m_kd S29 a3 = 102 := m_kd_pre hp hk_a3 (by decide)
        refine mj_icmp_eq (tgt := 1737) dL_law_445 (by decide) ⟨fun hc => ?_, fun hc => ?_⟩
        · replace h := h.1 hc
          obtain ⟨v31, ev31⟩ : ∃ z : Int32, z = x4 + (6 : Int32) := ⟨_, rfl⟩
          refine mj_iinc (v := v31) dL_law_1737 rfl (by rw [ev31]; rfl) (by decide) rfl rfl ?_
          replace h := h v31 ev31
          refine mj_goto (tgt := 23) dL_law_1740 (by decide) ?_
          exact h
        · replace h := h.2 hc
          refine mj_iconst (v := 0) dL_law_448 (by decide) ?_
          exact mj_lrety dL_law_449 h (by omega) (by omega)
      · replace h := h.2.2.2.2.2.2.1 e
        refine mj_tabIn (tgt := 450) (off := 410) dL_law_40 (by omega) (by omega) (by rw [e]; rfl) (by decide) ?_
        refine mj_aload_n dL_law_450 rfl rfl ?_
        refine mj_aload_n dL_law_451 rfl rfl ?_
        refine mj_iload dL_law_452 rfl ?_
        refine mj_iconst (v := 1) dL_law_454 (by decide) ?_
        refine mj_iadd dL_law_455 ?_
        refine mj_iald dL_law_456 (Or.inr hk_a0) ⟨h.1, ?_⟩
        replace h := h.2
        refine mj_aload_n dL_law_457 rfl rfl ?_
        refine mj_iload dL_law_458 rfl ?_
        refine mj_iconst (v := 2) dL_law_460 (by decide) ?_
        refine mj_iadd dL_law_461 ?_
        refine mj_iald dL_law_462 (Or.inr hk_a0) ⟨h.1, ?_⟩
        replace h := h.2
        refine mj_aload_n dL_law_463 rfl rfl ?_
        refine mj_callPi (as := [.ref a1, .int (m_gi S a0 ((x4 + (1 : Int32))).toNatClampNeg), .int (m_gi S a0 ((x4 + (2 : Int32))).toNatClampNeg), .ref a3]) (st := []) dL_law_464 h rfl (Nat.le_of_ble_eq_true rfl) (by decide) ⟨by omega, by omega⟩ (fun S32 r33 h hn_r33 hp => ?_)
        have hk_a0 : m_kd S32 a0 = 110 := m_kd_pre hp hk_a0 (by decide)
        have hk_a1 : m_kd S32 a1 = 9 := m_kd_pre hp hk_a1 (by decide)
        have hk_a2 : m_kd S32 a2 = 10 := m_kd_pre hp hk_a2 (by decide)
        have hk_a3 : m_kd S32 a3 = 102 := m_kd_pre hp hk_a3 (by decide)
        refine mj_istore dL_law_467 (by decide) rfl rfl ?_
        refine mj_aload_n dL_law_469 rfl rfl ?_
        refine mj_aload_n dL_law_470 rfl rfl ?_
        refine mj_iload dL_law_471 rfl ?_
        refine mj_iconst (v := 1) dL_law_473 (by decide) ?_
        refine mj_iadd dL_law_474 ?_
        refine mj_iald dL_law_475 (Or.inr hk_a0) ⟨h.1, ?_⟩
        replace h := h.2
        refine mj_aload_n dL_law_476 rfl rfl ?_
        refine mj_iload dL_law_477 rfl ?_
        refine mj_iconst (v := 2) dL_law_479 (by decide) ?_
        refine mj_iadd dL_law_480 ?_
        refine mj_iald dL_law_481 (Or.inr hk_a0) ⟨h.1, ?_⟩
        replace h := h.2
        refine mj_callVi (as := [.int (m_gi S32 a0 ((x4 + (1 : Int32))).toNatClampNeg), .int (m_gi S32 a0 ((x4 + (2 : Int32))).toNatClampNeg)]) (st := []) dL_law_482 cal_X11_person lk_L_51 im_X11_person se_X11_person (ci := 10) rfl (by decide) hk_a2 h rfl (Nat.le_of_ble_eq_true rfl) (by decide) ⟨by omega, by omega⟩ (fun S34 r35 h hn_r35 hp => ?_)
        have hk_a0 : m_kd S34 a0 = 110 := m_kd_pre hp hk_a0 (by decide)
        have hk_a1 : m_kd S34 a1 = 9 := m_kd_pre hp hk_a1 (by decide)
        have hk_a2 : m_kd S34 a2 = 10 := m_kd_pre hp hk_a2 (by decide)
        have hk_a3 : m_kd S34 a3 = 102 := m_kd_pre hp hk_a3 (by decide)
        refine mj_istore dL_law_485 (by decide) rfl rfl ?_
        refine mj_aload_n dL_law_487 rfl rfl ?_
        refine mj_callVi (as := []) (st := []) dL_law_488 cal_X11_thrown lk_L_52 im_X11_thrown se_X11_thrown (ci := 10) rfl (by decide) hk_a2 h rfl (Nat.le_of_ble_eq_true rfl) (by decide) ⟨by omega, by omega⟩ (fun S36 r37 h hn_r37 hp => ?_)
        have hk_a0 : m_kd S36 a0 = 110 := m_kd_pre hp hk_a0 (by decide)
        have hk_a1 : m_kd S36 a1 = 9 := m_kd_pre hp hk_a1 (by decide)
        have hk_a2 : m_kd S36 a2 = 10 := m_kd_pre hp hk_a2 (by decide)
        have hk_a3 : m_kd S36 a3 = 102 := m_kd_pre hp hk_a3 (by decide)
        refine mj_iload dL_law_491 rfl ?_
        refine mj_icmp_eq (tgt := 498) dL_law_493 (by decide) ⟨fun hc => ?_, fun hc => ?_⟩
        · replace h := h.1 hc
          refine mj_iload dL_law_498 rfl ?_
          refine mj_if_ne (tgt := 515) dL_law_500 (by decide) ⟨fun hc => ?_, fun hc => ?_⟩
          · replace h := h.1 hc
            refine mj_goto (tgt := 1737) dL_law_515 (by decide) ?_
            obtain ⟨v38, ev38⟩ : ∃ z : Int32, z = x4 + (6 : Int32) := ⟨_, rfl⟩
            refine mj_iinc (v := v38) dL_law_1737 rfl (by rw [ev38]; rfl) (by decide) rfl rfl ?_
            replace h := h v38 ev38
            refine mj_goto (tgt := 23) dL_law_1740 (by decide) ?_
            exact mj_lessm [true, true, true, true, true, false, false] rfl h
          · replace h := h.2 hc
            refine mj_aload_n dL_law_503 rfl rfl ?_
            refine mj_iconst (v := 0) dL_law_504 (by decide) ?_
            refine mj_lald dL_law_505 hk_a3 ⟨h.1, ?_⟩
            replace h := h.2
            refine mj_iload dL_law_506 rfl ?_
            refine mj_i2l dL_law_508 ?_
            refine mj_lcmp dL_law_509 ?_
            refine mj_if_eq (tgt := 515) dL_law_510 (by decide) ⟨fun hc => ?_, fun hc => ?_⟩
            · replace h := h.1 hc
              refine mj_goto (tgt := 1737) dL_law_515 (by decide) ?_
              obtain ⟨v39, ev39⟩ : ∃ z : Int32, z = x4 + (6 : Int32) := ⟨_, rfl⟩
              refine mj_iinc (v := v39) dL_law_1737 rfl (by rw [ev39]; rfl) (by decide) rfl rfl ?_
              replace h := h v39 ev39
              refine mj_goto (tgt := 23) dL_law_1740 (by decide) ?_
              exact mj_lessm [true, true, true, true, true, false, false] rfl h
            · replace h := h.2 hc
              refine mj_iconst (v := 0) dL_law_513 (by decide) ?_
              exact mj_lrety dL_law_514 h (by omega) (by omega)
        · replace h := h.2 hc
          refine mj_iconst (v := 0) dL_law_496 (by decide) ?_
          exact mj_lrety dL_law_497 h (by omega) (by omega)
      · replace h := h.2.2.2.2.2.2.2.1 e
        refine mj_tabIn (tgt := 518) (off := 478) dL_law_40 (by omega) (by omega) (by rw [e]; rfl) (by decide) ?_
        refine mj_aload_n dL_law_518 rfl rfl ?_
        refine mj_aload_n dL_law_519 rfl rfl ?_
        refine mj_iload dL_law_520 rfl ?_
        refine mj_iconst (v := 1) dL_law_522 (by decide) ?_
        refine mj_iadd dL_law_523 ?_
        refine mj_iald dL_law_524 (Or.inr hk_a0) ⟨h.1, ?_⟩
        replace h := h.2
        refine mj_callVi (as := [.int (m_gi S a0 ((x4 + (1 : Int32))).toNatClampNeg)]) (st := []) dL_law_525 cal_X10_law lk_L_56 im_X10_law se_X10_law (ci := 9) rfl (by decide) hk_a1 h rfl (Nat.le_of_ble_eq_true rfl) (by decide) ⟨by omega, by omega⟩ (fun S40 r41 h hn_r41 hp => ?_)
        have hk_a0 : m_kd S40 a0 = 110 := m_kd_pre hp hk_a0 (by decide)
        have hk_a1 : m_kd S40 a1 = 9 := m_kd_pre hp hk_a1 (by decide)
        have hk_a2 : m_kd S40 a2 = 10 := m_kd_pre hp hk_a2 (by decide)
        have hk_a3 : m_kd S40 a3 = 102 := m_kd_pre hp hk_a3 (by decide)
        refine mj_aload_n dL_law_528 rfl rfl ?_
        refine mj_aload_n dL_law_529 rfl rfl ?_
        refine mj_iload dL_law_530 rfl ?_
        refine mj_iconst (v := 1) dL_law_532 (by decide) ?_
        refine mj_iadd dL_law_533 ?_
        refine mj_iald dL_law_534 (Or.inr hk_a0) ⟨h.1, ?_⟩
        replace h := h.2
        refine mj_callVi (as := [.int (m_gi S40 a0 ((x4 + (1 : Int32))).toNatClampNeg)]) (st := [.int r41]) dL_law_535 cal_X11_law lk_L_59 im_X11_law se_X11_law (ci := 10) rfl (by decide) hk_a2 h rfl (Nat.le_of_ble_eq_true rfl) (by decide) ⟨by omega, by omega⟩ (fun S42 r43 h hn_r43 hp => ?_)
        have hk_a0 : m_kd S42 a0 = 110 := m_kd_pre hp hk_a0 (by decide)
        have hk_a1 : m_kd S42 a1 = 9 := m_kd_pre hp hk_a1 (by decide)
        have hk_a2 : m_kd S42 a2 = 10 := m_kd_pre hp hk_a2 (by decide)
        have hk_a3 : m_kd S42 a3 = 102 := m_kd_pre hp hk_a3 (by decide)
        refine mj_icmp_eq (tgt := 1737) dL_law_538 (by decide) ⟨fun hc => ?_, fun hc => ?_⟩
        · replace h := h.1 hc
          obtain ⟨v44, ev44⟩ : ∃ z : Int32, z = x4 + (6 : Int32) := ⟨_, rfl⟩
          refine mj_iinc (v := v44) dL_law_1737 rfl (by rw [ev44]; rfl) (by decide) rfl rfl ?_
          replace h := h v44 ev44
          refine mj_goto (tgt := 23) dL_law_1740 (by decide) ?_
          exact h
        · replace h := h.2 hc
          refine mj_iconst (v := 0) dL_law_541 (by decide) ?_
          exact mj_lrety dL_law_542 h (by omega) (by omega)
      · replace h := h.2.2.2.2.2.2.2.2.1 e
        refine mj_tabIn (tgt := 543) (off := 503) dL_law_40 (by omega) (by omega) (by rw [e]; rfl) (by decide) ?_
        refine mj_aload_n dL_law_543 rfl rfl ?_
        refine mj_aload_n dL_law_544 rfl rfl ?_
        refine mj_iload dL_law_545 rfl ?_
        refine mj_iconst (v := 1) dL_law_547 (by decide) ?_
        refine mj_iadd dL_law_548 ?_
        refine mj_iald dL_law_549 (Or.inr hk_a0) ⟨h.1, ?_⟩
        replace h := h.2
        refine mj_callVi (as := [.int (m_gi S a0 ((x4 + (1 : Int32))).toNatClampNeg)]) (st := []) dL_law_550 cal_X10_state lk_L_60 im_X10_state se_X10_state (ci := 9) rfl (by decide) hk_a1 h rfl (Nat.le_of_ble_eq_true rfl) (by decide) ⟨by omega, by omega⟩ (fun S45 r46 h hn_r46 hp => ?_)
        have hk_a0 : m_kd S45 a0 = 110 := m_kd_pre hp hk_a0 (by decide)
        have hk_a1 : m_kd S45 a1 = 9 := m_kd_pre hp hk_a1 (by decide)
        have hk_a2 : m_kd S45 a2 = 10 := m_kd_pre hp hk_a2 (by decide)
        have hk_a3 : m_kd S45 a3 = 102 := m_kd_pre hp hk_a3 (by decide)
        refine mj_aload_n dL_law_553 rfl rfl ?_
        refine mj_aload_n dL_law_554 rfl rfl ?_
        refine mj_iload dL_law_555 rfl ?_
        refine mj_iconst (v := 1) dL_law_557 (by decide) ?_
        refine mj_iadd dL_law_558 ?_
        refine mj_iald dL_law_559 (Or.inr hk_a0) ⟨h.1, ?_⟩
        replace h := h.2
        refine mj_callVi (as := [.int (m_gi S45 a0 ((x4 + (1 : Int32))).toNatClampNeg)]) (st := [.int r46]) dL_law_560 cal_X11_state lk_L_63 im_X11_state se_X11_state (ci := 10) rfl (by decide) hk_a2 h rfl (Nat.le_of_ble_eq_true rfl) (by decide) ⟨by omega, by omega⟩ (fun S47 r48 h hn_r48 hp => ?_)
        have hk_a0 : m_kd S47 a0 = 110 := m_kd_pre hp hk_a0 (by decide)
        have hk_a1 : m_kd S47 a1 = 9 := m_kd_pre hp hk_a1 (by decide)
        have hk_a2 : m_kd S47 a2 = 10 := m_kd_pre hp hk_a2 (by decide)
        have hk_a3 : m_kd S47 a3 = 102 := m_kd_pre hp hk_a3 (by decide)
        refine mj_icmp_eq (tgt := 1737) dL_law_563 (by decide) ⟨fun hc => ?_, fun hc => ?_⟩
        · replace h := h.1 hc
          obtain ⟨v49, ev49⟩ : ∃ z : Int32, z = x4 + (6 : Int32) := ⟨_, rfl⟩
          refine mj_iinc (v := v49) dL_law_1737 rfl (by rw [ev49]; rfl) (by decide) rfl rfl ?_
          replace h := h v49 ev49
          refine mj_goto (tgt := 23) dL_law_1740 (by decide) ?_
          exact h
        · replace h := h.2 hc
          refine mj_iconst (v := 0) dL_law_566 (by decide) ?_
          exact mj_lrety dL_law_567 h (by omega) (by omega)
      · replace h := h.2.2.2.2.2.2.2.2.2.1 e
        refine mj_tabIn (tgt := 568) (off := 528) dL_law_40 (by omega) (by omega) (by rw [e]; rfl) (by decide) ?_
        refine mj_aload_n dL_law_568 rfl rfl ?_
        refine mj_aload_n dL_law_569 rfl rfl ?_
        refine mj_iload dL_law_570 rfl ?_
        refine mj_iconst (v := 1) dL_law_572 (by decide) ?_
        refine mj_iadd dL_law_573 ?_
        refine mj_iald dL_law_574 (Or.inr hk_a0) ⟨h.1, ?_⟩
        replace h := h.2
        refine mj_callVi (as := [.int (m_gi S a0 ((x4 + (1 : Int32))).toNatClampNeg)]) (st := []) dL_law_575 cal_X10_lord lk_L_64 im_X10_lord se_X10_lord (ci := 9) rfl (by decide) hk_a1 h rfl (Nat.le_of_ble_eq_true rfl) (by decide) ⟨by omega, by omega⟩ (fun S50 r51 h hn_r51 hp => ?_)
        have hk_a0 : m_kd S50 a0 = 110 := m_kd_pre hp hk_a0 (by decide)
        have hk_a1 : m_kd S50 a1 = 9 := m_kd_pre hp hk_a1 (by decide)
        have hk_a2 : m_kd S50 a2 = 10 := m_kd_pre hp hk_a2 (by decide)
        have hk_a3 : m_kd S50 a3 = 102 := m_kd_pre hp hk_a3 (by decide)
        refine mj_aload_n dL_law_578 rfl rfl ?_
        refine mj_aload_n dL_law_579 rfl rfl ?_
        refine mj_iload dL_law_580 rfl ?_
        refine mj_iconst (v := 1) dL_law_582 (by decide) ?_
        refine mj_iadd dL_law_583 ?_
        refine mj_iald dL_law_584 (Or.inr hk_a0) ⟨h.1, ?_⟩
        replace h := h.2
        refine mj_callVi (as := [.int (m_gi S50 a0 ((x4 + (1 : Int32))).toNatClampNeg)]) (st := [.int r51]) dL_law_585 cal_X11_lord lk_L_67 im_X11_lord se_X11_lord (ci := 10) rfl (by decide) hk_a2 h rfl (Nat.le_of_ble_eq_true rfl) (by decide) ⟨by omega, by omega⟩ (fun S52 r53 h hn_r53 hp => ?_)
        have hk_a0 : m_kd S52 a0 = 110 := m_kd_pre hp hk_a0 (by decide)
        have hk_a1 : m_kd S52 a1 = 9 := m_kd_pre hp hk_a1 (by decide)
        have hk_a2 : m_kd S52 a2 = 10 := m_kd_pre hp hk_a2 (by decide)
        have hk_a3 : m_kd S52 a3 = 102 := m_kd_pre hp hk_a3 (by decide)
        refine mj_icmp_eq (tgt := 1737) dL_law_588 (by decide) ⟨fun hc => ?_, fun hc => ?_⟩
        · replace h := h.1 hc
          obtain ⟨v54, ev54⟩ : ∃ z : Int32, z = x4 + (6 : Int32) := ⟨_, rfl⟩
          refine mj_iinc (v := v54) dL_law_1737 rfl (by rw [ev54]; rfl) (by decide) rfl rfl ?_
          replace h := h v54 ev54
          refine mj_goto (tgt := 23) dL_law_1740 (by decide) ?_
          exact h
        · replace h := h.2 hc
          refine mj_iconst (v := 0) dL_law_591 (by decide) ?_
          exact mj_lrety dL_law_592 h (by omega) (by omega)
      · replace h := h.2.2.2.2.2.2.2.2.2.2.1 e
        refine mj_tabIn (tgt := 593) (off := 553) dL_law_40 (by omega) (by omega) (by rw [e]; rfl) (by decide) ?_
        refine mj_aload_n dL_law_593 rfl rfl ?_
        refine mj_aload_n dL_law_594 rfl rfl ?_
        refine mj_iload dL_law_595 rfl ?_
        refine mj_iconst (v := 1) dL_law_597 (by decide) ?_
        refine mj_iadd dL_law_598 ?_
        refine mj_iald dL_law_599 (Or.inr hk_a0) ⟨h.1, ?_⟩
        replace h := h.2
        refine mj_callVi (as := [.int (m_gi S a0 ((x4 + (1 : Int32))).toNatClampNeg)]) (st := []) dL_law_600 cal_X10_lit lk_L_68 im_X10_lit se_X10_lit (ci := 9) rfl (by decide) hk_a1 h rfl (Nat.le_of_ble_eq_true rfl) (by decide) ⟨by omega, by omega⟩ (fun S55 r56 h hn_r56 hp => ?_)
        have hk_a0 : m_kd S55 a0 = 110 := m_kd_pre hp hk_a0 (by decide)
        have hk_a1 : m_kd S55 a1 = 9 := m_kd_pre hp hk_a1 (by decide)
        have hk_a2 : m_kd S55 a2 = 10 := m_kd_pre hp hk_a2 (by decide)
        have hk_a3 : m_kd S55 a3 = 102 := m_kd_pre hp hk_a3 (by decide)
        refine mj_aload_n dL_law_603 rfl rfl ?_
        refine mj_aload_n dL_law_604 rfl rfl ?_
        refine mj_iload dL_law_605 rfl ?_
        refine mj_iconst (v := 1) dL_law_607 (by decide) ?_
        refine mj_iadd dL_law_608 ?_
        refine mj_iald dL_law_609 (Or.inr hk_a0) ⟨h.1, ?_⟩
        replace h := h.2
        refine mj_callVi (as := [.int (m_gi S55 a0 ((x4 + (1 : Int32))).toNatClampNeg)]) (st := [.int r56]) dL_law_610 cal_X11_lit lk_L_71 im_X11_lit se_X11_lit (ci := 10) rfl (by decide) hk_a2 h rfl (Nat.le_of_ble_eq_true rfl) (by decide) ⟨by omega, by omega⟩ (fun S57 r58 h hn_r58 hp => ?_)
        have hk_a0 : m_kd S57 a0 = 110 := m_kd_pre hp hk_a0 (by decide)
        have hk_a1 : m_kd S57 a1 = 9 := m_kd_pre hp hk_a1 (by decide)
        have hk_a2 : m_kd S57 a2 = 10 := m_kd_pre hp hk_a2 (by decide)
        have hk_a3 : m_kd S57 a3 = 102 := m_kd_pre hp hk_a3 (by decide)
        refine mj_icmp_eq (tgt := 1737) dL_law_613 (by decide) ⟨fun hc => ?_, fun hc => ?_⟩
        · replace h := h.1 hc
          obtain ⟨v59, ev59⟩ : ∃ z : Int32, z = x4 + (6 : Int32) := ⟨_, rfl⟩
          refine mj_iinc (v := v59) dL_law_1737 rfl (by rw [ev59]; rfl) (by decide) rfl rfl ?_
          replace h := h v59 ev59
          refine mj_goto (tgt := 23) dL_law_1740 (by decide) ?_
          exact h
        · replace h := h.2 hc
          refine mj_iconst (v := 0) dL_law_616 (by decide) ?_
          exact mj_lrety dL_law_617 h (by omega) (by omega)
      · replace h := h.2.2.2.2.2.2.2.2.2.2.2.1 e
        refine mj_tabIn (tgt := 618) (off := 578) dL_law_40 (by omega) (by omega) (by rw [e]; rfl) (by decide) ?_
        refine mj_aload_n dL_law_618 rfl rfl ?_
        refine mj_aload_n dL_law_619 rfl rfl ?_
        refine mj_iload dL_law_620 rfl ?_
        refine mj_iconst (v := 1) dL_law_622 (by decide) ?_
        refine mj_iadd dL_law_623 ?_
        refine mj_iald dL_law_624 (Or.inr hk_a0) ⟨h.1, ?_⟩
        replace h := h.2
        refine mj_aload_n dL_law_625 rfl rfl ?_
        refine mj_iload dL_law_626 rfl ?_
        refine mj_iconst (v := 2) dL_law_628 (by decide) ?_
        refine mj_iadd dL_law_629 ?_
        refine mj_iald dL_law_630 (Or.inr hk_a0) ⟨h.1, ?_⟩
        replace h := h.2
        refine mj_callVi (as := [.int (m_gi S a0 ((x4 + (1 : Int32))).toNatClampNeg), .int (m_gi S a0 ((x4 + (2 : Int32))).toNatClampNeg)]) (st := []) dL_law_631 cal_X10_touch lk_L_72 im_X10_touch se_X10_touch (ci := 9) rfl (by decide) hk_a1 h rfl (Nat.le_of_ble_eq_true rfl) (by decide) ⟨by omega, by omega⟩ (fun S60 r61 h hn_r61 hp => ?_)
        have hk_a0 : m_kd S60 a0 = 110 := m_kd_pre hp hk_a0 (by decide)
        have hk_a1 : m_kd S60 a1 = 9 := m_kd_pre hp hk_a1 (by decide)
        have hk_a2 : m_kd S60 a2 = 10 := m_kd_pre hp hk_a2 (by decide)
        have hk_a3 : m_kd S60 a3 = 102 := m_kd_pre hp hk_a3 (by decide)
        refine mj_aload_n dL_law_634 rfl rfl ?_
        refine mj_aload_n dL_law_635 rfl rfl ?_
        refine mj_iload dL_law_636 rfl ?_
        refine mj_iconst (v := 1) dL_law_638 (by decide) ?_
        refine mj_iadd dL_law_639 ?_
        refine mj_iald dL_law_640 (Or.inr hk_a0) ⟨h.1, ?_⟩
        replace h := h.2
        refine mj_aload_n dL_law_641 rfl rfl ?_
        refine mj_iload dL_law_642 rfl ?_
        refine mj_iconst (v := 2) dL_law_644 (by decide) ?_
        refine mj_iadd dL_law_645 ?_
        refine mj_iald dL_law_646 (Or.inr hk_a0) ⟨h.1, ?_⟩
        replace h := h.2
        refine mj_callVi (as := [.int (m_gi S60 a0 ((x4 + (1 : Int32))).toNatClampNeg), .int (m_gi S60 a0 ((x4 + (2 : Int32))).toNatClampNeg)]) (st := [.int r61]) dL_law_647 cal_X11_touch lk_L_75 im_X11_touch se_X11_touch (ci := 10) rfl (by decide) hk_a2 h rfl (Nat.le_of_ble_eq_true rfl) (by decide) ⟨by omega, by omega⟩ (fun S62 r63 h hn_r63 hp => ?_)
        have hk_a0 : m_kd S62 a0 = 110 := m_kd_pre hp hk_a0 (by decide)
        have hk_a1 : m_kd S62 a1 = 9 := m_kd_pre hp hk_a1 (by decide)
        have hk_a2 : m_kd S62 a2 = 10 := m_kd_pre hp hk_a2 (by decide)
        have hk_a3 : m_kd S62 a3 = 102 := m_kd_pre hp hk_a3 (by decide)
        refine mj_icmp_eq (tgt := 1737) dL_law_650 (by decide) ⟨fun hc => ?_, fun hc => ?_⟩
        · replace h := h.1 hc
          obtain ⟨v64, ev64⟩ : ∃ z : Int32, z = x4 + (6 : Int32) := ⟨_, rfl⟩
          refine mj_iinc (v := v64) dL_law_1737 rfl (by rw [ev64]; rfl) (by decide) rfl rfl ?_
          replace h := h v64 ev64
          refine mj_goto (tgt := 23) dL_law_1740 (by decide) ?_
          exact h
        · replace h := h.2 hc
          refine mj_iconst (v := 0) dL_law_653 (by decide) ?_
          exact mj_lrety dL_law_654 h (by omega) (by omega)
      · replace h := h.2.2.2.2.2.2.2.2.2.2.2.2.1 e
        refine mj_tabIn (tgt := 655) (off := 615) dL_law_40 (by omega) (by omega) (by rw [e]; rfl) (by decide) ?_
        refine mj_aload_n dL_law_655 rfl rfl ?_
        refine mj_aload_n dL_law_656 rfl rfl ?_
        refine mj_iload dL_law_657 rfl ?_
        refine mj_iconst (v := 1) dL_law_659 (by decide) ?_
        refine mj_iadd dL_law_660 ?_
        refine mj_iald dL_law_661 (Or.inr hk_a0) ⟨h.1, ?_⟩
        replace h := h.2
        refine mj_aload_n dL_law_662 rfl rfl ?_
        refine mj_iload dL_law_663 rfl ?_
        refine mj_iconst (v := 2) dL_law_665 (by decide) ?_
        refine mj_iadd dL_law_666 ?_
        refine mj_iald dL_law_667 (Or.inr hk_a0) ⟨h.1, ?_⟩
        replace h := h.2
        refine mj_aload_n dL_law_668 rfl rfl ?_
        refine mj_iload dL_law_669 rfl ?_
        refine mj_iconst (v := 3) dL_law_671 (by decide) ?_
        refine mj_iadd dL_law_672 ?_
        refine mj_iald dL_law_673 (Or.inr hk_a0) ⟨h.1, ?_⟩
        replace h := h.2
        refine mj_if_eq (tgt := 681) dL_law_674 (by decide) ⟨fun hc => ?_, fun hc => ?_⟩
        · replace h := h.1 hc
          refine mj_iconst (v := 0) dL_law_681 (by decide) ?_
          exact h
        · replace h := h.2 hc
          refine mj_iconst (v := 1) dL_law_677 (by decide) ?_
          refine mj_goto (tgt := 682) dL_law_678 (by decide) ?_
          exact h
      · replace h := h.2.2.2.2.2.2.2.2.2.2.2.2.2.1 e
        refine mj_tabIn (tgt := 720) (off := 680) dL_law_40 (by omega) (by omega) (by rw [e]; rfl) (by decide) ?_
        refine mj_aload_n dL_law_720 rfl rfl ?_
        refine mj_aload_n dL_law_721 rfl rfl ?_
        refine mj_iload dL_law_722 rfl ?_
        refine mj_iconst (v := 1) dL_law_724 (by decide) ?_
        refine mj_iadd dL_law_725 ?_
        refine mj_iald dL_law_726 (Or.inr hk_a0) ⟨h.1, ?_⟩
        replace h := h.2
        refine mj_aload_n dL_law_727 rfl rfl ?_
        refine mj_iload dL_law_728 rfl ?_
        refine mj_iconst (v := 2) dL_law_730 (by decide) ?_
        refine mj_iadd dL_law_731 ?_
        refine mj_iald dL_law_732 (Or.inr hk_a0) ⟨h.1, ?_⟩
        replace h := h.2
        refine mj_callVi (as := [.int (m_gi S a0 ((x4 + (1 : Int32))).toNatClampNeg), .int (m_gi S a0 ((x4 + (2 : Int32))).toNatClampNeg)]) (st := []) dL_law_733 cal_X10_go lk_L_81 im_X10_go se_X10_go (ci := 9) rfl (by decide) hk_a1 h rfl (Nat.le_of_ble_eq_true rfl) (by decide) ⟨by omega, by omega⟩ (fun S65 r66 h hn_r66 hp => ?_)
        have hk_a0 : m_kd S65 a0 = 110 := m_kd_pre hp hk_a0 (by decide)
        have hk_a1 : m_kd S65 a1 = 9 := m_kd_pre hp hk_a1 (by decide)
        have hk_a2 : m_kd S65 a2 = 10 := m_kd_pre hp hk_a2 (by decide)
        have hk_a3 : m_kd S65 a3 = 102 := m_kd_pre hp hk_a3 (by decide)
        refine mj_aload_n dL_law_736 rfl rfl ?_
        refine mj_aload_n dL_law_737 rfl rfl ?_
        refine mj_iload dL_law_738 rfl ?_
        refine mj_iconst (v := 1) dL_law_740 (by decide) ?_
        refine mj_iadd dL_law_741 ?_
        refine mj_iald dL_law_742 (Or.inr hk_a0) ⟨h.1, ?_⟩
        replace h := h.2
        refine mj_aload_n dL_law_743 rfl rfl ?_
        refine mj_iload dL_law_744 rfl ?_
        refine mj_iconst (v := 2) dL_law_746 (by decide) ?_
        refine mj_iadd dL_law_747 ?_
        refine mj_iald dL_law_748 (Or.inr hk_a0) ⟨h.1, ?_⟩
        replace h := h.2
        refine mj_callVi (as := [.int (m_gi S65 a0 ((x4 + (1 : Int32))).toNatClampNeg), .int (m_gi S65 a0 ((x4 + (2 : Int32))).toNatClampNeg)]) (st := [.int r66]) dL_law_749 cal_X11_go lk_L_84 im_X11_go se_X11_go (ci := 10) rfl (by decide) hk_a2 h rfl (Nat.le_of_ble_eq_true rfl) (by decide) ⟨by omega, by omega⟩ (fun S67 r68 h hn_r68 hp => ?_)
        have hk_a0 : m_kd S67 a0 = 110 := m_kd_pre hp hk_a0 (by decide)
        have hk_a1 : m_kd S67 a1 = 9 := m_kd_pre hp hk_a1 (by decide)
        have hk_a2 : m_kd S67 a2 = 10 := m_kd_pre hp hk_a2 (by decide)
        have hk_a3 : m_kd S67 a3 = 102 := m_kd_pre hp hk_a3 (by decide)
        refine mj_icmp_eq (tgt := 1737) dL_law_752 (by decide) ⟨fun hc => ?_, fun hc => ?_⟩
        · replace h := h.1 hc
          obtain ⟨v69, ev69⟩ : ∃ z : Int32, z = x4 + (6 : Int32) := ⟨_, rfl⟩
          refine mj_iinc (v := v69) dL_law_1737 rfl (by rw [ev69]; rfl) (by decide) rfl rfl ?_
          replace h := h v69 ev69
          refine mj_goto (tgt := 23) dL_law_1740 (by decide) ?_
          exact h
        · replace h := h.2 hc
          refine mj_iconst (v := 0) dL_law_755 (by decide) ?_
          exact mj_lrety dL_law_756 h (by omega) (by omega)
      · replace h := h.2.2.2.2.2.2.2.2.2.2.2.2.2.2.1 e
        refine mj_tabIn (tgt := 757) (off := 717) dL_law_40 (by omega) (by omega) (by rw [e]; rfl) (by decide) ?_
        refine mj_aload_n dL_law_757 rfl rfl ?_
        refine mj_aload_n dL_law_758 rfl rfl ?_
        refine mj_iload dL_law_759 rfl ?_
        refine mj_iconst (v := 1) dL_law_761 (by decide) ?_
        refine mj_iadd dL_law_762 ?_
        refine mj_iald dL_law_763 (Or.inr hk_a0) ⟨h.1, ?_⟩
        replace h := h.2
        refine mj_aload_n dL_law_764 rfl rfl ?_
        refine mj_iload dL_law_765 rfl ?_
        refine mj_iconst (v := 2) dL_law_767 (by decide) ?_
        refine mj_iadd dL_law_768 ?_
        refine mj_iald dL_law_769 (Or.inr hk_a0) ⟨h.1, ?_⟩
        replace h := h.2
        refine mj_callVi (as := [.int (m_gi S a0 ((x4 + (1 : Int32))).toNatClampNeg), .int (m_gi S a0 ((x4 + (2 : Int32))).toNatClampNeg)]) (st := []) dL_law_770 cal_X10_creep lk_L_85 im_X10_creep se_X10_creep (ci := 9) rfl (by decide) hk_a1 h rfl (Nat.le_of_ble_eq_true rfl) (by decide) ⟨by omega, by omega⟩ (fun S70 r71 h hn_r71 hp => ?_)
        have hk_a0 : m_kd S70 a0 = 110 := m_kd_pre hp hk_a0 (by decide)
        have hk_a1 : m_kd S70 a1 = 9 := m_kd_pre hp hk_a1 (by decide)
        have hk_a2 : m_kd S70 a2 = 10 := m_kd_pre hp hk_a2 (by decide)
        have hk_a3 : m_kd S70 a3 = 102 := m_kd_pre hp hk_a3 (by decide)
        refine mj_aload_n dL_law_773 rfl rfl ?_
        refine mj_aload_n dL_law_774 rfl rfl ?_
        refine mj_iload dL_law_775 rfl ?_
        refine mj_iconst (v := 1) dL_law_777 (by decide) ?_
        refine mj_iadd dL_law_778 ?_
        refine mj_iald dL_law_779 (Or.inr hk_a0) ⟨h.1, ?_⟩
        replace h := h.2
        refine mj_aload_n dL_law_780 rfl rfl ?_
        refine mj_iload dL_law_781 rfl ?_
        refine mj_iconst (v := 2) dL_law_783 (by decide) ?_
        refine mj_iadd dL_law_784 ?_
        refine mj_iald dL_law_785 (Or.inr hk_a0) ⟨h.1, ?_⟩
        replace h := h.2
        refine mj_callVi (as := [.int (m_gi S70 a0 ((x4 + (1 : Int32))).toNatClampNeg), .int (m_gi S70 a0 ((x4 + (2 : Int32))).toNatClampNeg)]) (st := [.int r71]) dL_law_786 cal_X11_creep lk_L_88 im_X11_creep se_X11_creep (ci := 10) rfl (by decide) hk_a2 h rfl (Nat.le_of_ble_eq_true rfl) (by decide) ⟨by omega, by omega⟩ (fun S72 r73 h hn_r73 hp => ?_)
        have hk_a0 : m_kd S72 a0 = 110 := m_kd_pre hp hk_a0 (by decide)
        have hk_a1 : m_kd S72 a1 = 9 := m_kd_pre hp hk_a1 (by decide)
        have hk_a2 : m_kd S72 a2 = 10 := m_kd_pre hp hk_a2 (by decide)
        have hk_a3 : m_kd S72 a3 = 102 := m_kd_pre hp hk_a3 (by decide)
        refine mj_icmp_eq (tgt := 1737) dL_law_789 (by decide) ⟨fun hc => ?_, fun hc => ?_⟩
        · replace h := h.1 hc
          obtain ⟨v74, ev74⟩ : ∃ z : Int32, z = x4 + (6 : Int32) := ⟨_, rfl⟩
          refine mj_iinc (v := v74) dL_law_1737 rfl (by rw [ev74]; rfl) (by decide) rfl rfl ?_
          replace h := h v74 ev74
          refine mj_goto (tgt := 23) dL_law_1740 (by decide) ?_
          exact h
        · replace h := h.2 hc
          refine mj_iconst (v := 0) dL_law_792 (by decide) ?_
          exact mj_lrety dL_law_793 h (by omega) (by omega)
      · replace h := h.2.2.2.2.2.2.2.2.2.2.2.2.2.2.2.1 e
        refine mj_tabIn (tgt := 794) (off := 754) dL_law_40 (by omega) (by omega) (by rw [e]; rfl) (by decide) ?_
        refine mj_aload_n dL_law_794 rfl rfl ?_
        refine mj_aload_n dL_law_795 rfl rfl ?_
        refine mj_iload dL_law_796 rfl ?_
        refine mj_iconst (v := 1) dL_law_798 (by decide) ?_
        refine mj_iadd dL_law_799 ?_
        refine mj_iald dL_law_800 (Or.inr hk_a0) ⟨h.1, ?_⟩
        replace h := h.2
        refine mj_aload_n dL_law_801 rfl rfl ?_
        refine mj_iload dL_law_802 rfl ?_
        refine mj_iconst (v := 2) dL_law_804 (by decide) ?_
        refine mj_iadd dL_law_805 ?_
        refine mj_iald dL_law_806 (Or.inr hk_a0) ⟨h.1, ?_⟩
        replace h := h.2
        refine mj_callVi (as := [.int (m_gi S a0 ((x4 + (1 : Int32))).toNatClampNeg), .int (m_gi S a0 ((x4 + (2 : Int32))).toNatClampNeg)]) (st := []) dL_law_807 cal_X10_mend lk_L_89 im_X10_mend se_X10_mend (ci := 9) rfl (by decide) hk_a1 h rfl (Nat.le_of_ble_eq_true rfl) (by decide) ⟨by omega, by omega⟩ (fun S75 r76 h hn_r76 hp => ?_)
        have hk_a0 : m_kd S75 a0 = 110 := m_kd_pre hp hk_a0 (by decide)
        have hk_a1 : m_kd S75 a1 = 9 := m_kd_pre hp hk_a1 (by decide)
        have hk_a2 : m_kd S75 a2 = 10 := m_kd_pre hp hk_a2 (by decide)
        have hk_a3 : m_kd S75 a3 = 102 := m_kd_pre hp hk_a3 (by decide)
        refine mj_aload_n dL_law_810 rfl rfl ?_
        refine mj_aload_n dL_law_811 rfl rfl ?_
        refine mj_iload dL_law_812 rfl ?_
        refine mj_iconst (v := 1) dL_law_814 (by decide) ?_
        refine mj_iadd dL_law_815 ?_
        refine mj_iald dL_law_816 (Or.inr hk_a0) ⟨h.1, ?_⟩
        replace h := h.2
        refine mj_aload_n dL_law_817 rfl rfl ?_
        refine mj_iload dL_law_818 rfl ?_
        refine mj_iconst (v := 2) dL_law_820 (by decide) ?_
        refine mj_iadd dL_law_821 ?_
        refine mj_iald dL_law_822 (Or.inr hk_a0) ⟨h.1, ?_⟩
        replace h := h.2
        refine mj_callVi (as := [.int (m_gi S75 a0 ((x4 + (1 : Int32))).toNatClampNeg), .int (m_gi S75 a0 ((x4 + (2 : Int32))).toNatClampNeg)]) (st := [.int r76]) dL_law_823 cal_X11_mend lk_L_92 im_X11_mend se_X11_mend (ci := 10) rfl (by decide) hk_a2 h rfl (Nat.le_of_ble_eq_true rfl) (by decide) ⟨by omega, by omega⟩ (fun S77 r78 h hn_r78 hp => ?_)
        have hk_a0 : m_kd S77 a0 = 110 := m_kd_pre hp hk_a0 (by decide)
        have hk_a1 : m_kd S77 a1 = 9 := m_kd_pre hp hk_a1 (by decide)
        have hk_a2 : m_kd S77 a2 = 10 := m_kd_pre hp hk_a2 (by decide)
        have hk_a3 : m_kd S77 a3 = 102 := m_kd_pre hp hk_a3 (by decide)
        refine mj_icmp_eq (tgt := 1737) dL_law_826 (by decide) ⟨fun hc => ?_, fun hc => ?_⟩
        · replace h := h.1 hc
          obtain ⟨v79, ev79⟩ : ∃ z : Int32, z = x4 + (6 : Int32) := ⟨_, rfl⟩
          refine mj_iinc (v := v79) dL_law_1737 rfl (by rw [ev79]; rfl) (by decide) rfl rfl ?_
          replace h := h v79 ev79
          refine mj_goto (tgt := 23) dL_law_1740 (by decide) ?_
          exact h
        · replace h := h.2 hc
          refine mj_iconst (v := 0) dL_law_829 (by decide) ?_
          exact mj_lrety dL_law_830 h (by omega) (by omega)
      · replace h := h.2.2.2.2.2.2.2.2.2.2.2.2.2.2.2.2.1 e
        refine mj_tabIn (tgt := 831) (off := 791) dL_law_40 (by omega) (by omega) (by rw [e]; rfl) (by decide) ?_
        refine mj_aload_n dL_law_831 rfl rfl ?_
        refine mj_aload_n dL_law_832 rfl rfl ?_
        refine mj_iload dL_law_833 rfl ?_
        refine mj_iconst (v := 1) dL_law_835 (by decide) ?_
        refine mj_iadd dL_law_836 ?_
        refine mj_iald dL_law_837 (Or.inr hk_a0) ⟨h.1, ?_⟩
        replace h := h.2
        refine mj_callVi (as := [.int (m_gi S a0 ((x4 + (1 : Int32))).toNatClampNeg)]) (st := []) dL_law_838 cal_X10_years lk_L_93 im_X10_years se_X10_years (ci := 9) rfl (by decide) hk_a1 h rfl (Nat.le_of_ble_eq_true rfl) (by decide) ⟨by omega, by omega⟩ (fun S80 r81 h hn_r81 hp => ?_)
        have hk_a0 : m_kd S80 a0 = 110 := m_kd_pre hp hk_a0 (by decide)
        have hk_a1 : m_kd S80 a1 = 9 := m_kd_pre hp hk_a1 (by decide)
        have hk_a2 : m_kd S80 a2 = 10 := m_kd_pre hp hk_a2 (by decide)
        have hk_a3 : m_kd S80 a3 = 102 := m_kd_pre hp hk_a3 (by decide)
        refine mj_aload_n dL_law_841 rfl rfl ?_
        refine mj_aload_n dL_law_842 rfl rfl ?_
        refine mj_iload dL_law_843 rfl ?_
        refine mj_iconst (v := 1) dL_law_845 (by decide) ?_
        refine mj_iadd dL_law_846 ?_
        refine mj_iald dL_law_847 (Or.inr hk_a0) ⟨h.1, ?_⟩
        replace h := h.2
        refine mj_callVi (as := [.int (m_gi S80 a0 ((x4 + (1 : Int32))).toNatClampNeg)]) (st := [.int r81]) dL_law_848 cal_X11_years lk_L_96 im_X11_years se_X11_years (ci := 10) rfl (by decide) hk_a2 h rfl (Nat.le_of_ble_eq_true rfl) (by decide) ⟨by omega, by omega⟩ (fun S82 r83 h hn_r83 hp => ?_)
        have hk_a0 : m_kd S82 a0 = 110 := m_kd_pre hp hk_a0 (by decide)
        have hk_a1 : m_kd S82 a1 = 9 := m_kd_pre hp hk_a1 (by decide)
        have hk_a2 : m_kd S82 a2 = 10 := m_kd_pre hp hk_a2 (by decide)
        have hk_a3 : m_kd S82 a3 = 102 := m_kd_pre hp hk_a3 (by decide)
        refine mj_icmp_eq (tgt := 1737) dL_law_851 (by decide) ⟨fun hc => ?_, fun hc => ?_⟩
        · replace h := h.1 hc
          obtain ⟨v84, ev84⟩ : ∃ z : Int32, z = x4 + (6 : Int32) := ⟨_, rfl⟩
          refine mj_iinc (v := v84) dL_law_1737 rfl (by rw [ev84]; rfl) (by decide) rfl rfl ?_
          replace h := h v84 ev84
          refine mj_goto (tgt := 23) dL_law_1740 (by decide) ?_
          exact h
        · replace h := h.2 hc
          refine mj_iconst (v := 0) dL_law_854 (by decide) ?_
          exact mj_lrety dL_law_855 h (by omega) (by omega)
      · replace h := h.2.2.2.2.2.2.2.2.2.2.2.2.2.2.2.2.2.1 e
        refine mj_tabIn (tgt := 856) (off := 816) dL_law_40 (by omega) (by omega) (by rw [e]; rfl) (by decide) ?_
        refine mj_aload_n dL_law_856 rfl rfl ?_
        refine mj_aload_n dL_law_857 rfl rfl ?_
        refine mj_iload dL_law_858 rfl ?_
        refine mj_iconst (v := 1) dL_law_860 (by decide) ?_
        refine mj_iadd dL_law_861 ?_
        refine mj_iald dL_law_862 (Or.inr hk_a0) ⟨h.1, ?_⟩
        replace h := h.2
        refine mj_callVi (as := [.int (m_gi S a0 ((x4 + (1 : Int32))).toNatClampNeg)]) (st := []) dL_law_863 cal_X10_heat lk_L_97 im_X10_heat se_X10_heat (ci := 9) rfl (by decide) hk_a1 h rfl (Nat.le_of_ble_eq_true rfl) (by decide) ⟨by omega, by omega⟩ (fun S85 r86 h hn_r86 hp => ?_)
        have hk_a0 : m_kd S85 a0 = 110 := m_kd_pre hp hk_a0 (by decide)
        have hk_a1 : m_kd S85 a1 = 9 := m_kd_pre hp hk_a1 (by decide)
        have hk_a2 : m_kd S85 a2 = 10 := m_kd_pre hp hk_a2 (by decide)
        have hk_a3 : m_kd S85 a3 = 102 := m_kd_pre hp hk_a3 (by decide)
        refine mj_aload_n dL_law_866 rfl rfl ?_
        refine mj_aload_n dL_law_867 rfl rfl ?_
        refine mj_iload dL_law_868 rfl ?_
        refine mj_iconst (v := 1) dL_law_870 (by decide) ?_
        refine mj_iadd dL_law_871 ?_
        refine mj_iald dL_law_872 (Or.inr hk_a0) ⟨h.1, ?_⟩
        replace h := h.2
        refine mj_callVi (as := [.int (m_gi S85 a0 ((x4 + (1 : Int32))).toNatClampNeg)]) (st := [.int r86]) dL_law_873 cal_X11_heat lk_L_100 im_X11_heat se_X11_heat (ci := 10) rfl (by decide) hk_a2 h rfl (Nat.le_of_ble_eq_true rfl) (by decide) ⟨by omega, by omega⟩ (fun S87 r88 h hn_r88 hp => ?_)
        have hk_a0 : m_kd S87 a0 = 110 := m_kd_pre hp hk_a0 (by decide)
        have hk_a1 : m_kd S87 a1 = 9 := m_kd_pre hp hk_a1 (by decide)
        have hk_a2 : m_kd S87 a2 = 10 := m_kd_pre hp hk_a2 (by decide)
        have hk_a3 : m_kd S87 a3 = 102 := m_kd_pre hp hk_a3 (by decide)
        refine mj_icmp_eq (tgt := 1737) dL_law_876 (by decide) ⟨fun hc => ?_, fun hc => ?_⟩
        · replace h := h.1 hc
          obtain ⟨v89, ev89⟩ : ∃ z : Int32, z = x4 + (6 : Int32) := ⟨_, rfl⟩
          refine mj_iinc (v := v89) dL_law_1737 rfl (by rw [ev89]; rfl) (by decide) rfl rfl ?_
          replace h := h v89 ev89
          refine mj_goto (tgt := 23) dL_law_1740 (by decide) ?_
          exact h
        · replace h := h.2 hc
          refine mj_iconst (v := 0) dL_law_879 (by decide) ?_
          exact mj_lrety dL_law_880 h (by omega) (by omega)
      · replace h := h.2.2.2.2.2.2.2.2.2.2.2.2.2.2.2.2.2.2.1 e
        refine mj_tabIn (tgt := 881) (off := 841) dL_law_40 (by omega) (by omega) (by rw [e]; rfl) (by decide) ?_
        refine mj_aload_n dL_law_881 rfl rfl ?_
        refine mj_aload_n dL_law_882 rfl rfl ?_
        refine mj_iload dL_law_883 rfl ?_
        refine mj_iconst (v := 1) dL_law_885 (by decide) ?_
        refine mj_iadd dL_law_886 ?_
        refine mj_iald dL_law_887 (Or.inr hk_a0) ⟨h.1, ?_⟩
        replace h := h.2
        refine mj_aload_n dL_law_888 rfl rfl ?_
        refine mj_iload dL_law_889 rfl ?_
        refine mj_iconst (v := 2) dL_law_891 (by decide) ?_
        refine mj_iadd dL_law_892 ?_
        refine mj_iald dL_law_893 (Or.inr hk_a0) ⟨h.1, ?_⟩
        replace h := h.2
        refine mj_i2l dL_law_894 ?_
        refine mj_bipush (v := 32) dL_law_895 (by decide) ?_
        refine mj_lshl dL_law_897 ?_
        refine mj_aload_n dL_law_898 rfl rfl ?_
        refine mj_iload dL_law_899 rfl ?_
        refine mj_iconst (v := 3) dL_law_901 (by decide) ?_
        refine mj_iadd dL_law_902 ?_
        refine mj_iald dL_law_903 (Or.inr hk_a0) ⟨h.1, ?_⟩
        replace h := h.2
        refine mj_i2l dL_law_904 ?_
        refine mj_ldc2 dL_law_905 cl_L_101 ?_
        refine mj_land dL_law_908 ?_
        refine mj_lor dL_law_909 ?_
        refine mj_callVi (as := [.int (m_gi S a0 ((x4 + (1 : Int32))).toNatClampNeg), .long ((((m_gi S a0 ((x4 + (2 : Int32))).toNatClampNeg)).toInt64 <<< (((32 : Int32)).toInt64 &&& 63)) ||| (((m_gi S a0 ((x4 + (3 : Int32))).toNatClampNeg)).toInt64 &&& (4294967295 : Int64)))]) (st := []) dL_law_910 cal_X10_centuries lk_L_103 im_X10_centuries se_X10_centuries (ci := 9) rfl (by decide) hk_a1 h rfl (Nat.le_of_ble_eq_true rfl) (by decide) ⟨by omega, by omega⟩ (fun S90 r91 h hn_r91 hp => ?_)
        have hk_a0 : m_kd S90 a0 = 110 := m_kd_pre hp hk_a0 (by decide)
        have hk_a1 : m_kd S90 a1 = 9 := m_kd_pre hp hk_a1 (by decide)
        have hk_a2 : m_kd S90 a2 = 10 := m_kd_pre hp hk_a2 (by decide)
        have hk_a3 : m_kd S90 a3 = 102 := m_kd_pre hp hk_a3 (by decide)
        refine mj_aload_n dL_law_913 rfl rfl ?_
        refine mj_aload_n dL_law_914 rfl rfl ?_
        refine mj_iload dL_law_915 rfl ?_
        refine mj_iconst (v := 1) dL_law_917 (by decide) ?_
        refine mj_iadd dL_law_918 ?_
        refine mj_iald dL_law_919 (Or.inr hk_a0) ⟨h.1, ?_⟩
        replace h := h.2
        refine mj_aload_n dL_law_920 rfl rfl ?_
        refine mj_iload dL_law_921 rfl ?_
        refine mj_iconst (v := 2) dL_law_923 (by decide) ?_
        refine mj_iadd dL_law_924 ?_
        refine mj_iald dL_law_925 (Or.inr hk_a0) ⟨h.1, ?_⟩
        replace h := h.2
        refine mj_i2l dL_law_926 ?_
        refine mj_bipush (v := 32) dL_law_927 (by decide) ?_
        refine mj_lshl dL_law_929 ?_
        refine mj_aload_n dL_law_930 rfl rfl ?_
        refine mj_iload dL_law_931 rfl ?_
        refine mj_iconst (v := 3) dL_law_933 (by decide) ?_
        refine mj_iadd dL_law_934 ?_
        refine mj_iald dL_law_935 (Or.inr hk_a0) ⟨h.1, ?_⟩
        replace h := h.2
        refine mj_i2l dL_law_936 ?_
        refine mj_ldc2 dL_law_937 cl_L_101 ?_
        refine mj_land dL_law_940 ?_
        refine mj_lor dL_law_941 ?_
        refine mj_callVi (as := [.int (m_gi S90 a0 ((x4 + (1 : Int32))).toNatClampNeg), .long ((((m_gi S90 a0 ((x4 + (2 : Int32))).toNatClampNeg)).toInt64 <<< (((32 : Int32)).toInt64 &&& 63)) ||| (((m_gi S90 a0 ((x4 + (3 : Int32))).toNatClampNeg)).toInt64 &&& (4294967295 : Int64)))]) (st := [.int r91]) dL_law_942 cal_X11_centuries lk_L_107 im_X11_centuries se_X11_centuries (ci := 10) rfl (by decide) hk_a2 h rfl (Nat.le_of_ble_eq_true rfl) (by decide) ⟨by omega, by omega⟩ (fun S92 r93 h hn_r93 hp => ?_)
        have hk_a0 : m_kd S92 a0 = 110 := m_kd_pre hp hk_a0 (by decide)
        have hk_a1 : m_kd S92 a1 = 9 := m_kd_pre hp hk_a1 (by decide)
        have hk_a2 : m_kd S92 a2 = 10 := m_kd_pre hp hk_a2 (by decide)
        have hk_a3 : m_kd S92 a3 = 102 := m_kd_pre hp hk_a3 (by decide)
        refine mj_icmp_eq (tgt := 1737) dL_law_945 (by decide) ⟨fun hc => ?_, fun hc => ?_⟩
        · replace h := h.1 hc
          obtain ⟨v94, ev94⟩ : ∃ z : Int32, z = x4 + (6 : Int32) := ⟨_, rfl⟩
          refine mj_iinc (v := v94) dL_law_1737 rfl (by rw [ev94]; rfl) (by decide) rfl rfl ?_
          replace h := h v94 ev94
          refine mj_goto (tgt := 23) dL_law_1740 (by decide) ?_
          exact h
        · replace h := h.2 hc
          refine mj_iconst (v := 0) dL_law_948 (by decide) ?_
          exact mj_lrety dL_law_949 h (by omega) (by omega)
      · replace h := h.2.2.2.2.2.2.2.2.2.2.2.2.2.2.2.2.2.2.2.1 e
        refine mj_tabIn (tgt := 950) (off := 910) dL_law_40 (by omega) (by omega) (by rw [e]; rfl) (by decide) ?_
        refine mj_aload_n dL_law_950 rfl rfl ?_
        refine mj_aload_n dL_law_951 rfl rfl ?_
        refine mj_iload dL_law_952 rfl ?_
        refine mj_iconst (v := 1) dL_law_954 (by decide) ?_
        refine mj_iadd dL_law_955 ?_
        refine mj_iald dL_law_956 (Or.inr hk_a0) ⟨h.1, ?_⟩
        replace h := h.2
        refine mj_callVi (as := [.int (m_gi S a0 ((x4 + (1 : Int32))).toNatClampNeg)]) (st := []) dL_law_957 cal_X10_status lk_L_108 im_X10_status se_X10_status (ci := 9) rfl (by decide) hk_a1 h rfl (Nat.le_of_ble_eq_true rfl) (by decide) ⟨by omega, by omega⟩ (fun S95 r96 h hn_r96 hp => ?_)
        have hk_a0 : m_kd S95 a0 = 110 := m_kd_pre hp hk_a0 (by decide)
        have hk_a1 : m_kd S95 a1 = 9 := m_kd_pre hp hk_a1 (by decide)
        have hk_a2 : m_kd S95 a2 = 10 := m_kd_pre hp hk_a2 (by decide)
        have hk_a3 : m_kd S95 a3 = 102 := m_kd_pre hp hk_a3 (by decide)
        refine mj_aload_n dL_law_960 rfl rfl ?_
        refine mj_aload_n dL_law_961 rfl rfl ?_
        refine mj_iload dL_law_962 rfl ?_
        refine mj_iconst (v := 1) dL_law_964 (by decide) ?_
        refine mj_iadd dL_law_965 ?_
        refine mj_iald dL_law_966 (Or.inr hk_a0) ⟨h.1, ?_⟩
        replace h := h.2
        refine mj_callVi (as := [.int (m_gi S95 a0 ((x4 + (1 : Int32))).toNatClampNeg)]) (st := [.int r96]) dL_law_967 cal_X11_status lk_L_111 im_X11_status se_X11_status (ci := 10) rfl (by decide) hk_a2 h rfl (Nat.le_of_ble_eq_true rfl) (by decide) ⟨by omega, by omega⟩ (fun S97 r98 h hn_r98 hp => ?_)
        have hk_a0 : m_kd S97 a0 = 110 := m_kd_pre hp hk_a0 (by decide)
        have hk_a1 : m_kd S97 a1 = 9 := m_kd_pre hp hk_a1 (by decide)
        have hk_a2 : m_kd S97 a2 = 10 := m_kd_pre hp hk_a2 (by decide)
        have hk_a3 : m_kd S97 a3 = 102 := m_kd_pre hp hk_a3 (by decide)
        refine mj_icmp_eq (tgt := 1737) dL_law_970 (by decide) ⟨fun hc => ?_, fun hc => ?_⟩
        · replace h := h.1 hc
          obtain ⟨v99, ev99⟩ : ∃ z : Int32, z = x4 + (6 : Int32) := ⟨_, rfl⟩
          refine mj_iinc (v := v99) dL_law_1737 rfl (by rw [ev99]; rfl) (by decide) rfl rfl ?_
          replace h := h v99 ev99
          refine mj_goto (tgt := 23) dL_law_1740 (by decide) ?_
          exact h
        · replace h := h.2 hc
          refine mj_iconst (v := 0) dL_law_973 (by decide) ?_
          exact mj_lrety dL_law_974 h (by omega) (by omega)
      · replace h := h.2.2.2.2.2.2.2.2.2.2.2.2.2.2.2.2.2.2.2.2.1 e
        refine mj_tabIn (tgt := 975) (off := 935) dL_law_40 (by omega) (by omega) (by rw [e]; rfl) (by decide) ?_
        refine mj_aload_n dL_law_975 rfl rfl ?_
        refine mj_callVi (as := []) (st := []) dL_law_976 cal_X10_undo lk_L_112 im_X10_undo se_X10_undo (ci := 9) rfl (by decide) hk_a1 h rfl (Nat.le_of_ble_eq_true rfl) (by decide) ⟨by omega, by omega⟩ (fun S100 r101 h hn_r101 hp => ?_)
        have hk_a0 : m_kd S100 a0 = 110 := m_kd_pre hp hk_a0 (by decide)
        have hk_a1 : m_kd S100 a1 = 9 := m_kd_pre hp hk_a1 (by decide)
        have hk_a2 : m_kd S100 a2 = 10 := m_kd_pre hp hk_a2 (by decide)
        have hk_a3 : m_kd S100 a3 = 102 := m_kd_pre hp hk_a3 (by decide)
        refine mj_aload_n dL_law_979 rfl rfl ?_
        refine mj_callVi (as := []) (st := [.int r101]) dL_law_980 cal_X11_undo lk_L_115 im_X11_undo se_X11_undo (ci := 10) rfl (by decide) hk_a2 h rfl (Nat.le_of_ble_eq_true rfl) (by decide) ⟨by omega, by omega⟩ (fun S102 r103 h hn_r103 hp => ?_)
        have hk_a0 : m_kd S102 a0 = 110 := m_kd_pre hp hk_a0 (by decide)
        have hk_a1 : m_kd S102 a1 = 9 := m_kd_pre hp hk_a1 (by decide)
        have hk_a2 : m_kd S102 a2 = 10 := m_kd_pre hp hk_a2 (by decide)
        have hk_a3 : m_kd S102 a3 = 102 := m_kd_pre hp hk_a3 (by decide)
        refine mj_icmp_eq (tgt := 1737) dL_law_983 (by decide) ⟨fun hc => ?_, fun hc => ?_⟩
        · replace h := h.1 hc
          obtain ⟨v104, ev104⟩ : ∃ z : Int32, z = x4 + (6 : Int32) := ⟨_, rfl⟩
          refine mj_iinc (v := v104) dL_law_1737 rfl (by rw [ev104]; rfl) (by decide) rfl rfl ?_
          replace h := h v104 ev104
          refine mj_goto (tgt := 23) dL_law_1740 (by decide) ?_
          exact h
        · replace h := h.2 hc
          refine mj_iconst (v := 0) dL_law_986 (by decide) ?_
          exact mj_lrety dL_law_987 h (by omega) (by omega)
      · replace h := h.2.2.2.2.2.2.2.2.2.2.2.2.2.2.2.2.2.2.2.2.2.1 e
        refine mj_tabIn (tgt := 988) (off := 948) dL_law_40 (by omega) (by omega) (by rw [e]; rfl) (by decide) ?_
        refine mj_aload_n dL_law_988 rfl rfl ?_
        refine mj_aload_n dL_law_989 rfl rfl ?_
        refine mj_iload dL_law_990 rfl ?_
        refine mj_iconst (v := 1) dL_law_992 (by decide) ?_
        refine mj_iadd dL_law_993 ?_
        refine mj_iald dL_law_994 (Or.inr hk_a0) ⟨h.1, ?_⟩
        replace h := h.2
        refine mj_aload_n dL_law_995 rfl rfl ?_
        refine mj_iload dL_law_996 rfl ?_
        refine mj_iconst (v := 2) dL_law_998 (by decide) ?_
        refine mj_iadd dL_law_999 ?_
        refine mj_iald dL_law_1000 (Or.inr hk_a0) ⟨h.1, ?_⟩
        replace h := h.2
        refine mj_callVi (as := [.int (m_gi S a0 ((x4 + (1 : Int32))).toNatClampNeg), .int (m_gi S a0 ((x4 + (2 : Int32))).toNatClampNeg)]) (st := []) dL_law_1001 cal_X10_log lk_L_116 im_X10_log se_X10_log (ci := 9) rfl (by decide) hk_a1 h rfl (Nat.le_of_ble_eq_true rfl) (by decide) ⟨by omega, by omega⟩ (fun S105 r106 h hn_r106 hp => ?_)
        have hk_a0 : m_kd S105 a0 = 110 := m_kd_pre hp hk_a0 (by decide)
        have hk_a1 : m_kd S105 a1 = 9 := m_kd_pre hp hk_a1 (by decide)
        have hk_a2 : m_kd S105 a2 = 10 := m_kd_pre hp hk_a2 (by decide)
        have hk_a3 : m_kd S105 a3 = 102 := m_kd_pre hp hk_a3 (by decide)
        refine mj_aload_n dL_law_1004 rfl rfl ?_
        refine mj_aload_n dL_law_1005 rfl rfl ?_
        refine mj_iload dL_law_1006 rfl ?_
        refine mj_iconst (v := 1) dL_law_1008 (by decide) ?_
        refine mj_iadd dL_law_1009 ?_
        refine mj_iald dL_law_1010 (Or.inr hk_a0) ⟨h.1, ?_⟩
        replace h := h.2
        refine mj_aload_n dL_law_1011 rfl rfl ?_
        refine mj_iload dL_law_1012 rfl ?_
        refine mj_iconst (v := 2) dL_law_1014 (by decide) ?_
        refine mj_iadd dL_law_1015 ?_
        refine mj_iald dL_law_1016 (Or.inr hk_a0) ⟨h.1, ?_⟩
        replace h := h.2
        refine mj_callVi (as := [.int (m_gi S105 a0 ((x4 + (1 : Int32))).toNatClampNeg), .int (m_gi S105 a0 ((x4 + (2 : Int32))).toNatClampNeg)]) (st := [.int r106]) dL_law_1017 cal_X11_log lk_L_119 im_X11_log se_X11_log (ci := 10) rfl (by decide) hk_a2 h rfl (Nat.le_of_ble_eq_true rfl) (by decide) ⟨by omega, by omega⟩ (fun S107 r108 h hn_r108 hp => ?_)
        have hk_a0 : m_kd S107 a0 = 110 := m_kd_pre hp hk_a0 (by decide)
        have hk_a1 : m_kd S107 a1 = 9 := m_kd_pre hp hk_a1 (by decide)
        have hk_a2 : m_kd S107 a2 = 10 := m_kd_pre hp hk_a2 (by decide)
        have hk_a3 : m_kd S107 a3 = 102 := m_kd_pre hp hk_a3 (by decide)
        refine mj_icmp_eq (tgt := 1737) dL_law_1020 (by decide) ⟨fun hc => ?_, fun hc => ?_⟩
        · replace h := h.1 hc
          obtain ⟨v109, ev109⟩ : ∃ z : Int32, z = x4 + (6 : Int32) := ⟨_, rfl⟩
          refine mj_iinc (v := v109) dL_law_1737 rfl (by rw [ev109]; rfl) (by decide) rfl rfl ?_
          replace h := h v109 ev109
          refine mj_goto (tgt := 23) dL_law_1740 (by decide) ?_
          exact h
        · replace h := h.2 hc
          refine mj_iconst (v := 0) dL_law_1023 (by decide) ?_
          exact mj_lrety dL_law_1024 h (by omega) (by omega)
      · replace h := h.2.2.2.2.2.2.2.2.2.2.2.2.2.2.2.2.2.2.2.2.2.2.1 e
        refine mj_tabIn (tgt := 1025) (off := 985) dL_law_40 (by omega) (by omega) (by rw [e]; rfl) (by decide) ?_
        refine mj_aload_n dL_law_1025 rfl rfl ?_
        refine mj_aload_n dL_law_1026 rfl rfl ?_
        refine mj_iload dL_law_1027 rfl ?_
        refine mj_iconst (v := 1) dL_law_1029 (by decide) ?_
        refine mj_iadd dL_law_1030 ?_
        refine mj_iald dL_law_1031 (Or.inr hk_a0) ⟨h.1, ?_⟩
        replace h := h.2
        refine mj_aload_n dL_law_1032 rfl rfl ?_
        refine mj_iload dL_law_1033 rfl ?_
        refine mj_iconst (v := 2) dL_law_1035 (by decide) ?_
        refine mj_iadd dL_law_1036 ?_
        refine mj_iald dL_law_1037 (Or.inr hk_a0) ⟨h.1, ?_⟩
        replace h := h.2
        refine mj_callVi (as := [.int (m_gi S a0 ((x4 + (1 : Int32))).toNatClampNeg), .int (m_gi S a0 ((x4 + (2 : Int32))).toNatClampNeg)]) (st := []) dL_law_1038 cal_X10_join lk_L_120 im_X10_join se_X10_join (ci := 9) rfl (by decide) hk_a1 h rfl (Nat.le_of_ble_eq_true rfl) (by decide) ⟨by omega, by omega⟩ (fun S110 r111 h hn_r111 hp => ?_)
        have hk_a0 : m_kd S110 a0 = 110 := m_kd_pre hp hk_a0 (by decide)
        have hk_a1 : m_kd S110 a1 = 9 := m_kd_pre hp hk_a1 (by decide)
        have hk_a2 : m_kd S110 a2 = 10 := m_kd_pre hp hk_a2 (by decide)
        have hk_a3 : m_kd S110 a3 = 102 := m_kd_pre hp hk_a3 (by decide)
        refine mj_aload_n dL_law_1041 rfl rfl ?_
        refine mj_aload_n dL_law_1042 rfl rfl ?_
        refine mj_iload dL_law_1043 rfl ?_
        refine mj_iconst (v := 1) dL_law_1045 (by decide) ?_
        refine mj_iadd dL_law_1046 ?_
        refine mj_iald dL_law_1047 (Or.inr hk_a0) ⟨h.1, ?_⟩
        replace h := h.2
        refine mj_aload_n dL_law_1048 rfl rfl ?_
        refine mj_iload dL_law_1049 rfl ?_
        refine mj_iconst (v := 2) dL_law_1051 (by decide) ?_
        refine mj_iadd dL_law_1052 ?_
        refine mj_iald dL_law_1053 (Or.inr hk_a0) ⟨h.1, ?_⟩
        replace h := h.2
        refine mj_callVi (as := [.int (m_gi S110 a0 ((x4 + (1 : Int32))).toNatClampNeg), .int (m_gi S110 a0 ((x4 + (2 : Int32))).toNatClampNeg)]) (st := [.int r111]) dL_law_1054 cal_X11_join lk_L_123 im_X11_join se_X11_join (ci := 10) rfl (by decide) hk_a2 h rfl (Nat.le_of_ble_eq_true rfl) (by decide) ⟨by omega, by omega⟩ (fun S112 r113 h hn_r113 hp => ?_)
        have hk_a0 : m_kd S112 a0 = 110 := m_kd_pre hp hk_a0 (by decide)
        have hk_a1 : m_kd S112 a1 = 9 := m_kd_pre hp hk_a1 (by decide)
        have hk_a2 : m_kd S112 a2 = 10 := m_kd_pre hp hk_a2 (by decide)
        have hk_a3 : m_kd S112 a3 = 102 := m_kd_pre hp hk_a3 (by decide)
        refine mj_icmp_eq (tgt := 1737) dL_law_1057 (by decide) ⟨fun hc => ?_, fun hc => ?_⟩
        · replace h := h.1 hc
          obtain ⟨v114, ev114⟩ : ∃ z : Int32, z = x4 + (6 : Int32) := ⟨_, rfl⟩
          refine mj_iinc (v := v114) dL_law_1737 rfl (by rw [ev114]; rfl) (by decide) rfl rfl ?_
          replace h := h v114 ev114
          refine mj_goto (tgt := 23) dL_law_1740 (by decide) ?_
          exact h
        · replace h := h.2 hc
          refine mj_iconst (v := 0) dL_law_1060 (by decide) ?_
          exact mj_lrety dL_law_1061 h (by omega) (by omega)
      · replace h := h.2.2.2.2.2.2.2.2.2.2.2.2.2.2.2.2.2.2.2.2.2.2.2.1 e
        refine mj_tabIn (tgt := 1062) (off := 1022) dL_law_40 (by omega) (by omega) (by rw [e]; rfl) (by decide) ?_
        refine mj_aload_n dL_law_1062 rfl rfl ?_
        refine mj_aload_n dL_law_1063 rfl rfl ?_
        refine mj_iload dL_law_1064 rfl ?_
        refine mj_iconst (v := 1) dL_law_1066 (by decide) ?_
        refine mj_iadd dL_law_1067 ?_
        refine mj_iald dL_law_1068 (Or.inr hk_a0) ⟨h.1, ?_⟩
        replace h := h.2
        refine mj_aload_n dL_law_1069 rfl rfl ?_
        refine mj_iload dL_law_1070 rfl ?_
        refine mj_iconst (v := 2) dL_law_1072 (by decide) ?_
        refine mj_iadd dL_law_1073 ?_
        refine mj_iald dL_law_1074 (Or.inr hk_a0) ⟨h.1, ?_⟩
        replace h := h.2
        refine mj_aload_n dL_law_1075 rfl rfl ?_
        refine mj_iload dL_law_1076 rfl ?_
        refine mj_iconst (v := 3) dL_law_1078 (by decide) ?_
        refine mj_iadd dL_law_1079 ?_
        refine mj_iald dL_law_1080 (Or.inr hk_a0) ⟨h.1, ?_⟩
        replace h := h.2
        refine mj_callVi (as := [.int (m_gi S a0 ((x4 + (1 : Int32))).toNatClampNeg), .int (m_gi S a0 ((x4 + (2 : Int32))).toNatClampNeg), .int (m_gi S a0 ((x4 + (3 : Int32))).toNatClampNeg)]) (st := []) dL_law_1081 cal_X10_hide lk_L_124 im_X10_hide se_X10_hide (ci := 9) rfl (by decide) hk_a1 h rfl (Nat.le_of_ble_eq_true rfl) (by decide) ⟨by omega, by omega⟩ (fun S115 r116 h hn_r116 hp => ?_)
        have hk_a0 : m_kd S115 a0 = 110 := m_kd_pre hp hk_a0 (by decide)
        have hk_a1 : m_kd S115 a1 = 9 := m_kd_pre hp hk_a1 (by decide)
        have hk_a2 : m_kd S115 a2 = 10 := m_kd_pre hp hk_a2 (by decide)
        have hk_a3 : m_kd S115 a3 = 102 := m_kd_pre hp hk_a3 (by decide)
        refine mj_aload_n dL_law_1084 rfl rfl ?_
        refine mj_aload_n dL_law_1085 rfl rfl ?_
        refine mj_iload dL_law_1086 rfl ?_
        refine mj_iconst (v := 1) dL_law_1088 (by decide) ?_
        refine mj_iadd dL_law_1089 ?_
        refine mj_iald dL_law_1090 (Or.inr hk_a0) ⟨h.1, ?_⟩
        replace h := h.2
        refine mj_aload_n dL_law_1091 rfl rfl ?_
        refine mj_iload dL_law_1092 rfl ?_
        refine mj_iconst (v := 2) dL_law_1094 (by decide) ?_
        refine mj_iadd dL_law_1095 ?_
        refine mj_iald dL_law_1096 (Or.inr hk_a0) ⟨h.1, ?_⟩
        replace h := h.2
        refine mj_aload_n dL_law_1097 rfl rfl ?_
        refine mj_iload dL_law_1098 rfl ?_
        refine mj_iconst (v := 3) dL_law_1100 (by decide) ?_
        refine mj_iadd dL_law_1101 ?_
        refine mj_iald dL_law_1102 (Or.inr hk_a0) ⟨h.1, ?_⟩
        replace h := h.2
        refine mj_callVi (as := [.int (m_gi S115 a0 ((x4 + (1 : Int32))).toNatClampNeg), .int (m_gi S115 a0 ((x4 + (2 : Int32))).toNatClampNeg), .int (m_gi S115 a0 ((x4 + (3 : Int32))).toNatClampNeg)]) (st := [.int r116]) dL_law_1103 cal_X11_hide lk_L_128 im_X11_hide se_X11_hide (ci := 10) rfl (by decide) hk_a2 h rfl (Nat.le_of_ble_eq_true rfl) (by decide) ⟨by omega, by omega⟩ (fun S117 r118 h hn_r118 hp => ?_)
        have hk_a0 : m_kd S117 a0 = 110 := m_kd_pre hp hk_a0 (by decide)
        have hk_a1 : m_kd S117 a1 = 9 := m_kd_pre hp hk_a1 (by decide)
        have hk_a2 : m_kd S117 a2 = 10 := m_kd_pre hp hk_a2 (by decide)
        have hk_a3 : m_kd S117 a3 = 102 := m_kd_pre hp hk_a3 (by decide)
        refine mj_icmp_eq (tgt := 1737) dL_law_1106 (by decide) ⟨fun hc => ?_, fun hc => ?_⟩
        · replace h := h.1 hc
          obtain ⟨v119, ev119⟩ : ∃ z : Int32, z = x4 + (6 : Int32) := ⟨_, rfl⟩
          refine mj_iinc (v := v119) dL_law_1737 rfl (by rw [ev119]; rfl) (by decide) rfl rfl ?_
          replace h := h v119 ev119
          refine mj_goto (tgt := 23) dL_law_1740 (by decide) ?_
          exact h
        · replace h := h.2 hc
          refine mj_iconst (v := 0) dL_law_1109 (by decide) ?_
          exact mj_lrety dL_law_1110 h (by omega) (by omega)
      · replace h := h.2.2.2.2.2.2.2.2.2.2.2.2.2.2.2.2.2.2.2.2.2.2.2.2.1 e
        refine mj_tabIn (tgt := 1111) (off := 1071) dL_law_40 (by omega) (by omega) (by rw [e]; rfl) (by decide) ?_
        refine mj_aload_n dL_law_1111 rfl rfl ?_
        refine mj_aload_n dL_law_1112 rfl rfl ?_
        refine mj_iload dL_law_1113 rfl ?_
        refine mj_iconst (v := 1) dL_law_1115 (by decide) ?_
        refine mj_iadd dL_law_1116 ?_
        refine mj_iald dL_law_1117 (Or.inr hk_a0) ⟨h.1, ?_⟩
        replace h := h.2
        refine mj_aload_n dL_law_1118 rfl rfl ?_
        refine mj_iload dL_law_1119 rfl ?_
        refine mj_iconst (v := 2) dL_law_1121 (by decide) ?_
        refine mj_iadd dL_law_1122 ?_
        refine mj_iald dL_law_1123 (Or.inr hk_a0) ⟨h.1, ?_⟩
        replace h := h.2
        refine mj_callVi (as := [.int (m_gi S a0 ((x4 + (1 : Int32))).toNatClampNeg), .int (m_gi S a0 ((x4 + (2 : Int32))).toNatClampNeg)]) (st := []) dL_law_1124 cal_X10_seen lk_L_129 im_X10_seen se_X10_seen (ci := 9) rfl (by decide) hk_a1 h rfl (Nat.le_of_ble_eq_true rfl) (by decide) ⟨by omega, by omega⟩ (fun S120 r121 h hn_r121 hp => ?_)
        have hk_a0 : m_kd S120 a0 = 110 := m_kd_pre hp hk_a0 (by decide)
        have hk_a1 : m_kd S120 a1 = 9 := m_kd_pre hp hk_a1 (by decide)
        have hk_a2 : m_kd S120 a2 = 10 := m_kd_pre hp hk_a2 (by decide)
        have hk_a3 : m_kd S120 a3 = 102 := m_kd_pre hp hk_a3 (by decide)
        refine mj_aload_n dL_law_1127 rfl rfl ?_
        refine mj_aload_n dL_law_1128 rfl rfl ?_
        refine mj_iload dL_law_1129 rfl ?_
        refine mj_iconst (v := 1) dL_law_1131 (by decide) ?_
        refine mj_iadd dL_law_1132 ?_
        refine mj_iald dL_law_1133 (Or.inr hk_a0) ⟨h.1, ?_⟩
        replace h := h.2
        refine mj_aload_n dL_law_1134 rfl rfl ?_
        refine mj_iload dL_law_1135 rfl ?_
        refine mj_iconst (v := 2) dL_law_1137 (by decide) ?_
        refine mj_iadd dL_law_1138 ?_
        refine mj_iald dL_law_1139 (Or.inr hk_a0) ⟨h.1, ?_⟩
        replace h := h.2
        refine mj_callVi (as := [.int (m_gi S120 a0 ((x4 + (1 : Int32))).toNatClampNeg), .int (m_gi S120 a0 ((x4 + (2 : Int32))).toNatClampNeg)]) (st := [.int r121]) dL_law_1140 cal_X11_seen lk_L_132 im_X11_seen se_X11_seen (ci := 10) rfl (by decide) hk_a2 h rfl (Nat.le_of_ble_eq_true rfl) (by decide) ⟨by omega, by omega⟩ (fun S122 r123 h hn_r123 hp => ?_)
        have hk_a0 : m_kd S122 a0 = 110 := m_kd_pre hp hk_a0 (by decide)
        have hk_a1 : m_kd S122 a1 = 9 := m_kd_pre hp hk_a1 (by decide)
        have hk_a2 : m_kd S122 a2 = 10 := m_kd_pre hp hk_a2 (by decide)
        have hk_a3 : m_kd S122 a3 = 102 := m_kd_pre hp hk_a3 (by decide)
        refine mj_icmp_eq (tgt := 1737) dL_law_1143 (by decide) ⟨fun hc => ?_, fun hc => ?_⟩
        · replace h := h.1 hc
          obtain ⟨v124, ev124⟩ : ∃ z : Int32, z = x4 + (6 : Int32) := ⟨_, rfl⟩
          refine mj_iinc (v := v124) dL_law_1737 rfl (by rw [ev124]; rfl) (by decide) rfl rfl ?_
          replace h := h v124 ev124
          refine mj_goto (tgt := 23) dL_law_1740 (by decide) ?_
          exact h
        · replace h := h.2 hc
          refine mj_iconst (v := 0) dL_law_1146 (by decide) ?_
          exact mj_lrety dL_law_1147 h (by omega) (by omega)
      · replace h := h.2.2.2.2.2.2.2.2.2.2.2.2.2.2.2.2.2.2.2.2.2.2.2.2.2.1 e
        refine mj_tabIn (tgt := 1148) (off := 1108) dL_law_40 (by omega) (by omega) (by rw [e]; rfl) (by decide) ?_
        refine mj_aload_n dL_law_1148 rfl rfl ?_
        refine mj_aload_n dL_law_1149 rfl rfl ?_
        refine mj_iload dL_law_1150 rfl ?_
        refine mj_iconst (v := 1) dL_law_1152 (by decide) ?_
        refine mj_iadd dL_law_1153 ?_
        refine mj_iald dL_law_1154 (Or.inr hk_a0) ⟨h.1, ?_⟩
        replace h := h.2
        refine mj_aload_n dL_law_1155 rfl rfl ?_
        refine mj_iload dL_law_1156 rfl ?_
        refine mj_iconst (v := 2) dL_law_1158 (by decide) ?_
        refine mj_iadd dL_law_1159 ?_
        refine mj_iald dL_law_1160 (Or.inr hk_a0) ⟨h.1, ?_⟩
        replace h := h.2
        refine mj_aload_n dL_law_1161 rfl rfl ?_
        refine mj_iload dL_law_1162 rfl ?_
        refine mj_iconst (v := 3) dL_law_1164 (by decide) ?_
        refine mj_iadd dL_law_1165 ?_
        refine mj_iald dL_law_1166 (Or.inr hk_a0) ⟨h.1, ?_⟩
        replace h := h.2
        refine mj_callVi (as := [.int (m_gi S a0 ((x4 + (1 : Int32))).toNatClampNeg), .int (m_gi S a0 ((x4 + (2 : Int32))).toNatClampNeg), .int (m_gi S a0 ((x4 + (3 : Int32))).toNatClampNeg)]) (st := []) dL_law_1167 cal_X10_under lk_L_133 im_X10_under se_X10_under (ci := 9) rfl (by decide) hk_a1 h rfl (Nat.le_of_ble_eq_true rfl) (by decide) ⟨by omega, by omega⟩ (fun S125 r126 h hn_r126 hp => ?_)
        have hk_a0 : m_kd S125 a0 = 110 := m_kd_pre hp hk_a0 (by decide)
        have hk_a1 : m_kd S125 a1 = 9 := m_kd_pre hp hk_a1 (by decide)
        have hk_a2 : m_kd S125 a2 = 10 := m_kd_pre hp hk_a2 (by decide)
        have hk_a3 : m_kd S125 a3 = 102 := m_kd_pre hp hk_a3 (by decide)
        refine mj_aload_n dL_law_1170 rfl rfl ?_
        refine mj_aload_n dL_law_1171 rfl rfl ?_
        refine mj_iload dL_law_1172 rfl ?_
        refine mj_iconst (v := 1) dL_law_1174 (by decide) ?_
        refine mj_iadd dL_law_1175 ?_
        refine mj_iald dL_law_1176 (Or.inr hk_a0) ⟨h.1, ?_⟩
        replace h := h.2
        refine mj_aload_n dL_law_1177 rfl rfl ?_
        refine mj_iload dL_law_1178 rfl ?_
        refine mj_iconst (v := 2) dL_law_1180 (by decide) ?_
        refine mj_iadd dL_law_1181 ?_
        refine mj_iald dL_law_1182 (Or.inr hk_a0) ⟨h.1, ?_⟩
        replace h := h.2
        refine mj_aload_n dL_law_1183 rfl rfl ?_
        refine mj_iload dL_law_1184 rfl ?_
        refine mj_iconst (v := 3) dL_law_1186 (by decide) ?_
        refine mj_iadd dL_law_1187 ?_
        refine mj_iald dL_law_1188 (Or.inr hk_a0) ⟨h.1, ?_⟩
        replace h := h.2
        refine mj_callVi (as := [.int (m_gi S125 a0 ((x4 + (1 : Int32))).toNatClampNeg), .int (m_gi S125 a0 ((x4 + (2 : Int32))).toNatClampNeg), .int (m_gi S125 a0 ((x4 + (3 : Int32))).toNatClampNeg)]) (st := [.int r126]) dL_law_1189 cal_X11_under lk_L_136 im_X11_under se_X11_under (ci := 10) rfl (by decide) hk_a2 h rfl (Nat.le_of_ble_eq_true rfl) (by decide) ⟨by omega, by omega⟩ (fun S127 r128 h hn_r128 hp => ?_)
        have hk_a0 : m_kd S127 a0 = 110 := m_kd_pre hp hk_a0 (by decide)
        have hk_a1 : m_kd S127 a1 = 9 := m_kd_pre hp hk_a1 (by decide)
        have hk_a2 : m_kd S127 a2 = 10 := m_kd_pre hp hk_a2 (by decide)
        have hk_a3 : m_kd S127 a3 = 102 := m_kd_pre hp hk_a3 (by decide)
        refine mj_icmp_eq (tgt := 1737) dL_law_1192 (by decide) ⟨fun hc => ?_, fun hc => ?_⟩
        · replace h := h.1 hc
          obtain ⟨v129, ev129⟩ : ∃ z : Int32, z = x4 + (6 : Int32) := ⟨_, rfl⟩
          refine mj_iinc (v := v129) dL_law_1737 rfl (by rw [ev129]; rfl) (by decide) rfl rfl ?_
          replace h := h v129 ev129
          refine mj_goto (tgt := 23) dL_law_1740 (by decide) ?_
          exact h
        · replace h := h.2 hc
          refine mj_iconst (v := 0) dL_law_1195 (by decide) ?_
          exact mj_lrety dL_law_1196 h (by omega) (by omega)
      · replace h := h.2.2.2.2.2.2.2.2.2.2.2.2.2.2.2.2.2.2.2.2.2.2.2.2.2.2.1 e
        refine mj_tabIn (tgt := 1197) (off := 1157) dL_law_40 (by omega) (by omega) (by rw [e]; rfl) (by decide) ?_
        refine mj_aload_n dL_law_1197 rfl rfl ?_
        refine mj_aload_n dL_law_1198 rfl rfl ?_
        refine mj_iload dL_law_1199 rfl ?_
        refine mj_iconst (v := 1) dL_law_1201 (by decide) ?_
        refine mj_iadd dL_law_1202 ?_
        refine mj_iald dL_law_1203 (Or.inr hk_a0) ⟨h.1, ?_⟩
        replace h := h.2
        refine mj_callVi (as := [.int (m_gi S a0 ((x4 + (1 : Int32))).toNatClampNeg)]) (st := []) dL_law_1204 cal_X10_lead lk_L_137 im_X10_lead se_X10_lead (ci := 9) rfl (by decide) hk_a1 h rfl (Nat.le_of_ble_eq_true rfl) (by decide) ⟨by omega, by omega⟩ (fun S130 r131 h hn_r131 hp => ?_)
        have hk_a0 : m_kd S130 a0 = 110 := m_kd_pre hp hk_a0 (by decide)
        have hk_a1 : m_kd S130 a1 = 9 := m_kd_pre hp hk_a1 (by decide)
        have hk_a2 : m_kd S130 a2 = 10 := m_kd_pre hp hk_a2 (by decide)
        have hk_a3 : m_kd S130 a3 = 102 := m_kd_pre hp hk_a3 (by decide)
        refine mj_aload_n dL_law_1207 rfl rfl ?_
        refine mj_aload_n dL_law_1208 rfl rfl ?_
        refine mj_iload dL_law_1209 rfl ?_
        refine mj_iconst (v := 1) dL_law_1211 (by decide) ?_
        refine mj_iadd dL_law_1212 ?_
        refine mj_iald dL_law_1213 (Or.inr hk_a0) ⟨h.1, ?_⟩
        replace h := h.2
        refine mj_callVi (as := [.int (m_gi S130 a0 ((x4 + (1 : Int32))).toNatClampNeg)]) (st := [.int r131]) dL_law_1214 cal_X11_lead lk_L_140 im_X11_lead se_X11_lead (ci := 10) rfl (by decide) hk_a2 h rfl (Nat.le_of_ble_eq_true rfl) (by decide) ⟨by omega, by omega⟩ (fun S132 r133 h hn_r133 hp => ?_)
        have hk_a0 : m_kd S132 a0 = 110 := m_kd_pre hp hk_a0 (by decide)
        have hk_a1 : m_kd S132 a1 = 9 := m_kd_pre hp hk_a1 (by decide)
        have hk_a2 : m_kd S132 a2 = 10 := m_kd_pre hp hk_a2 (by decide)
        have hk_a3 : m_kd S132 a3 = 102 := m_kd_pre hp hk_a3 (by decide)
        refine mj_icmp_eq (tgt := 1737) dL_law_1217 (by decide) ⟨fun hc => ?_, fun hc => ?_⟩
        · replace h := h.1 hc
          obtain ⟨v134, ev134⟩ : ∃ z : Int32, z = x4 + (6 : Int32) := ⟨_, rfl⟩
          refine mj_iinc (v := v134) dL_law_1737 rfl (by rw [ev134]; rfl) (by decide) rfl rfl ?_
          replace h := h v134 ev134
          refine mj_goto (tgt := 23) dL_law_1740 (by decide) ?_
          exact h
        · replace h := h.2 hc
          refine mj_iconst (v := 0) dL_law_1220 (by decide) ?_
          exact mj_lrety dL_law_1221 h (by omega) (by omega)
      · replace h := h.2.2.2.2.2.2.2.2.2.2.2.2.2.2.2.2.2.2.2.2.2.2.2.2.2.2.2.1 e
        refine mj_tabIn (tgt := 1222) (off := 1182) dL_law_40 (by omega) (by omega) (by rw [e]; rfl) (by decide) ?_
        refine mj_aload_n dL_law_1222 rfl rfl ?_
        refine mj_aload_n dL_law_1223 rfl rfl ?_
        refine mj_iload dL_law_1224 rfl ?_
        refine mj_iconst (v := 1) dL_law_1226 (by decide) ?_
        refine mj_iadd dL_law_1227 ?_
        refine mj_iald dL_law_1228 (Or.inr hk_a0) ⟨h.1, ?_⟩
        replace h := h.2
        refine mj_callVi (as := [.int (m_gi S a0 ((x4 + (1 : Int32))).toNatClampNeg)]) (st := []) dL_law_1229 cal_X10_first lk_L_141 im_X10_first se_X10_first (ci := 9) rfl (by decide) hk_a1 h rfl (Nat.le_of_ble_eq_true rfl) (by decide) ⟨by omega, by omega⟩ (fun S135 r136 h hn_r136 hp => ?_)
        have hk_a0 : m_kd S135 a0 = 110 := m_kd_pre hp hk_a0 (by decide)
        have hk_a1 : m_kd S135 a1 = 9 := m_kd_pre hp hk_a1 (by decide)
        have hk_a2 : m_kd S135 a2 = 10 := m_kd_pre hp hk_a2 (by decide)
        have hk_a3 : m_kd S135 a3 = 102 := m_kd_pre hp hk_a3 (by decide)
        refine mj_aload_n dL_law_1232 rfl rfl ?_
        refine mj_aload_n dL_law_1233 rfl rfl ?_
        refine mj_iload dL_law_1234 rfl ?_
        refine mj_iconst (v := 1) dL_law_1236 (by decide) ?_
        refine mj_iadd dL_law_1237 ?_
        refine mj_iald dL_law_1238 (Or.inr hk_a0) ⟨h.1, ?_⟩
        replace h := h.2
        refine mj_callVi (as := [.int (m_gi S135 a0 ((x4 + (1 : Int32))).toNatClampNeg)]) (st := [.int r136]) dL_law_1239 cal_X11_first lk_L_144 im_X11_first se_X11_first (ci := 10) rfl (by decide) hk_a2 h rfl (Nat.le_of_ble_eq_true rfl) (by decide) ⟨by omega, by omega⟩ (fun S137 r138 h hn_r138 hp => ?_)
        have hk_a0 : m_kd S137 a0 = 110 := m_kd_pre hp hk_a0 (by decide)
        have hk_a1 : m_kd S137 a1 = 9 := m_kd_pre hp hk_a1 (by decide)
        have hk_a2 : m_kd S137 a2 = 10 := m_kd_pre hp hk_a2 (by decide)
        have hk_a3 : m_kd S137 a3 = 102 := m_kd_pre hp hk_a3 (by decide)
        refine mj_icmp_eq (tgt := 1737) dL_law_1242 (by decide) ⟨fun hc => ?_, fun hc => ?_⟩
        · replace h := h.1 hc
          obtain ⟨v139, ev139⟩ : ∃ z : Int32, z = x4 + (6 : Int32) := ⟨_, rfl⟩
          refine mj_iinc (v := v139) dL_law_1737 rfl (by rw [ev139]; rfl) (by decide) rfl rfl ?_
          replace h := h v139 ev139
          refine mj_goto (tgt := 23) dL_law_1740 (by decide) ?_
          exact h
        · replace h := h.2 hc
          refine mj_iconst (v := 0) dL_law_1245 (by decide) ?_
          exact mj_lrety dL_law_1246 h (by omega) (by omega)
      · replace h := h.2.2.2.2.2.2.2.2.2.2.2.2.2.2.2.2.2.2.2.2.2.2.2.2.2.2.2.2.1 e
        refine mj_tabIn (tgt := 1247) (off := 1207) dL_law_40 (by omega) (by omega) (by rw [e]; rfl) (by decide) ?_
        refine mj_aload_n dL_law_1247 rfl rfl ?_
        refine mj_aload_n dL_law_1248 rfl rfl ?_
        refine mj_iload dL_law_1249 rfl ?_
        refine mj_iconst (v := 1) dL_law_1251 (by decide) ?_
        refine mj_iadd dL_law_1252 ?_
        refine mj_iald dL_law_1253 (Or.inr hk_a0) ⟨h.1, ?_⟩
        replace h := h.2
        refine mj_callVi (as := [.int (m_gi S a0 ((x4 + (1 : Int32))).toNatClampNeg)]) (st := []) dL_law_1254 cal_X10_cloth lk_L_145 im_X10_cloth se_X10_cloth (ci := 9) rfl (by decide) hk_a1 h rfl (Nat.le_of_ble_eq_true rfl) (by decide) ⟨by omega, by omega⟩ (fun S140 r141 h hn_r141 hp => ?_)
        have hk_a0 : m_kd S140 a0 = 110 := m_kd_pre hp hk_a0 (by decide)
        have hk_a1 : m_kd S140 a1 = 9 := m_kd_pre hp hk_a1 (by decide)
        have hk_a2 : m_kd S140 a2 = 10 := m_kd_pre hp hk_a2 (by decide)
        have hk_a3 : m_kd S140 a3 = 102 := m_kd_pre hp hk_a3 (by decide)
        refine mj_aload_n dL_law_1257 rfl rfl ?_
        refine mj_aload_n dL_law_1258 rfl rfl ?_
        refine mj_iload dL_law_1259 rfl ?_
        refine mj_iconst (v := 1) dL_law_1261 (by decide) ?_
        refine mj_iadd dL_law_1262 ?_
        refine mj_iald dL_law_1263 (Or.inr hk_a0) ⟨h.1, ?_⟩
        replace h := h.2
        refine mj_callVi (as := [.int (m_gi S140 a0 ((x4 + (1 : Int32))).toNatClampNeg)]) (st := [.int r141]) dL_law_1264 cal_X11_cloth lk_L_148 im_X11_cloth se_X11_cloth (ci := 10) rfl (by decide) hk_a2 h rfl (Nat.le_of_ble_eq_true rfl) (by decide) ⟨by omega, by omega⟩ (fun S142 r143 h hn_r143 hp => ?_)
        have hk_a0 : m_kd S142 a0 = 110 := m_kd_pre hp hk_a0 (by decide)
        have hk_a1 : m_kd S142 a1 = 9 := m_kd_pre hp hk_a1 (by decide)
        have hk_a2 : m_kd S142 a2 = 10 := m_kd_pre hp hk_a2 (by decide)
        have hk_a3 : m_kd S142 a3 = 102 := m_kd_pre hp hk_a3 (by decide)
        refine mj_icmp_eq (tgt := 1737) dL_law_1267 (by decide) ⟨fun hc => ?_, fun hc => ?_⟩
        · replace h := h.1 hc
          obtain ⟨v144, ev144⟩ : ∃ z : Int32, z = x4 + (6 : Int32) := ⟨_, rfl⟩
          refine mj_iinc (v := v144) dL_law_1737 rfl (by rw [ev144]; rfl) (by decide) rfl rfl ?_
          replace h := h v144 ev144
          refine mj_goto (tgt := 23) dL_law_1740 (by decide) ?_
          exact h
        · replace h := h.2 hc
          refine mj_iconst (v := 0) dL_law_1270 (by decide) ?_
          exact mj_lrety dL_law_1271 h (by omega) (by omega)
      · replace h := h.2.2.2.2.2.2.2.2.2.2.2.2.2.2.2.2.2.2.2.2.2.2.2.2.2.2.2.2.2.1 e
        refine mj_tabIn (tgt := 1272) (off := 1232) dL_law_40 (by omega) (by omega) (by rw [e]; rfl) (by decide) ?_
        refine mj_aload_n dL_law_1272 rfl rfl ?_
        refine mj_aload_n dL_law_1273 rfl rfl ?_
        refine mj_iload dL_law_1274 rfl ?_
        refine mj_iconst (v := 1) dL_law_1276 (by decide) ?_
        refine mj_iadd dL_law_1277 ?_
        refine mj_iald dL_law_1278 (Or.inr hk_a0) ⟨h.1, ?_⟩
        replace h := h.2
        refine mj_aload_n dL_law_1279 rfl rfl ?_
        refine mj_iload dL_law_1280 rfl ?_
        refine mj_iconst (v := 2) dL_law_1282 (by decide) ?_
        refine mj_iadd dL_law_1283 ?_
        refine mj_iald dL_law_1284 (Or.inr hk_a0) ⟨h.1, ?_⟩
        replace h := h.2
        refine mj_aload_n dL_law_1285 rfl rfl ?_
        refine mj_iload dL_law_1286 rfl ?_
        refine mj_iconst (v := 3) dL_law_1288 (by decide) ?_
        refine mj_iadd dL_law_1289 ?_
        refine mj_iald dL_law_1290 (Or.inr hk_a0) ⟨h.1, ?_⟩
        replace h := h.2
        refine mj_aload_n dL_law_1291 rfl rfl ?_
        refine mj_iload dL_law_1292 rfl ?_
        refine mj_iconst (v := 4) dL_law_1294 (by decide) ?_
        refine mj_iadd dL_law_1295 ?_
        refine mj_iald dL_law_1296 (Or.inr hk_a0) ⟨h.1, ?_⟩
        replace h := h.2
        refine mj_aload_n dL_law_1297 rfl rfl ?_
        refine mj_iload dL_law_1298 rfl ?_
        refine mj_iconst (v := 5) dL_law_1300 (by decide) ?_
        refine mj_iadd dL_law_1301 ?_
        refine mj_iald dL_law_1302 (Or.inr hk_a0) ⟨h.1, ?_⟩
        replace h := h.2
        refine mj_callVi (as := [.int (m_gi S a0 ((x4 + (1 : Int32))).toNatClampNeg), .int (m_gi S a0 ((x4 + (2 : Int32))).toNatClampNeg), .int (m_gi S a0 ((x4 + (3 : Int32))).toNatClampNeg), .int (m_gi S a0 ((x4 + (4 : Int32))).toNatClampNeg), .int (m_gi S a0 ((x4 + (5 : Int32))).toNatClampNeg)]) (st := []) dL_law_1303 cal_X10_game lk_L_149 im_X10_game se_X10_game (ci := 9) rfl (by decide) hk_a1 h rfl (Nat.le_of_ble_eq_true rfl) (by decide) ⟨by omega, by omega⟩ (fun S145 r146 h hn_r146 hp => ?_)
        have hk_a0 : m_kd S145 a0 = 110 := m_kd_pre hp hk_a0 (by decide)
        have hk_a1 : m_kd S145 a1 = 9 := m_kd_pre hp hk_a1 (by decide)
        have hk_a2 : m_kd S145 a2 = 10 := m_kd_pre hp hk_a2 (by decide)
        have hk_a3 : m_kd S145 a3 = 102 := m_kd_pre hp hk_a3 (by decide)
        refine mj_aload_n dL_law_1306 rfl rfl ?_
        refine mj_aload_n dL_law_1307 rfl rfl ?_
        refine mj_iload dL_law_1308 rfl ?_
        refine mj_iconst (v := 1) dL_law_1310 (by decide) ?_
        refine mj_iadd dL_law_1311 ?_
        refine mj_iald dL_law_1312 (Or.inr hk_a0) ⟨h.1, ?_⟩
        replace h := h.2
        refine mj_aload_n dL_law_1313 rfl rfl ?_
        refine mj_iload dL_law_1314 rfl ?_
        refine mj_iconst (v := 2) dL_law_1316 (by decide) ?_
        refine mj_iadd dL_law_1317 ?_
        refine mj_iald dL_law_1318 (Or.inr hk_a0) ⟨h.1, ?_⟩
        replace h := h.2
        refine mj_aload_n dL_law_1319 rfl rfl ?_
        refine mj_iload dL_law_1320 rfl ?_
        refine mj_iconst (v := 3) dL_law_1322 (by decide) ?_
        refine mj_iadd dL_law_1323 ?_
        refine mj_iald dL_law_1324 (Or.inr hk_a0) ⟨h.1, ?_⟩
        replace h := h.2
        refine mj_aload_n dL_law_1325 rfl rfl ?_
        refine mj_iload dL_law_1326 rfl ?_
        refine mj_iconst (v := 4) dL_law_1328 (by decide) ?_
        refine mj_iadd dL_law_1329 ?_
        refine mj_iald dL_law_1330 (Or.inr hk_a0) ⟨h.1, ?_⟩
        replace h := h.2
        refine mj_aload_n dL_law_1331 rfl rfl ?_
        refine mj_iload dL_law_1332 rfl ?_
        refine mj_iconst (v := 5) dL_law_1334 (by decide) ?_
        refine mj_iadd dL_law_1335 ?_
        refine mj_iald dL_law_1336 (Or.inr hk_a0) ⟨h.1, ?_⟩
        replace h := h.2
        refine mj_callVi (as := [.int (m_gi S145 a0 ((x4 + (1 : Int32))).toNatClampNeg), .int (m_gi S145 a0 ((x4 + (2 : Int32))).toNatClampNeg), .int (m_gi S145 a0 ((x4 + (3 : Int32))).toNatClampNeg), .int (m_gi S145 a0 ((x4 + (4 : Int32))).toNatClampNeg), .int (m_gi S145 a0 ((x4 + (5 : Int32))).toNatClampNeg)]) (st := [.int r146]) dL_law_1337 cal_X11_game lk_L_152 im_X11_game se_X11_game (ci := 10) rfl (by decide) hk_a2 h rfl (Nat.le_of_ble_eq_true rfl) (by decide) ⟨by omega, by omega⟩ (fun S147 r148 h hn_r148 hp => ?_)
        have hk_a0 : m_kd S147 a0 = 110 := m_kd_pre hp hk_a0 (by decide)
        have hk_a1 : m_kd S147 a1 = 9 := m_kd_pre hp hk_a1 (by decide)
        have hk_a2 : m_kd S147 a2 = 10 := m_kd_pre hp hk_a2 (by decide)
        have hk_a3 : m_kd S147 a3 = 102 := m_kd_pre hp hk_a3 (by decide)
        refine mj_icmp_eq (tgt := 1737) dL_law_1340 (by decide) ⟨fun hc => ?_, fun hc => ?_⟩
        · replace h := h.1 hc
          obtain ⟨v149, ev149⟩ : ∃ z : Int32, z = x4 + (6 : Int32) := ⟨_, rfl⟩
          refine mj_iinc (v := v149) dL_law_1737 rfl (by rw [ev149]; rfl) (by decide) rfl rfl ?_
          replace h := h v149 ev149
          refine mj_goto (tgt := 23) dL_law_1740 (by decide) ?_
          exact h
        · replace h := h.2 hc
          refine mj_iconst (v := 0) dL_law_1343 (by decide) ?_
          exact mj_lrety dL_law_1344 h (by omega) (by omega)
      · replace h := h.2.2.2.2.2.2.2.2.2.2.2.2.2.2.2.2.2.2.2.2.2.2.2.2.2.2.2.2.2.2.1 e
        refine mj_tabIn (tgt := 1345) (off := 1305) dL_law_40 (by omega) (by omega) (by rw [e]; rfl) (by decide) ?_
        refine mj_aload_n dL_law_1345 rfl rfl ?_
        refine mj_aload_n dL_law_1346 rfl rfl ?_
        refine mj_iload dL_law_1347 rfl ?_
        refine mj_iconst (v := 1) dL_law_1349 (by decide) ?_
        refine mj_iadd dL_law_1350 ?_
        refine mj_iald dL_law_1351 (Or.inr hk_a0) ⟨h.1, ?_⟩
        replace h := h.2
        refine mj_aload_n dL_law_1352 rfl rfl ?_
        refine mj_iload dL_law_1353 rfl ?_
        refine mj_iconst (v := 2) dL_law_1355 (by decide) ?_
        refine mj_iadd dL_law_1356 ?_
        refine mj_iald dL_law_1357 (Or.inr hk_a0) ⟨h.1, ?_⟩
        replace h := h.2
        refine mj_aload_n dL_law_1358 rfl rfl ?_
        refine mj_iload dL_law_1359 rfl ?_
        refine mj_iconst (v := 3) dL_law_1361 (by decide) ?_
        refine mj_iadd dL_law_1362 ?_
        refine mj_iald dL_law_1363 (Or.inr hk_a0) ⟨h.1, ?_⟩
        replace h := h.2
        refine mj_callVi (as := [.int (m_gi S a0 ((x4 + (1 : Int32))).toNatClampNeg), .int (m_gi S a0 ((x4 + (2 : Int32))).toNatClampNeg), .int (m_gi S a0 ((x4 + (3 : Int32))).toNatClampNeg)]) (st := []) dL_law_1364 cal_X10_rests lk_L_153 im_X10_rests se_X10_rests (ci := 9) rfl (by decide) hk_a1 h rfl (Nat.le_of_ble_eq_true rfl) (by decide) ⟨by omega, by omega⟩ (fun S150 r151 h hn_r151 hp => ?_)
        have hk_a0 : m_kd S150 a0 = 110 := m_kd_pre hp hk_a0 (by decide)
        have hk_a1 : m_kd S150 a1 = 9 := m_kd_pre hp hk_a1 (by decide)
        have hk_a2 : m_kd S150 a2 = 10 := m_kd_pre hp hk_a2 (by decide)
        have hk_a3 : m_kd S150 a3 = 102 := m_kd_pre hp hk_a3 (by decide)
        refine mj_aload_n dL_law_1367 rfl rfl ?_
        refine mj_aload_n dL_law_1368 rfl rfl ?_
        refine mj_iload dL_law_1369 rfl ?_
        refine mj_iconst (v := 1) dL_law_1371 (by decide) ?_
        refine mj_iadd dL_law_1372 ?_
        refine mj_iald dL_law_1373 (Or.inr hk_a0) ⟨h.1, ?_⟩
        replace h := h.2
        refine mj_aload_n dL_law_1374 rfl rfl ?_
        refine mj_iload dL_law_1375 rfl ?_
        refine mj_iconst (v := 2) dL_law_1377 (by decide) ?_
        refine mj_iadd dL_law_1378 ?_
        refine mj_iald dL_law_1379 (Or.inr hk_a0) ⟨h.1, ?_⟩
        replace h := h.2
        refine mj_aload_n dL_law_1380 rfl rfl ?_
        refine mj_iload dL_law_1381 rfl ?_
        refine mj_iconst (v := 3) dL_law_1383 (by decide) ?_
        refine mj_iadd dL_law_1384 ?_
        refine mj_iald dL_law_1385 (Or.inr hk_a0) ⟨h.1, ?_⟩
        replace h := h.2
        refine mj_callVi (as := [.int (m_gi S150 a0 ((x4 + (1 : Int32))).toNatClampNeg), .int (m_gi S150 a0 ((x4 + (2 : Int32))).toNatClampNeg), .int (m_gi S150 a0 ((x4 + (3 : Int32))).toNatClampNeg)]) (st := [.int r151]) dL_law_1386 cal_X11_rests lk_L_156 im_X11_rests se_X11_rests (ci := 10) rfl (by decide) hk_a2 h rfl (Nat.le_of_ble_eq_true rfl) (by decide) ⟨by omega, by omega⟩ (fun S152 r153 h hn_r153 hp => ?_)
        have hk_a0 : m_kd S152 a0 = 110 := m_kd_pre hp hk_a0 (by decide)
        have hk_a1 : m_kd S152 a1 = 9 := m_kd_pre hp hk_a1 (by decide)
        have hk_a2 : m_kd S152 a2 = 10 := m_kd_pre hp hk_a2 (by decide)
        have hk_a3 : m_kd S152 a3 = 102 := m_kd_pre hp hk_a3 (by decide)
        refine mj_icmp_eq (tgt := 1737) dL_law_1389 (by decide) ⟨fun hc => ?_, fun hc => ?_⟩
        · replace h := h.1 hc
          obtain ⟨v154, ev154⟩ : ∃ z : Int32, z = x4 + (6 : Int32) := ⟨_, rfl⟩
          refine mj_iinc (v := v154) dL_law_1737 rfl (by rw [ev154]; rfl) (by decide) rfl rfl ?_
          replace h := h v154 ev154
          refine mj_goto (tgt := 23) dL_law_1740 (by decide) ?_
          exact h
        · replace h := h.2 hc
          refine mj_iconst (v := 0) dL_law_1392 (by decide) ?_
          exact mj_lrety dL_law_1393 h (by omega) (by omega)
      · replace h := h.2.2.2.2.2.2.2.2.2.2.2.2.2.2.2.2.2.2.2.2.2.2.2.2.2.2.2.2.2.2.2.1 e
        refine mj_tabIn (tgt := 1394) (off := 1354) dL_law_40 (by omega) (by omega) (by rw [e]; rfl) (by decide) ?_
        refine mj_aload_n dL_law_1394 rfl rfl ?_
        refine mj_aload_n dL_law_1395 rfl rfl ?_
        refine mj_iload dL_law_1396 rfl ?_
        refine mj_iconst (v := 1) dL_law_1398 (by decide) ?_
        refine mj_iadd dL_law_1399 ?_
        refine mj_iald dL_law_1400 (Or.inr hk_a0) ⟨h.1, ?_⟩
        replace h := h.2
        refine mj_aload_n dL_law_1401 rfl rfl ?_
        refine mj_iload dL_law_1402 rfl ?_
        refine mj_iconst (v := 2) dL_law_1404 (by decide) ?_
        refine mj_iadd dL_law_1405 ?_
        refine mj_iald dL_law_1406 (Or.inr hk_a0) ⟨h.1, ?_⟩
        replace h := h.2
        refine mj_callVi (as := [.int (m_gi S a0 ((x4 + (1 : Int32))).toNatClampNeg), .int (m_gi S a0 ((x4 + (2 : Int32))).toNatClampNeg)]) (st := []) dL_law_1407 cal_X10_treaty lk_L_157 im_X10_treaty se_X10_treaty (ci := 9) rfl (by decide) hk_a1 h rfl (Nat.le_of_ble_eq_true rfl) (by decide) ⟨by omega, by omega⟩ (fun S155 r156 h hn_r156 hp => ?_)
        have hk_a0 : m_kd S155 a0 = 110 := m_kd_pre hp hk_a0 (by decide)
        have hk_a1 : m_kd S155 a1 = 9 := m_kd_pre hp hk_a1 (by decide)
        have hk_a2 : m_kd S155 a2 = 10 := m_kd_pre hp hk_a2 (by decide)
        have hk_a3 : m_kd S155 a3 = 102 := m_kd_pre hp hk_a3 (by decide)
        refine mj_aload_n dL_law_1410 rfl rfl ?_
        refine mj_aload_n dL_law_1411 rfl rfl ?_
        refine mj_iload dL_law_1412 rfl ?_
        refine mj_iconst (v := 1) dL_law_1414 (by decide) ?_
        refine mj_iadd dL_law_1415 ?_
        refine mj_iald dL_law_1416 (Or.inr hk_a0) ⟨h.1, ?_⟩
        replace h := h.2
        refine mj_aload_n dL_law_1417 rfl rfl ?_
        refine mj_iload dL_law_1418 rfl ?_
        refine mj_iconst (v := 2) dL_law_1420 (by decide) ?_
        refine mj_iadd dL_law_1421 ?_
        refine mj_iald dL_law_1422 (Or.inr hk_a0) ⟨h.1, ?_⟩
        replace h := h.2
        refine mj_callVi (as := [.int (m_gi S155 a0 ((x4 + (1 : Int32))).toNatClampNeg), .int (m_gi S155 a0 ((x4 + (2 : Int32))).toNatClampNeg)]) (st := [.int r156]) dL_law_1423 cal_X11_treaty lk_L_160 im_X11_treaty se_X11_treaty (ci := 10) rfl (by decide) hk_a2 h rfl (Nat.le_of_ble_eq_true rfl) (by decide) ⟨by omega, by omega⟩ (fun S157 r158 h hn_r158 hp => ?_)
        have hk_a0 : m_kd S157 a0 = 110 := m_kd_pre hp hk_a0 (by decide)
        have hk_a1 : m_kd S157 a1 = 9 := m_kd_pre hp hk_a1 (by decide)
        have hk_a2 : m_kd S157 a2 = 10 := m_kd_pre hp hk_a2 (by decide)
        have hk_a3 : m_kd S157 a3 = 102 := m_kd_pre hp hk_a3 (by decide)
        refine mj_icmp_eq (tgt := 1737) dL_law_1426 (by decide) ⟨fun hc => ?_, fun hc => ?_⟩
        · replace h := h.1 hc
          obtain ⟨v159, ev159⟩ : ∃ z : Int32, z = x4 + (6 : Int32) := ⟨_, rfl⟩
          refine mj_iinc (v := v159) dL_law_1737 rfl (by rw [ev159]; rfl) (by decide) rfl rfl ?_
          replace h := h v159 ev159
          refine mj_goto (tgt := 23) dL_law_1740 (by decide) ?_
          exact h
        · replace h := h.2 hc
          refine mj_iconst (v := 0) dL_law_1429 (by decide) ?_
          exact mj_lrety dL_law_1430 h (by omega) (by omega)
      · replace h := h.2.2.2.2.2.2.2.2.2.2.2.2.2.2.2.2.2.2.2.2.2.2.2.2.2.2.2.2.2.2.2.2.1 e
        refine mj_tabIn (tgt := 1431) (off := 1391) dL_law_40 (by omega) (by omega) (by rw [e]; rfl) (by decide) ?_
        refine mj_aload_n dL_law_1431 rfl rfl ?_
        refine mj_aload_n dL_law_1432 rfl rfl ?_
        refine mj_iload dL_law_1433 rfl ?_
        refine mj_iconst (v := 1) dL_law_1435 (by decide) ?_
        refine mj_iadd dL_law_1436 ?_
        refine mj_iald dL_law_1437 (Or.inr hk_a0) ⟨h.1, ?_⟩
        replace h := h.2
        refine mj_callVi (as := [.int (m_gi S a0 ((x4 + (1 : Int32))).toNatClampNeg)]) (st := []) dL_law_1438 cal_X10_air lk_L_161 im_X10_air se_X10_air (ci := 9) rfl (by decide) hk_a1 h rfl (Nat.le_of_ble_eq_true rfl) (by decide) ⟨by omega, by omega⟩ (fun S160 r161 h hn_r161 hp => ?_)
        have hk_a0 : m_kd S160 a0 = 110 := m_kd_pre hp hk_a0 (by decide)
        have hk_a1 : m_kd S160 a1 = 9 := m_kd_pre hp hk_a1 (by decide)
        have hk_a2 : m_kd S160 a2 = 10 := m_kd_pre hp hk_a2 (by decide)
        have hk_a3 : m_kd S160 a3 = 102 := m_kd_pre hp hk_a3 (by decide)
        refine mj_aload_n dL_law_1441 rfl rfl ?_
        refine mj_aload_n dL_law_1442 rfl rfl ?_
        refine mj_iload dL_law_1443 rfl ?_
        refine mj_iconst (v := 1) dL_law_1445 (by decide) ?_
        refine mj_iadd dL_law_1446 ?_
        refine mj_iald dL_law_1447 (Or.inr hk_a0) ⟨h.1, ?_⟩
        replace h := h.2
        refine mj_callVi (as := [.int (m_gi S160 a0 ((x4 + (1 : Int32))).toNatClampNeg)]) (st := [.int r161]) dL_law_1448 cal_X11_air lk_L_164 im_X11_air se_X11_air (ci := 10) rfl (by decide) hk_a2 h rfl (Nat.le_of_ble_eq_true rfl) (by decide) ⟨by omega, by omega⟩ (fun S162 r163 h hn_r163 hp => ?_)
        have hk_a0 : m_kd S162 a0 = 110 := m_kd_pre hp hk_a0 (by decide)
        have hk_a1 : m_kd S162 a1 = 9 := m_kd_pre hp hk_a1 (by decide)
        have hk_a2 : m_kd S162 a2 = 10 := m_kd_pre hp hk_a2 (by decide)
        have hk_a3 : m_kd S162 a3 = 102 := m_kd_pre hp hk_a3 (by decide)
        refine mj_icmp_eq (tgt := 1737) dL_law_1451 (by decide) ⟨fun hc => ?_, fun hc => ?_⟩
        · replace h := h.1 hc
          obtain ⟨v164, ev164⟩ : ∃ z : Int32, z = x4 + (6 : Int32) := ⟨_, rfl⟩
          refine mj_iinc (v := v164) dL_law_1737 rfl (by rw [ev164]; rfl) (by decide) rfl rfl ?_
          replace h := h v164 ev164
          refine mj_goto (tgt := 23) dL_law_1740 (by decide) ?_
          exact h
        · replace h := h.2 hc
          refine mj_iconst (v := 0) dL_law_1454 (by decide) ?_
          exact mj_lrety dL_law_1455 h (by omega) (by omega)
      · replace h := h.2.2.2.2.2.2.2.2.2.2.2.2.2.2.2.2.2.2.2.2.2.2.2.2.2.2.2.2.2.2.2.2.2.1 e
        refine mj_tabIn (tgt := 1456) (off := 1416) dL_law_40 (by omega) (by omega) (by rw [e]; rfl) (by decide) ?_
        refine mj_aload_n dL_law_1456 rfl rfl ?_
        refine mj_aload_n dL_law_1457 rfl rfl ?_
        refine mj_iload dL_law_1458 rfl ?_
        refine mj_iconst (v := 1) dL_law_1460 (by decide) ?_
        refine mj_iadd dL_law_1461 ?_
        refine mj_iald dL_law_1462 (Or.inr hk_a0) ⟨h.1, ?_⟩
        replace h := h.2
        refine mj_aload_n dL_law_1463 rfl rfl ?_
        refine mj_iload dL_law_1464 rfl ?_
        refine mj_iconst (v := 2) dL_law_1466 (by decide) ?_
        refine mj_iadd dL_law_1467 ?_
        refine mj_iald dL_law_1468 (Or.inr hk_a0) ⟨h.1, ?_⟩
        replace h := h.2
        refine mj_if_eq (tgt := 1476) dL_law_1469 (by decide) ⟨fun hc => ?_, fun hc => ?_⟩
        · replace h := h.1 hc
          refine mj_iconst (v := 0) dL_law_1476 (by decide) ?_
          exact h
        · replace h := h.2 hc
          refine mj_iconst (v := 1) dL_law_1472 (by decide) ?_
          refine mj_goto (tgt := 1477) dL_law_1473 (by decide) ?_
          exact h
      · replace h := h.2.2.2.2.2.2.2.2.2.2.2.2.2.2.2.2.2.2.2.2.2.2.2.2.2.2.2.2.2.2.2.2.2.2.1 e
        refine mj_tabIn (tgt := 1509) (off := 1469) dL_law_40 (by omega) (by omega) (by rw [e]; rfl) (by decide) ?_
        refine mj_aload_n dL_law_1509 rfl rfl ?_
        refine mj_aload_n dL_law_1510 rfl rfl ?_
        refine mj_iload dL_law_1511 rfl ?_
        refine mj_iconst (v := 1) dL_law_1513 (by decide) ?_
        refine mj_iadd dL_law_1514 ?_
        refine mj_iald dL_law_1515 (Or.inr hk_a0) ⟨h.1, ?_⟩
        replace h := h.2
        refine mj_aload_n dL_law_1516 rfl rfl ?_
        refine mj_iload dL_law_1517 rfl ?_
        refine mj_iconst (v := 2) dL_law_1519 (by decide) ?_
        refine mj_iadd dL_law_1520 ?_
        refine mj_iald dL_law_1521 (Or.inr hk_a0) ⟨h.1, ?_⟩
        replace h := h.2
        refine mj_callVi (as := [.int (m_gi S a0 ((x4 + (1 : Int32))).toNatClampNeg), .int (m_gi S a0 ((x4 + (2 : Int32))).toNatClampNeg)]) (st := []) dL_law_1522 cal_X10_leant lk_L_170 im_X10_leant se_X10_leant (ci := 9) rfl (by decide) hk_a1 h rfl (Nat.le_of_ble_eq_true rfl) (by decide) ⟨by omega, by omega⟩ (fun S165 r166 h hn_r166 hp => ?_)
        have hk_a0 : m_kd S165 a0 = 110 := m_kd_pre hp hk_a0 (by decide)
        have hk_a1 : m_kd S165 a1 = 9 := m_kd_pre hp hk_a1 (by decide)
        have hk_a2 : m_kd S165 a2 = 10 := m_kd_pre hp hk_a2 (by decide)
        have hk_a3 : m_kd S165 a3 = 102 := m_kd_pre hp hk_a3 (by decide)
        refine mj_aload_n dL_law_1525 rfl rfl ?_
        refine mj_aload_n dL_law_1526 rfl rfl ?_
        refine mj_iload dL_law_1527 rfl ?_
        refine mj_iconst (v := 1) dL_law_1529 (by decide) ?_
        refine mj_iadd dL_law_1530 ?_
        refine mj_iald dL_law_1531 (Or.inr hk_a0) ⟨h.1, ?_⟩
        replace h := h.2
        refine mj_aload_n dL_law_1532 rfl rfl ?_
        refine mj_iload dL_law_1533 rfl ?_
        refine mj_iconst (v := 2) dL_law_1535 (by decide) ?_
        refine mj_iadd dL_law_1536 ?_
        refine mj_iald dL_law_1537 (Or.inr hk_a0) ⟨h.1, ?_⟩
        replace h := h.2
        refine mj_callVi (as := [.int (m_gi S165 a0 ((x4 + (1 : Int32))).toNatClampNeg), .int (m_gi S165 a0 ((x4 + (2 : Int32))).toNatClampNeg)]) (st := [.int r166]) dL_law_1538 cal_X11_leant lk_L_173 im_X11_leant se_X11_leant (ci := 10) rfl (by decide) hk_a2 h rfl (Nat.le_of_ble_eq_true rfl) (by decide) ⟨by omega, by omega⟩ (fun S167 r168 h hn_r168 hp => ?_)
        have hk_a0 : m_kd S167 a0 = 110 := m_kd_pre hp hk_a0 (by decide)
        have hk_a1 : m_kd S167 a1 = 9 := m_kd_pre hp hk_a1 (by decide)
        have hk_a2 : m_kd S167 a2 = 10 := m_kd_pre hp hk_a2 (by decide)
        have hk_a3 : m_kd S167 a3 = 102 := m_kd_pre hp hk_a3 (by decide)
        refine mj_icmp_eq (tgt := 1737) dL_law_1541 (by decide) ⟨fun hc => ?_, fun hc => ?_⟩
        · replace h := h.1 hc
          obtain ⟨v169, ev169⟩ : ∃ z : Int32, z = x4 + (6 : Int32) := ⟨_, rfl⟩
          refine mj_iinc (v := v169) dL_law_1737 rfl (by rw [ev169]; rfl) (by decide) rfl rfl ?_
          replace h := h v169 ev169
          refine mj_goto (tgt := 23) dL_law_1740 (by decide) ?_
          exact h
        · replace h := h.2 hc
          refine mj_iconst (v := 0) dL_law_1544 (by decide) ?_
          exact mj_lrety dL_law_1545 h (by omega) (by omega)
      · replace h := h.2.2.2.2.2.2.2.2.2.2.2.2.2.2.2.2.2.2.2.2.2.2.2.2.2.2.2.2.2.2.2.2.2.2.2.1 e
        refine mj_tabIn (tgt := 1546) (off := 1506) dL_law_40 (by omega) (by omega) (by rw [e]; rfl) (by decide) ?_
        refine mj_aload_n dL_law_1546 rfl rfl ?_
        refine mj_aload_n dL_law_1547 rfl rfl ?_
        refine mj_iload dL_law_1548 rfl ?_
        refine mj_iconst (v := 1) dL_law_1550 (by decide) ?_
        refine mj_iadd dL_law_1551 ?_
        refine mj_iald dL_law_1552 (Or.inr hk_a0) ⟨h.1, ?_⟩
        replace h := h.2
        refine mj_callVi (as := [.int (m_gi S a0 ((x4 + (1 : Int32))).toNatClampNeg)]) (st := []) dL_law_1553 cal_X10_sure lk_L_174 im_X10_sure se_X10_sure (ci := 9) rfl (by decide) hk_a1 h rfl (Nat.le_of_ble_eq_true rfl) (by decide) ⟨by omega, by omega⟩ (fun S170 r171 h hn_r171 hp => ?_)
        have hk_a0 : m_kd S170 a0 = 110 := m_kd_pre hp hk_a0 (by decide)
        have hk_a1 : m_kd S170 a1 = 9 := m_kd_pre hp hk_a1 (by decide)
        have hk_a2 : m_kd S170 a2 = 10 := m_kd_pre hp hk_a2 (by decide)
        have hk_a3 : m_kd S170 a3 = 102 := m_kd_pre hp hk_a3 (by decide)
        refine mj_aload_n dL_law_1556 rfl rfl ?_
        refine mj_aload_n dL_law_1557 rfl rfl ?_
        refine mj_iload dL_law_1558 rfl ?_
        refine mj_iconst (v := 1) dL_law_1560 (by decide) ?_
        refine mj_iadd dL_law_1561 ?_
        refine mj_iald dL_law_1562 (Or.inr hk_a0) ⟨h.1, ?_⟩
        replace h := h.2
        refine mj_callVi (as := [.int (m_gi S170 a0 ((x4 + (1 : Int32))).toNatClampNeg)]) (st := [.int r171]) dL_law_1563 cal_X11_sure lk_L_177 im_X11_sure se_X11_sure (ci := 10) rfl (by decide) hk_a2 h rfl (Nat.le_of_ble_eq_true rfl) (by decide) ⟨by omega, by omega⟩ (fun S172 r173 h hn_r173 hp => ?_)
        have hk_a0 : m_kd S172 a0 = 110 := m_kd_pre hp hk_a0 (by decide)
        have hk_a1 : m_kd S172 a1 = 9 := m_kd_pre hp hk_a1 (by decide)
        have hk_a2 : m_kd S172 a2 = 10 := m_kd_pre hp hk_a2 (by decide)
        have hk_a3 : m_kd S172 a3 = 102 := m_kd_pre hp hk_a3 (by decide)
        refine mj_icmp_eq (tgt := 1737) dL_law_1566 (by decide) ⟨fun hc => ?_, fun hc => ?_⟩
        · replace h := h.1 hc
          obtain ⟨v174, ev174⟩ : ∃ z : Int32, z = x4 + (6 : Int32) := ⟨_, rfl⟩
          refine mj_iinc (v := v174) dL_law_1737 rfl (by rw [ev174]; rfl) (by decide) rfl rfl ?_
          replace h := h v174 ev174
          refine mj_goto (tgt := 23) dL_law_1740 (by decide) ?_
          exact h
        · replace h := h.2 hc
          refine mj_iconst (v := 0) dL_law_1569 (by decide) ?_
          exact mj_lrety dL_law_1570 h (by omega) (by omega)
      · replace h := h.2.2.2.2.2.2.2.2.2.2.2.2.2.2.2.2.2.2.2.2.2.2.2.2.2.2.2.2.2.2.2.2.2.2.2.2.1 e
        refine mj_tabIn (tgt := 1571) (off := 1531) dL_law_40 (by omega) (by omega) (by rw [e]; rfl) (by decide) ?_
        refine mj_aload_n dL_law_1571 rfl rfl ?_
        refine mj_aload_n dL_law_1572 rfl rfl ?_
        refine mj_iload dL_law_1573 rfl ?_
        refine mj_iconst (v := 1) dL_law_1575 (by decide) ?_
        refine mj_iadd dL_law_1576 ?_
        refine mj_iald dL_law_1577 (Or.inr hk_a0) ⟨h.1, ?_⟩
        replace h := h.2
        refine mj_callVi (as := [.int (m_gi S a0 ((x4 + (1 : Int32))).toNatClampNeg)]) (st := []) dL_law_1578 cal_X10_best lk_L_178 im_X10_best se_X10_best (ci := 9) rfl (by decide) hk_a1 h rfl (Nat.le_of_ble_eq_true rfl) (by decide) ⟨by omega, by omega⟩ (fun S175 r176 h hn_r176 hp => ?_)
        have hk_a0 : m_kd S175 a0 = 110 := m_kd_pre hp hk_a0 (by decide)
        have hk_a1 : m_kd S175 a1 = 9 := m_kd_pre hp hk_a1 (by decide)
        have hk_a2 : m_kd S175 a2 = 10 := m_kd_pre hp hk_a2 (by decide)
        have hk_a3 : m_kd S175 a3 = 102 := m_kd_pre hp hk_a3 (by decide)
        refine mj_aload_n dL_law_1581 rfl rfl ?_
        refine mj_aload_n dL_law_1582 rfl rfl ?_
        refine mj_iload dL_law_1583 rfl ?_
        refine mj_iconst (v := 1) dL_law_1585 (by decide) ?_
        refine mj_iadd dL_law_1586 ?_
        refine mj_iald dL_law_1587 (Or.inr hk_a0) ⟨h.1, ?_⟩
        replace h := h.2
        refine mj_callVi (as := [.int (m_gi S175 a0 ((x4 + (1 : Int32))).toNatClampNeg)]) (st := [.int r176]) dL_law_1588 cal_X11_best lk_L_181 im_X11_best se_X11_best (ci := 10) rfl (by decide) hk_a2 h rfl (Nat.le_of_ble_eq_true rfl) (by decide) ⟨by omega, by omega⟩ (fun S177 r178 h hn_r178 hp => ?_)
        have hk_a0 : m_kd S177 a0 = 110 := m_kd_pre hp hk_a0 (by decide)
        have hk_a1 : m_kd S177 a1 = 9 := m_kd_pre hp hk_a1 (by decide)
        have hk_a2 : m_kd S177 a2 = 10 := m_kd_pre hp hk_a2 (by decide)
        have hk_a3 : m_kd S177 a3 = 102 := m_kd_pre hp hk_a3 (by decide)
        refine mj_icmp_eq (tgt := 1737) dL_law_1591 (by decide) ⟨fun hc => ?_, fun hc => ?_⟩
        · replace h := h.1 hc
          obtain ⟨v179, ev179⟩ : ∃ z : Int32, z = x4 + (6 : Int32) := ⟨_, rfl⟩
          refine mj_iinc (v := v179) dL_law_1737 rfl (by rw [ev179]; rfl) (by decide) rfl rfl ?_
          replace h := h v179 ev179
          refine mj_goto (tgt := 23) dL_law_1740 (by decide) ?_
          exact h
        · replace h := h.2 hc
          refine mj_iconst (v := 0) dL_law_1594 (by decide) ?_
          exact mj_lrety dL_law_1595 h (by omega) (by omega)
      · replace h := h.2.2.2.2.2.2.2.2.2.2.2.2.2.2.2.2.2.2.2.2.2.2.2.2.2.2.2.2.2.2.2.2.2.2.2.2.2.1 e
        refine mj_tabIn (tgt := 1596) (off := 1556) dL_law_40 (by omega) (by omega) (by rw [e]; rfl) (by decide) ?_
        refine mj_aload_n dL_law_1596 rfl rfl ?_
        refine mj_callVi (as := []) (st := []) dL_law_1597 cal_X10_cross lk_L_182 im_X10_cross se_X10_cross (ci := 9) rfl (by decide) hk_a1 h rfl (Nat.le_of_ble_eq_true rfl) (by decide) ⟨by omega, by omega⟩ (fun S180 r181 h hn_r181 hp => ?_)
        have hk_a0 : m_kd S180 a0 = 110 := m_kd_pre hp hk_a0 (by decide)
        have hk_a1 : m_kd S180 a1 = 9 := m_kd_pre hp hk_a1 (by decide)
        have hk_a2 : m_kd S180 a2 = 10 := m_kd_pre hp hk_a2 (by decide)
        have hk_a3 : m_kd S180 a3 = 102 := m_kd_pre hp hk_a3 (by decide)
        refine mj_aload_n dL_law_1600 rfl rfl ?_
        refine mj_callVi (as := []) (st := [.int r181]) dL_law_1601 cal_X11_cross lk_L_185 im_X11_cross se_X11_cross (ci := 10) rfl (by decide) hk_a2 h rfl (Nat.le_of_ble_eq_true rfl) (by decide) ⟨by omega, by omega⟩ (fun S182 r183 h hn_r183 hp => ?_)
        have hk_a0 : m_kd S182 a0 = 110 := m_kd_pre hp hk_a0 (by decide)
        have hk_a1 : m_kd S182 a1 = 9 := m_kd_pre hp hk_a1 (by decide)
        have hk_a2 : m_kd S182 a2 = 10 := m_kd_pre hp hk_a2 (by decide)
        have hk_a3 : m_kd S182 a3 = 102 := m_kd_pre hp hk_a3 (by decide)
        refine mj_icmp_eq (tgt := 1737) dL_law_1604 (by decide) ⟨fun hc => ?_, fun hc => ?_⟩
        · replace h := h.1 hc
          obtain ⟨v184, ev184⟩ : ∃ z : Int32, z = x4 + (6 : Int32) := ⟨_, rfl⟩
          refine mj_iinc (v := v184) dL_law_1737 rfl (by rw [ev184]; rfl) (by decide) rfl rfl ?_
          replace h := h v184 ev184
          refine mj_goto (tgt := 23) dL_law_1740 (by decide) ?_
          exact h
        · replace h := h.2 hc
          refine mj_iconst (v := 0) dL_law_1607 (by decide) ?_
          exact mj_lrety dL_law_1608 h (by omega) (by omega)
      · replace h := h.2.2.2.2.2.2.2.2.2.2.2.2.2.2.2.2.2.2.2.2.2.2.2.2.2.2.2.2.2.2.2.2.2.2.2.2.2.2.1 e
        refine mj_tabIn (tgt := 1609) (off := 1569) dL_law_40 (by omega) (by omega) (by rw [e]; rfl) (by decide) ?_
        refine mj_aload_n dL_law_1609 rfl rfl ?_
        refine mj_callVi (as := []) (st := []) dL_law_1610 cal_X10_realm lk_L_186 im_X10_realm se_X10_realm (ci := 9) rfl (by decide) hk_a1 h rfl (Nat.le_of_ble_eq_true rfl) (by decide) ⟨by omega, by omega⟩ (fun S185 r186 h hn_r186 hp => ?_)
        have hk_a0 : m_kd S185 a0 = 110 := m_kd_pre hp hk_a0 (by decide)
        have hk_a1 : m_kd S185 a1 = 9 := m_kd_pre hp hk_a1 (by decide)
        have hk_a2 : m_kd S185 a2 = 10 := m_kd_pre hp hk_a2 (by decide)
        have hk_a3 : m_kd S185 a3 = 102 := m_kd_pre hp hk_a3 (by decide)
        refine mj_aload_n dL_law_1613 rfl rfl ?_
        refine mj_callVi (as := []) (st := [.int r186]) dL_law_1614 cal_X11_realm lk_L_189 im_X11_realm se_X11_realm (ci := 10) rfl (by decide) hk_a2 h rfl (Nat.le_of_ble_eq_true rfl) (by decide) ⟨by omega, by omega⟩ (fun S187 r188 h hn_r188 hp => ?_)
        have hk_a0 : m_kd S187 a0 = 110 := m_kd_pre hp hk_a0 (by decide)
        have hk_a1 : m_kd S187 a1 = 9 := m_kd_pre hp hk_a1 (by decide)
        have hk_a2 : m_kd S187 a2 = 10 := m_kd_pre hp hk_a2 (by decide)
        have hk_a3 : m_kd S187 a3 = 102 := m_kd_pre hp hk_a3 (by decide)
        refine mj_icmp_eq (tgt := 1737) dL_law_1617 (by decide) ⟨fun hc => ?_, fun hc => ?_⟩
        · replace h := h.1 hc
          obtain ⟨v189, ev189⟩ : ∃ z : Int32, z = x4 + (6 : Int32) := ⟨_, rfl⟩
          refine mj_iinc (v := v189) dL_law_1737 rfl (by rw [ev189]; rfl) (by decide) rfl rfl ?_
          replace h := h v189 ev189
          refine mj_goto (tgt := 23) dL_law_1740 (by decide) ?_
          exact h
        · replace h := h.2 hc
          refine mj_iconst (v := 0) dL_law_1620 (by decide) ?_
          exact mj_lrety dL_law_1621 h (by omega) (by omega)
      · replace h := h.2.2.2.2.2.2.2.2.2.2.2.2.2.2.2.2.2.2.2.2.2.2.2.2.2.2.2.2.2.2.2.2.2.2.2.2.2.2.2.1 e
        refine mj_tabIn (tgt := 1622) (off := 1582) dL_law_40 (by omega) (by omega) (by rw [e]; rfl) (by decide) ?_
        refine mj_aload_n dL_law_1622 rfl rfl ?_
        refine mj_callVi (as := []) (st := []) dL_law_1623 cal_X10_gathered lk_L_190 im_X10_gathered se_X10_gathered (ci := 9) rfl (by decide) hk_a1 h rfl (Nat.le_of_ble_eq_true rfl) (by decide) ⟨by omega, by omega⟩ (fun S190 r191 h hn_r191 hp => ?_)
        have hk_a0 : m_kd S190 a0 = 110 := m_kd_pre hp hk_a0 (by decide)
        have hk_a1 : m_kd S190 a1 = 9 := m_kd_pre hp hk_a1 (by decide)
        have hk_a2 : m_kd S190 a2 = 10 := m_kd_pre hp hk_a2 (by decide)
        have hk_a3 : m_kd S190 a3 = 102 := m_kd_pre hp hk_a3 (by decide)
        refine mj_aload_n dL_law_1626 rfl rfl ?_
        refine mj_callVi (as := []) (st := [.int r191]) dL_law_1627 cal_X11_gathered lk_L_193 im_X11_gathered se_X11_gathered (ci := 10) rfl (by decide) hk_a2 h rfl (Nat.le_of_ble_eq_true rfl) (by decide) ⟨by omega, by omega⟩ (fun S192 r193 h hn_r193 hp => ?_)
        have hk_a0 : m_kd S192 a0 = 110 := m_kd_pre hp hk_a0 (by decide)
        have hk_a1 : m_kd S192 a1 = 9 := m_kd_pre hp hk_a1 (by decide)
        have hk_a2 : m_kd S192 a2 = 10 := m_kd_pre hp hk_a2 (by decide)
        have hk_a3 : m_kd S192 a3 = 102 := m_kd_pre hp hk_a3 (by decide)
        refine mj_icmp_eq (tgt := 1737) dL_law_1630 (by decide) ⟨fun hc => ?_, fun hc => ?_⟩
        · replace h := h.1 hc
          obtain ⟨v194, ev194⟩ : ∃ z : Int32, z = x4 + (6 : Int32) := ⟨_, rfl⟩
          refine mj_iinc (v := v194) dL_law_1737 rfl (by rw [ev194]; rfl) (by decide) rfl rfl ?_
          replace h := h v194 ev194
          refine mj_goto (tgt := 23) dL_law_1740 (by decide) ?_
          exact h
        · replace h := h.2 hc
          refine mj_iconst (v := 0) dL_law_1633 (by decide) ?_
          exact mj_lrety dL_law_1634 h (by omega) (by omega)
      · replace h := h.2.2.2.2.2.2.2.2.2.2.2.2.2.2.2.2.2.2.2.2.2.2.2.2.2.2.2.2.2.2.2.2.2.2.2.2.2.2.2.2.1 e
        refine mj_tabIn (tgt := 1635) (off := 1595) dL_law_40 (by omega) (by omega) (by rw [e]; rfl) (by decide) ?_
        refine mj_aload_n dL_law_1635 rfl rfl ?_
        refine mj_callVi (as := []) (st := []) dL_law_1636 cal_X10_dark lk_L_194 im_X10_dark se_X10_dark (ci := 9) rfl (by decide) hk_a1 h rfl (Nat.le_of_ble_eq_true rfl) (by decide) ⟨by omega, by omega⟩ (fun S195 r196 h hn_r196 hp => ?_)
        have hk_a0 : m_kd S195 a0 = 110 := m_kd_pre hp hk_a0 (by decide)
        have hk_a1 : m_kd S195 a1 = 9 := m_kd_pre hp hk_a1 (by decide)
        have hk_a2 : m_kd S195 a2 = 10 := m_kd_pre hp hk_a2 (by decide)
        have hk_a3 : m_kd S195 a3 = 102 := m_kd_pre hp hk_a3 (by decide)
        refine mj_aload_n dL_law_1639 rfl rfl ?_
        refine mj_callVi (as := []) (st := [.int r196]) dL_law_1640 cal_X11_dark lk_L_197 im_X11_dark se_X11_dark (ci := 10) rfl (by decide) hk_a2 h rfl (Nat.le_of_ble_eq_true rfl) (by decide) ⟨by omega, by omega⟩ (fun S197 r198 h hn_r198 hp => ?_)
        have hk_a0 : m_kd S197 a0 = 110 := m_kd_pre hp hk_a0 (by decide)
        have hk_a1 : m_kd S197 a1 = 9 := m_kd_pre hp hk_a1 (by decide)
        have hk_a2 : m_kd S197 a2 = 10 := m_kd_pre hp hk_a2 (by decide)
        have hk_a3 : m_kd S197 a3 = 102 := m_kd_pre hp hk_a3 (by decide)
        refine mj_icmp_eq (tgt := 1737) dL_law_1643 (by decide) ⟨fun hc => ?_, fun hc => ?_⟩
        · replace h := h.1 hc
          obtain ⟨v199, ev199⟩ : ∃ z : Int32, z = x4 + (6 : Int32) := ⟨_, rfl⟩
          refine mj_iinc (v := v199) dL_law_1737 rfl (by rw [ev199]; rfl) (by decide) rfl rfl ?_
          replace h := h v199 ev199
          refine mj_goto (tgt := 23) dL_law_1740 (by decide) ?_
          exact h
        · replace h := h.2 hc
          refine mj_iconst (v := 0) dL_law_1646 (by decide) ?_
          exact mj_lrety dL_law_1647 h (by omega) (by omega)
      · replace h := h.2.2.2.2.2.2.2.2.2.2.2.2.2.2.2.2.2.2.2.2.2.2.2.2.2.2.2.2.2.2.2.2.2.2.2.2.2.2.2.2.2.1 e
        refine mj_tabIn (tgt := 1648) (off := 1608) dL_law_40 (by omega) (by omega) (by rw [e]; rfl) (by decide) ?_
        refine mj_aload_n dL_law_1648 rfl rfl ?_
        refine mj_aload_n dL_law_1649 rfl rfl ?_
        refine mj_iload dL_law_1650 rfl ?_
        refine mj_iconst (v := 1) dL_law_1652 (by decide) ?_
        refine mj_iadd dL_law_1653 ?_
        refine mj_iald dL_law_1654 (Or.inr hk_a0) ⟨h.1, ?_⟩
        replace h := h.2
        refine mj_callVi (as := [.int (m_gi S a0 ((x4 + (1 : Int32))).toNatClampNeg)]) (st := []) dL_law_1655 cal_X10_borders lk_L_198 im_X10_borders se_X10_borders (ci := 9) rfl (by decide) hk_a1 h rfl (Nat.le_of_ble_eq_true rfl) (by decide) ⟨by omega, by omega⟩ (fun S200 r201 h hn_r201 hp => ?_)
        have hk_a0 : m_kd S200 a0 = 110 := m_kd_pre hp hk_a0 (by decide)
        have hk_a1 : m_kd S200 a1 = 9 := m_kd_pre hp hk_a1 (by decide)
        have hk_a2 : m_kd S200 a2 = 10 := m_kd_pre hp hk_a2 (by decide)
        have hk_a3 : m_kd S200 a3 = 102 := m_kd_pre hp hk_a3 (by decide)
        refine mj_aload_n dL_law_1658 rfl rfl ?_
        refine mj_aload_n dL_law_1659 rfl rfl ?_
        refine mj_iload dL_law_1660 rfl ?_
        refine mj_iconst (v := 1) dL_law_1662 (by decide) ?_
        refine mj_iadd dL_law_1663 ?_
        refine mj_iald dL_law_1664 (Or.inr hk_a0) ⟨h.1, ?_⟩
        replace h := h.2
        refine mj_callVi (as := [.int (m_gi S200 a0 ((x4 + (1 : Int32))).toNatClampNeg)]) (st := [.int r201]) dL_law_1665 cal_X11_borders lk_L_201 im_X11_borders se_X11_borders (ci := 10) rfl (by decide) hk_a2 h rfl (Nat.le_of_ble_eq_true rfl) (by decide) ⟨by omega, by omega⟩ (fun S202 r203 h hn_r203 hp => ?_)
        have hk_a0 : m_kd S202 a0 = 110 := m_kd_pre hp hk_a0 (by decide)
        have hk_a1 : m_kd S202 a1 = 9 := m_kd_pre hp hk_a1 (by decide)
        have hk_a2 : m_kd S202 a2 = 10 := m_kd_pre hp hk_a2 (by decide)
        have hk_a3 : m_kd S202 a3 = 102 := m_kd_pre hp hk_a3 (by decide)
        refine mj_icmp_eq (tgt := 1737) dL_law_1668 (by decide) ⟨fun hc => ?_, fun hc => ?_⟩
        · replace h := h.1 hc
          obtain ⟨v204, ev204⟩ : ∃ z : Int32, z = x4 + (6 : Int32) := ⟨_, rfl⟩
          refine mj_iinc (v := v204) dL_law_1737 rfl (by rw [ev204]; rfl) (by decide) rfl rfl ?_
          replace h := h v204 ev204
          refine mj_goto (tgt := 23) dL_law_1740 (by decide) ?_
          exact h
        · replace h := h.2 hc
          refine mj_iconst (v := 0) dL_law_1671 (by decide) ?_
          exact mj_lrety dL_law_1672 h (by omega) (by omega)
      · replace h := h.2.2.2.2.2.2.2.2.2.2.2.2.2.2.2.2.2.2.2.2.2.2.2.2.2.2.2.2.2.2.2.2.2.2.2.2.2.2.2.2.2.2.1 e
        refine mj_tabIn (tgt := 1673) (off := 1633) dL_law_40 (by omega) (by omega) (by rw [e]; rfl) (by decide) ?_
        refine mj_aload_n dL_law_1673 rfl rfl ?_
        refine mj_callVi (as := []) (st := []) dL_law_1674 cal_X10_guests lk_L_202 im_X10_guests se_X10_guests (ci := 9) rfl (by decide) hk_a1 h rfl (Nat.le_of_ble_eq_true rfl) (by decide) ⟨by omega, by omega⟩ (fun S205 r206 h hn_r206 hp => ?_)
        have hk_a0 : m_kd S205 a0 = 110 := m_kd_pre hp hk_a0 (by decide)
        have hk_a1 : m_kd S205 a1 = 9 := m_kd_pre hp hk_a1 (by decide)
        have hk_a2 : m_kd S205 a2 = 10 := m_kd_pre hp hk_a2 (by decide)
        have hk_a3 : m_kd S205 a3 = 102 := m_kd_pre hp hk_a3 (by decide)
        refine mj_aload_n dL_law_1677 rfl rfl ?_
        refine mj_callVi (as := []) (st := [.int r206]) dL_law_1678 cal_X11_guests lk_L_205 im_X11_guests se_X11_guests (ci := 10) rfl (by decide) hk_a2 h rfl (Nat.le_of_ble_eq_true rfl) (by decide) ⟨by omega, by omega⟩ (fun S207 r208 h hn_r208 hp => ?_)
        have hk_a0 : m_kd S207 a0 = 110 := m_kd_pre hp hk_a0 (by decide)
        have hk_a1 : m_kd S207 a1 = 9 := m_kd_pre hp hk_a1 (by decide)
        have hk_a2 : m_kd S207 a2 = 10 := m_kd_pre hp hk_a2 (by decide)
        have hk_a3 : m_kd S207 a3 = 102 := m_kd_pre hp hk_a3 (by decide)
        refine mj_icmp_eq (tgt := 1737) dL_law_1681 (by decide) ⟨fun hc => ?_, fun hc => ?_⟩
        · replace h := h.1 hc
          obtain ⟨v209, ev209⟩ : ∃ z : Int32, z = x4 + (6 : Int32) := ⟨_, rfl⟩
          refine mj_iinc (v := v209) dL_law_1737 rfl (by rw [ev209]; rfl) (by decide) rfl rfl ?_
          replace h := h v209 ev209
          refine mj_goto (tgt := 23) dL_law_1740 (by decide) ?_
          exact h
        · replace h := h.2 hc
          refine mj_iconst (v := 0) dL_law_1684 (by decide) ?_
          exact mj_lrety dL_law_1685 h (by omega) (by omega)
      · replace h := h.2.2.2.2.2.2.2.2.2.2.2.2.2.2.2.2.2.2.2.2.2.2.2.2.2.2.2.2.2.2.2.2.2.2.2.2.2.2.2.2.2.2.2.1 e
        refine mj_tabIn (tgt := 1686) (off := 1646) dL_law_40 (by omega) (by omega) (by rw [e]; rfl) (by decide) ?_
        refine mj_aload_n dL_law_1686 rfl rfl ?_
        refine mj_callVi (as := []) (st := []) dL_law_1687 cal_X10_image lk_L_206 im_X10_image se_X10_image (ci := 9) rfl (by decide) hk_a1 h rfl (Nat.le_of_ble_eq_true rfl) (by decide) ⟨by omega, by omega⟩ (fun S210 r211 h hn_r211 hp => ?_)
        have hk_a0 : m_kd S210 a0 = 110 := m_kd_pre hp hk_a0 (by decide)
        have hk_a1 : m_kd S210 a1 = 9 := m_kd_pre hp hk_a1 (by decide)
        have hk_a2 : m_kd S210 a2 = 10 := m_kd_pre hp hk_a2 (by decide)
        have hk_a3 : m_kd S210 a3 = 102 := m_kd_pre hp hk_a3 (by decide)
        refine mj_aload_n dL_law_1690 rfl rfl ?_
        refine mj_callVi (as := []) (st := [.int r211]) dL_law_1691 cal_X11_image lk_L_209 im_X11_image se_X11_image (ci := 10) rfl (by decide) hk_a2 h rfl (Nat.le_of_ble_eq_true rfl) (by decide) ⟨by omega, by omega⟩ (fun S212 r213 h hn_r213 hp => ?_)
        have hk_a0 : m_kd S212 a0 = 110 := m_kd_pre hp hk_a0 (by decide)
        have hk_a1 : m_kd S212 a1 = 9 := m_kd_pre hp hk_a1 (by decide)
        have hk_a2 : m_kd S212 a2 = 10 := m_kd_pre hp hk_a2 (by decide)
        have hk_a3 : m_kd S212 a3 = 102 := m_kd_pre hp hk_a3 (by decide)
        refine mj_icmp_eq (tgt := 1737) dL_law_1694 (by decide) ⟨fun hc => ?_, fun hc => ?_⟩
        · replace h := h.1 hc
          obtain ⟨v214, ev214⟩ : ∃ z : Int32, z = x4 + (6 : Int32) := ⟨_, rfl⟩
          refine mj_iinc (v := v214) dL_law_1737 rfl (by rw [ev214]; rfl) (by decide) rfl rfl ?_
          replace h := h v214 ev214
          refine mj_goto (tgt := 23) dL_law_1740 (by decide) ?_
          exact h
        · replace h := h.2 hc
          refine mj_iconst (v := 0) dL_law_1697 (by decide) ?_
          exact mj_lrety dL_law_1698 h (by omega) (by omega)
      · replace h := h.2.2.2.2.2.2.2.2.2.2.2.2.2.2.2.2.2.2.2.2.2.2.2.2.2.2.2.2.2.2.2.2.2.2.2.2.2.2.2.2.2.2.2.2.1 e
        refine mj_tabIn (tgt := 1699) (off := 1659) dL_law_40 (by omega) (by omega) (by rw [e]; rfl) (by decide) ?_
        refine mj_aload_n dL_law_1699 rfl rfl ?_
        refine mj_callVi (as := []) (st := []) dL_law_1700 cal_X10_back lk_L_210 im_X10_back se_X10_back (ci := 9) rfl (by decide) hk_a1 h rfl (Nat.le_of_ble_eq_true rfl) (by decide) ⟨by omega, by omega⟩ (fun S215 r216 h hn_r216 hp => ?_)
        have hk_a0 : m_kd S215 a0 = 110 := m_kd_pre hp hk_a0 (by decide)
        have hk_a1 : m_kd S215 a1 = 9 := m_kd_pre hp hk_a1 (by decide)
        have hk_a2 : m_kd S215 a2 = 10 := m_kd_pre hp hk_a2 (by decide)
        have hk_a3 : m_kd S215 a3 = 102 := m_kd_pre hp hk_a3 (by decide)
        refine mj_aload_n dL_law_1703 rfl rfl ?_
        refine mj_callVi (as := []) (st := [.int r216]) dL_law_1704 cal_X11_back lk_L_213 im_X11_back se_X11_back (ci := 10) rfl (by decide) hk_a2 h rfl (Nat.le_of_ble_eq_true rfl) (by decide) ⟨by omega, by omega⟩ (fun S217 r218 h hn_r218 hp => ?_)
        have hk_a0 : m_kd S217 a0 = 110 := m_kd_pre hp hk_a0 (by decide)
        have hk_a1 : m_kd S217 a1 = 9 := m_kd_pre hp hk_a1 (by decide)
        have hk_a2 : m_kd S217 a2 = 10 := m_kd_pre hp hk_a2 (by decide)
        have hk_a3 : m_kd S217 a3 = 102 := m_kd_pre hp hk_a3 (by decide)
        refine mj_icmp_eq (tgt := 1737) dL_law_1707 (by decide) ⟨fun hc => ?_, fun hc => ?_⟩
        · replace h := h.1 hc
          obtain ⟨v219, ev219⟩ : ∃ z : Int32, z = x4 + (6 : Int32) := ⟨_, rfl⟩
          refine mj_iinc (v := v219) dL_law_1737 rfl (by rw [ev219]; rfl) (by decide) rfl rfl ?_
          replace h := h v219 ev219
          refine mj_goto (tgt := 23) dL_law_1740 (by decide) ?_
          exact h
        · replace h := h.2 hc
          refine mj_iconst (v := 0) dL_law_1710 (by decide) ?_
          exact mj_lrety dL_law_1711 h (by omega) (by omega)
      · replace h := h.2.2.2.2.2.2.2.2.2.2.2.2.2.2.2.2.2.2.2.2.2.2.2.2.2.2.2.2.2.2.2.2.2.2.2.2.2.2.2.2.2.2.2.2.2 e
        refine mj_tabIn (tgt := 1712) (off := 1672) dL_law_40 (by omega) (by omega) (by rw [e]; rfl) (by decide) ?_
        refine mj_aload_n dL_law_1712 rfl rfl ?_
        refine mj_aload_n dL_law_1713 rfl rfl ?_
        refine mj_iload dL_law_1714 rfl ?_
        refine mj_iconst (v := 1) dL_law_1716 (by decide) ?_
        refine mj_iadd dL_law_1717 ?_
        refine mj_iald dL_law_1718 (Or.inr hk_a0) ⟨h.1, ?_⟩
        replace h := h.2
        refine mj_callVi (as := [.int (m_gi S a0 ((x4 + (1 : Int32))).toNatClampNeg)]) (st := []) dL_law_1719 cal_X10_count lk_L_214 im_X10_count se_X10_count (ci := 9) rfl (by decide) hk_a1 h rfl (Nat.le_of_ble_eq_true rfl) (by decide) ⟨by omega, by omega⟩ (fun S220 r221 h hn_r221 hp => ?_)
        have hk_a0 : m_kd S220 a0 = 110 := m_kd_pre hp hk_a0 (by decide)
        have hk_a1 : m_kd S220 a1 = 9 := m_kd_pre hp hk_a1 (by decide)
        have hk_a2 : m_kd S220 a2 = 10 := m_kd_pre hp hk_a2 (by decide)
        have hk_a3 : m_kd S220 a3 = 102 := m_kd_pre hp hk_a3 (by decide)
        refine mj_aload_n dL_law_1722 rfl rfl ?_
        refine mj_aload_n dL_law_1723 rfl rfl ?_
        refine mj_iload dL_law_1724 rfl ?_
        refine mj_iconst (v := 1) dL_law_1726 (by decide) ?_
        refine mj_iadd dL_law_1727 ?_
        refine mj_iald dL_law_1728 (Or.inr hk_a0) ⟨h.1, ?_⟩
        replace h := h.2
        refine mj_callVi (as := [.int (m_gi S220 a0 ((x4 + (1 : Int32))).toNatClampNeg)]) (st := [.int r221]) dL_law_1729 cal_X11_count lk_L_217 im_X11_count se_X11_count (ci := 10) rfl (by decide) hk_a2 h rfl (Nat.le_of_ble_eq_true rfl) (by decide) ⟨by omega, by omega⟩ (fun S222 r223 h hn_r223 hp => ?_)
        have hk_a0 : m_kd S222 a0 = 110 := m_kd_pre hp hk_a0 (by decide)
        have hk_a1 : m_kd S222 a1 = 9 := m_kd_pre hp hk_a1 (by decide)
        have hk_a2 : m_kd S222 a2 = 10 := m_kd_pre hp hk_a2 (by decide)
        have hk_a3 : m_kd S222 a3 = 102 := m_kd_pre hp hk_a3 (by decide)
        refine mj_icmp_eq (tgt := 1737) dL_law_1732 (by decide) ⟨fun hc => ?_, fun hc => ?_⟩
        · replace h := h.1 hc
          obtain ⟨v224, ev224⟩ : ∃ z : Int32, z = x4 + (6 : Int32) := ⟨_, rfl⟩
          refine mj_iinc (v := v224) dL_law_1737 rfl (by rw [ev224]; rfl) (by decide) rfl rfl ?_
          replace h := h v224 ev224
          refine mj_goto (tgt := 23) dL_law_1740 (by decide) ?_
          exact h
        · replace h := h.2 hc
          refine mj_iconst (v := 0) dL_law_1735 (by decide) ?_
          exact mj_lrety dL_law_1736 h (by omega) (by omega)
set_option maxRecDepth 40000 in
set_option maxHeartbeats 8000000 in
theorem b_L_law_682 {l : Launch} {G : mj_G} {k n : Nat} {a0 : Nat} {a1 : Nat} {a2 : Nat} {a3 : Nat} {x4 : Int32} {c0 : Nat} {s1 : Int32} {s2 : Int32} {s3 : Int32} {S : mj_S} (hkn : k ≤ 600000 ∧ n ≤ 7200000) (hk_a0 : m_kd S a0 = 110) (hk_a1 : m_kd S a1 = 9) (hk_a2 : m_kd S a2 = 10) (hk_a3 : m_kd S a3 = 102) (hk_c0 : m_kd S c0 = 9) (h : M_X10_pull l G c0 s1 s2 s3 S (fun S1 r2 => vp_in (x4 + (1 : Int32)) (m_ln S1 a0) ∧ (vp_in (x4 + (2 : Int32)) (m_ln S1 a0) ∧ (vp_in (x4 + (3 : Int32)) (m_ln S1 a0) ∧ ((((m_gi S1 a0 ((x4 + (3 : Int32))).toNatClampNeg) = 0) → V_L_law_712 l G k n a0 a1 a2 a3 x4 r2 a2 (m_gi S1 a0 ((x4 + (1 : Int32))).toNatClampNeg) (m_gi S1 a0 ((x4 + (2 : Int32))).toNatClampNeg) (0 : Int32) S1) ∧ ((¬ ((m_gi S1 a0 ((x4 + (3 : Int32))).toNatClampNeg) = 0)) → V_L_law_712 l G k n a0 a1 a2 a3 x4 r2 a2 (m_gi S1 a0 ((x4 + (1 : Int32))).toNatClampNeg) (m_gi S1 a0 ((x4 + (2 : Int32))).toNatClampNeg) (1 : Int32) S1)))))) : V_L_law_682 l G k n a0 a1 a2 a3 x4 c0 s1 s2 s3 S := by
  obtain ⟨hkn1, hkn2⟩ := hkn
  refine mj_callVi (as := [.int s1, .int s2, .int s3]) (st := []) dL_law_682 cal_X10_pull lk_L_76 im_X10_pull se_X10_pull (ci := 9) rfl (by decide) hk_c0 h rfl (Nat.le_of_ble_eq_true rfl) (by decide) ⟨by omega, by omega⟩ (fun S1 r2 h hn_r2 hp => ?_)
  have hk_a0 : m_kd S1 a0 = 110 := m_kd_pre hp hk_a0 (by decide)
  have hk_a1 : m_kd S1 a1 = 9 := m_kd_pre hp hk_a1 (by decide)
  have hk_a2 : m_kd S1 a2 = 10 := m_kd_pre hp hk_a2 (by decide)
  have hk_a3 : m_kd S1 a3 = 102 := m_kd_pre hp hk_a3 (by decide)
  have hk_c0 : m_kd S1 c0 = 9 := m_kd_pre hp hk_c0 (by decide)
  refine mj_aload_n dL_law_685 rfl rfl ?_
  refine mj_aload_n dL_law_686 rfl rfl ?_
  refine mj_iload dL_law_687 rfl ?_
  refine mj_iconst (v := 1) dL_law_689 (by decide) ?_
  refine mj_iadd dL_law_690 ?_
  refine mj_iald dL_law_691 (Or.inr hk_a0) ⟨h.1, ?_⟩
  replace h := h.2
  refine mj_aload_n dL_law_692 rfl rfl ?_
  refine mj_iload dL_law_693 rfl ?_
  refine mj_iconst (v := 2) dL_law_695 (by decide) ?_
  refine mj_iadd dL_law_696 ?_
  refine mj_iald dL_law_697 (Or.inr hk_a0) ⟨h.1, ?_⟩
  replace h := h.2
  refine mj_aload_n dL_law_698 rfl rfl ?_
  refine mj_iload dL_law_699 rfl ?_
  refine mj_iconst (v := 3) dL_law_701 (by decide) ?_
  refine mj_iadd dL_law_702 ?_
  refine mj_iald dL_law_703 (Or.inr hk_a0) ⟨h.1, ?_⟩
  replace h := h.2
  refine mj_if_eq (tgt := 711) dL_law_704 (by decide) ⟨fun hc => ?_, fun hc => ?_⟩
  · replace h := h.1 hc
    refine mj_iconst (v := 0) dL_law_711 (by decide) ?_
    exact h
  · replace h := h.2 hc
    refine mj_iconst (v := 1) dL_law_707 (by decide) ?_
    refine mj_goto (tgt := 712) dL_law_708 (by decide) ?_
    exact h
set_option maxRecDepth 40000 in
set_option maxHeartbeats 8000000 in
theorem b_L_law_712 {l : Launch} {G : mj_G} {k n : Nat} {a0 : Nat} {a1 : Nat} {a2 : Nat} {a3 : Nat} {x4 : Int32} {s0 : Int32} {c1 : Nat} {s2 : Int32} {s3 : Int32} {s4 : Int32} {S : mj_S} (hkn : k ≤ 600000 ∧ n ≤ 7200000) (hk_a0 : m_kd S a0 = 110) (hk_a1 : m_kd S a1 = 9) (hk_a2 : m_kd S a2 = 10) (hk_a3 : m_kd S a3 = 102) (hk_c1 : m_kd S c1 = 10) (h : M_X11_pull l G c1 s2 s3 s4 S (fun S1 r2 => ((s0 = r2) → ∀ v3 : Int32, v3 = x4 + (6 : Int32) → V_L_law_23 l G k n a0 a1 a2 a3 v3 S1) ∧ ((¬ (s0 = r2)) → (0 : Int32) = 1))) : V_L_law_712 l G k n a0 a1 a2 a3 x4 s0 c1 s2 s3 s4 S := by
  obtain ⟨hkn1, hkn2⟩ := hkn
  refine mj_callVi (as := [.int s2, .int s3, .int s4]) (st := [.int s0]) dL_law_712 cal_X11_pull lk_L_80 im_X11_pull se_X11_pull (ci := 10) rfl (by decide) hk_c1 h rfl (Nat.le_of_ble_eq_true rfl) (by decide) ⟨by omega, by omega⟩ (fun S1 r2 h hn_r2 hp => ?_)
  have hk_a0 : m_kd S1 a0 = 110 := m_kd_pre hp hk_a0 (by decide)
  have hk_a1 : m_kd S1 a1 = 9 := m_kd_pre hp hk_a1 (by decide)
  have hk_a2 : m_kd S1 a2 = 10 := m_kd_pre hp hk_a2 (by decide)
  have hk_a3 : m_kd S1 a3 = 102 := m_kd_pre hp hk_a3 (by decide)
  have hk_c1 : m_kd S1 c1 = 10 := m_kd_pre hp hk_c1 (by decide)
  refine mj_icmp_eq (tgt := 1737) dL_law_715 (by decide) ⟨fun hc => ?_, fun hc => ?_⟩
  · replace h := h.1 hc
    obtain ⟨v3, ev3⟩ : ∃ z : Int32, z = x4 + (6 : Int32) := ⟨_, rfl⟩
    refine mj_iinc (v := v3) dL_law_1737 rfl (by rw [ev3]; rfl) (by decide) rfl rfl ?_
    replace h := h v3 ev3
    refine mj_goto (tgt := 23) dL_law_1740 (by decide) ?_
    exact h
  · replace h := h.2 hc
    refine mj_iconst (v := 0) dL_law_718 (by decide) ?_
    exact mj_lrety dL_law_719 h (by omega) (by omega)
set_option maxRecDepth 40000 in
set_option maxHeartbeats 8000000 in
theorem b_L_law_1477 {l : Launch} {G : mj_G} {k n : Nat} {a0 : Nat} {a1 : Nat} {a2 : Nat} {a3 : Nat} {x4 : Int32} {c0 : Nat} {s1 : Int32} {s2 : Int32} {S : mj_S} (hkn : k ≤ 600000 ∧ n ≤ 7200000) (hk_a0 : m_kd S a0 = 110) (hk_a1 : m_kd S a1 = 9) (hk_a2 : m_kd S a2 = 10) (hk_a3 : m_kd S a3 = 102) (hk_c0 : m_kd S c0 = 9) (h : M_X10_faded l G c0 s1 s2 S (fun S1 r2 => vp_in (x4 + (1 : Int32)) (m_ln S1 a0) ∧ (vp_in (x4 + (2 : Int32)) (m_ln S1 a0) ∧ ((((m_gi S1 a0 ((x4 + (2 : Int32))).toNatClampNeg) = 0) → V_L_law_1501 l G k n a0 a1 a2 a3 x4 r2 a2 (m_gi S1 a0 ((x4 + (1 : Int32))).toNatClampNeg) (0 : Int32) S1) ∧ ((¬ ((m_gi S1 a0 ((x4 + (2 : Int32))).toNatClampNeg) = 0)) → V_L_law_1501 l G k n a0 a1 a2 a3 x4 r2 a2 (m_gi S1 a0 ((x4 + (1 : Int32))).toNatClampNeg) (1 : Int32) S1))))) : V_L_law_1477 l G k n a0 a1 a2 a3 x4 c0 s1 s2 S := by
  obtain ⟨hkn1, hkn2⟩ := hkn
  refine mj_callVi (as := [.int s1, .int s2]) (st := []) dL_law_1477 cal_X10_faded lk_L_165 im_X10_faded se_X10_faded (ci := 9) rfl (by decide) hk_c0 h rfl (Nat.le_of_ble_eq_true rfl) (by decide) ⟨by omega, by omega⟩ (fun S1 r2 h hn_r2 hp => ?_)
  have hk_a0 : m_kd S1 a0 = 110 := m_kd_pre hp hk_a0 (by decide)
  have hk_a1 : m_kd S1 a1 = 9 := m_kd_pre hp hk_a1 (by decide)
  have hk_a2 : m_kd S1 a2 = 10 := m_kd_pre hp hk_a2 (by decide)
  have hk_a3 : m_kd S1 a3 = 102 := m_kd_pre hp hk_a3 (by decide)
  have hk_c0 : m_kd S1 c0 = 9 := m_kd_pre hp hk_c0 (by decide)
  refine mj_aload_n dL_law_1480 rfl rfl ?_
  refine mj_aload_n dL_law_1481 rfl rfl ?_
  refine mj_iload dL_law_1482 rfl ?_
  refine mj_iconst (v := 1) dL_law_1484 (by decide) ?_
  refine mj_iadd dL_law_1485 ?_
  refine mj_iald dL_law_1486 (Or.inr hk_a0) ⟨h.1, ?_⟩
  replace h := h.2
  refine mj_aload_n dL_law_1487 rfl rfl ?_
  refine mj_iload dL_law_1488 rfl ?_
  refine mj_iconst (v := 2) dL_law_1490 (by decide) ?_
  refine mj_iadd dL_law_1491 ?_
  refine mj_iald dL_law_1492 (Or.inr hk_a0) ⟨h.1, ?_⟩
  replace h := h.2
  refine mj_if_eq (tgt := 1500) dL_law_1493 (by decide) ⟨fun hc => ?_, fun hc => ?_⟩
  · replace h := h.1 hc
    refine mj_iconst (v := 0) dL_law_1500 (by decide) ?_
    exact h
  · replace h := h.2 hc
    refine mj_iconst (v := 1) dL_law_1496 (by decide) ?_
    refine mj_goto (tgt := 1501) dL_law_1497 (by decide) ?_
    exact h
set_option maxRecDepth 40000 in
set_option maxHeartbeats 8000000 in
theorem b_L_law_1501 {l : Launch} {G : mj_G} {k n : Nat} {a0 : Nat} {a1 : Nat} {a2 : Nat} {a3 : Nat} {x4 : Int32} {s0 : Int32} {c1 : Nat} {s2 : Int32} {s3 : Int32} {S : mj_S} (hkn : k ≤ 600000 ∧ n ≤ 7200000) (hk_a0 : m_kd S a0 = 110) (hk_a1 : m_kd S a1 = 9) (hk_a2 : m_kd S a2 = 10) (hk_a3 : m_kd S a3 = 102) (hk_c1 : m_kd S c1 = 10) (h : M_X11_faded l G c1 s2 s3 S (fun S1 r2 => ((s0 = r2) → ∀ v3 : Int32, v3 = x4 + (6 : Int32) → V_L_law_23 l G k n a0 a1 a2 a3 v3 S1) ∧ ((¬ (s0 = r2)) → (0 : Int32) = 1))) : V_L_law_1501 l G k n a0 a1 a2 a3 x4 s0 c1 s2 s3 S := by
  obtain ⟨hkn1, hkn2⟩ := hkn
  refine mj_callVi (as := [.int s2, .int s3]) (st := [.int s0]) dL_law_1501 cal_X11_faded lk_L_169 im_X11_faded se_X11_faded (ci := 10) rfl (by decide) hk_c1 h rfl (Nat.le_of_ble_eq_true rfl) (by decide) ⟨by omega, by omega⟩ (fun S1 r2 h hn_r2 hp => ?_)
  have hk_a0 : m_kd S1 a0 = 110 := m_kd_pre hp hk_a0 (by decide)
  have hk_a1 : m_kd S1 a1 = 9 := m_kd_pre hp hk_a1 (by decide)
  have hk_a2 : m_kd S1 a2 = 10 := m_kd_pre hp hk_a2 (by decide)
  have hk_a3 : m_kd S1 a3 = 102 := m_kd_pre hp hk_a3 (by decide)
  have hk_c1 : m_kd S1 c1 = 10 := m_kd_pre hp hk_c1 (by decide)
  refine mj_icmp_eq (tgt := 1737) dL_law_1504 (by decide) ⟨fun hc => ?_, fun hc => ?_⟩
  · replace h := h.1 hc
    obtain ⟨v3, ev3⟩ : ∃ z : Int32, z = x4 + (6 : Int32) := ⟨_, rfl⟩
    refine mj_iinc (v := v3) dL_law_1737 rfl (by rw [ev3]; rfl) (by decide) rfl rfl ?_
    replace h := h v3 ev3
    refine mj_goto (tgt := 23) dL_law_1740 (by decide) ?_
    exact h
  · replace h := h.2 hc
    refine mj_iconst (v := 0) dL_law_1507 (by decide) ?_
    exact mj_lrety dL_law_1508 h (by omega) (by omega)
