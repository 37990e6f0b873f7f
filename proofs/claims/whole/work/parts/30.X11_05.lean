abbrev V_X11_live_0 (l : Launch) (G : mj_G) (a0 : Nat) (S : mj_S) (Q : mj_S → Int32 → Prop) : Prop := mj_V l G (mj_room 9 0 0) RX11 cX11_live 5 (some .int) false 0 [some (.ref a0), none, none, none, none] [] S 0 0 (mj_std G (some .int) (mj_room 9 0 0) (mj_qi Q))
abbrev V_X11_live_13 (l : Launch) (G : mj_G) (a0 : Nat) (x1 : Int32) (x2 : Int32) (x3 : Int32) (S : mj_S) (Q : mj_S → Int32 → Prop) : Prop := mj_V l G (mj_room 9 0 0) RX11 cX11_live 5 (some .int) false 13 [some (.ref a0), some (.int x1), some (.int x2), some (.int x3), none] [] S 0 0 (mj_std G (some .int) (mj_room 9 0 0) (mj_qi Q))
abbrev V_X11_live_64 (l : Launch) (G : mj_G) (a0 : Nat) (x1 : Int32) (x2 : Int32) (x3 : Int32) (s0 : Int32) (S : mj_S) (Q : mj_S → Int32 → Prop) : Prop := mj_V l G (mj_room 9 0 0) RX11 cX11_live 5 (some .int) false 64 [some (.ref a0), some (.int x1), some (.int x2), some (.int x3), none] [.int s0] S 0 0 (mj_std G (some .int) (mj_room 9 0 0) (mj_qi Q))
abbrev V_X11_live_99 (l : Launch) (G : mj_G) (a0 : Nat) (x1 : Int32) (x2 : Int32) (x3 : Int32) (c0 : Nat) (s1 : Int32) (s2 : Int32) (s3 : Int32) (s4 : Int32) (S : mj_S) (Q : mj_S → Int32 → Prop) : Prop := mj_V l G (mj_room 9 0 0) RX11 cX11_live 5 (some .int) false 99 [some (.ref a0), some (.int x1), some (.int x2), some (.int x3), none] [.int s4, .int s3, .int s2, .int s1, .ref c0] S 0 0 (mj_std G (some .int) (mj_room 9 0 0) (mj_qi Q))
theorem e_X11_live {l : Launch} {G : mj_G} {a0 : Nat} {S : mj_S} {Q : mj_S → Int32 → Prop} (h : V_X11_live_0 l G a0 S Q) : M_X11_live l G a0 S Q := mj_enter (r := 4) (ini := false) (by decide +kernel) (fun h => by cases h) (fun _ => Nat.le_of_ble_eq_true rfl) rfl h
set_option maxRecDepth 20000 in
set_option maxHeartbeats 1000000 in
theorem b_X11_live_0 {l : Launch} {G : mj_G} {a0 : Nat} {S : mj_S} {Q : mj_S → Int32 → Prop} (hk_a0 : m_kd S a0 = 10) (h : M_X11_layLit l G a0 S (fun S1 => M_X11_hanging l G a0 S1 (fun S2 r3 => V_X11_live_13 l G a0 (0 : Int32) r3 (0 : Int32) S2 Q))) : V_X11_live_0 l G a0 S Q := by
  refine mj_iconst (v := 0) dX11_live_0 (by decide) ?_
  refine mj_istore_n dX11_live_1 rfl (by decide) rfl rfl ?_
  refine mj_aload_n dX11_live_2 rfl rfl ?_
  refine mj_callVv (as := []) (st := []) dX11_live_3 cal_X11_layLit lk_X11_341 im_X11_layLit se_X11_layLit (ci := 10) rfl (by decide) hk_a0 h rfl (Nat.le_of_ble_eq_true rfl) (by decide) ⟨Nat.le_of_ble_eq_true rfl, Nat.le_of_ble_eq_true rfl⟩ (fun S1 h hp => ?_)
  have hk_a0 : m_kd S1 a0 = 10 := m_kd_pre hp hk_a0 (by decide)
  refine mj_aload_n dX11_live_6 rfl rfl ?_
  refine mj_callVi (as := []) (st := []) dX11_live_7 cal_X11_hanging lk_X11_314 im_X11_hanging se_X11_hanging (ci := 10) rfl (by decide) hk_a0 h rfl (Nat.le_of_ble_eq_true rfl) (by decide) ⟨Nat.le_of_ble_eq_true rfl, Nat.le_of_ble_eq_true rfl⟩ (fun S2 r3 h hn_r3 hp => ?_)
  have hk_a0 : m_kd S2 a0 = 10 := m_kd_pre hp hk_a0 (by decide)
  refine mj_istore_n dX11_live_10 rfl (by decide) rfl rfl ?_
  refine mj_iconst (v := 0) dX11_live_11 (by decide) ?_
  refine mj_istore_n dX11_live_12 rfl (by decide) rfl rfl ?_
  exact h
set_option maxRecDepth 20000 in
set_option maxHeartbeats 1000000 in
theorem b_X11_live_13 {l : Launch} {G : mj_G} {a0 : Nat} {x1 : Int32} {x2 : Int32} {x3 : Int32} {S : mj_S} {Q : mj_S → Int32 → Prop} (hk_a0 : m_kd S a0 = 10) (h : (((m_gi S a0 26) ≤ x3) → ∃ b1, m_gp S a0 28 = some b1 ∧ (vp_in (17 : Int32) (m_ln S b1) ∧ (vp_in (17 : Int32) (m_ln S b1) ∧ (∀ S2 : mj_S, S2 = m_si S b1 ((17 : Int32)).toNatClampNeg ((m_gi S b1 ((17 : Int32)).toNatClampNeg) + (1 : Int32)) → Q S2 x1)))) ∧ ((¬ ((m_gi S a0 26) ≤ x3)) → M_X11_has l G x2 x3 S (fun S3 r4 => ((r4 = 0) → ∀ v5 : Int32, v5 = x3 + (1 : Int32) → V_X11_live_13 l G a0 x1 x2 v5 S3 Q) ∧ ((¬ (r4 = 0)) → ∃ b6, m_gp S3 a0 34 = some b6 ∧ (M_X11_firstSide l G a0 x3 S3 (fun S7 r8 => vp_in r8 (m_ln S7 b6) ∧ ((((20 : Int32) ≤ (m_gi S7 b6 (r8).toNatClampNeg)) → V_X11_live_64 l G a0 x1 x2 x3 (1 : Int32) S7 Q) ∧ ((¬ ((20 : Int32) ≤ (m_gi S7 b6 (r8).toNatClampNeg))) → ∃ b9, m_gp S7 a0 34 = some b9 ∧ (M_X11_secondSide l G a0 x3 S7 (fun S10 r11 => vp_in r11 (m_ln S10 b9) ∧ ((((m_gi S10 b9 (r11).toNatClampNeg) < (20 : Int32)) → V_X11_live_64 l G a0 x1 x2 x3 (0 : Int32) S10 Q) ∧ ((¬ ((m_gi S10 b9 (r11).toNatClampNeg) < (20 : Int32))) → V_X11_live_64 l G a0 x1 x2 x3 (1 : Int32) S10 Q)))))))))))) : V_X11_live_13 l G a0 x1 x2 x3 S Q := by
  refine mj_iload_n dX11_live_13 rfl rfl ?_
  refine mj_aload_n dX11_live_14 rfl rfl ?_
  refine mj_getI dX11_live_15 fl_X11_261_10 hk_a0 rfl ?_
  refine mj_icmp_ge (tgt := 128) dX11_live_18 (by decide) ⟨fun hc => ?_, fun hc => ?_⟩
  · replace h := h.1 hc
    refine mj_aload_n dX11_live_128 rfl rfl ?_
    obtain ⟨b1, eb1, h⟩ := h
    refine mj_getP dX11_live_129 fl_X11_58_10 hk_a0 rfl ⟨b1, eb1, fun hk_b1 => ?_⟩
    refine mj_bipush (v := 17) dX11_live_132 (by decide) ?_
    refine mj_dup2 dX11_live_134 rfl rfl ?_
    refine mj_iald dX11_live_135 (Or.inl hk_b1) ⟨h.1, ?_⟩
    replace h := h.2
    refine mj_iconst (v := 1) dX11_live_136 (by decide) ?_
    refine mj_iadd dX11_live_137 ?_
    refine mj_iast dX11_live_138 hk_b1 ⟨h.1, ?_⟩
    replace h := h.2
    obtain ⟨S2, eS2⟩ : ∃ z, z = m_si S b1 ((17 : Int32)).toNatClampNeg ((m_gi S b1 ((17 : Int32)).toNatClampNeg) + (1 : Int32)) := ⟨_, rfl⟩
    rw [← eS2]
    replace h := h S2 eS2
    have hk_a0 : m_kd S2 a0 = 10 := by rw [eS2]; exact hk_a0
    have hk_b1 : m_kd S2 b1 = 100 := by rw [eS2]; exact hk_b1
    refine mj_iload_n dX11_live_139 rfl rfl ?_
    exact mj_reti dX11_live_140 rfl ⟨Nat.le_of_ble_eq_true rfl, Nat.le_of_ble_eq_true rfl⟩ h
  · replace h := h.2 hc
    refine mj_iload_n dX11_live_21 rfl rfl ?_
    refine mj_iload_n dX11_live_22 rfl rfl ?_
    refine mj_callSi (as := [.int x2, .int x3]) (st := []) dX11_live_23 cal_X11_has lk_X11_228 sm_X11_has h rfl (Nat.le_of_ble_eq_true rfl) (by decide) ⟨Nat.le_of_ble_eq_true rfl, Nat.le_of_ble_eq_true rfl⟩ (fun S3 r4 h hn_r4 hp => ?_)
    have hk_a0 : m_kd S3 a0 = 10 := m_kd_pre hp hk_a0 (by decide)
    refine mj_if_eq (tgt := 122) dX11_live_26 (by decide) ⟨fun hc => ?_, fun hc => ?_⟩
    · replace h := h.1 hc
      obtain ⟨v5, ev5⟩ : ∃ z : Int32, z = x3 + (1 : Int32) := ⟨_, rfl⟩
      refine mj_iinc (v := v5) dX11_live_122 rfl (by rw [ev5]; rfl) (by decide) rfl rfl ?_
      replace h := h v5 ev5
      refine mj_goto (tgt := 13) dX11_live_125 (by decide) ?_
      exact h
    · replace h := h.2 hc
      refine mj_aload_n dX11_live_29 rfl rfl ?_
      obtain ⟨b6, eb6, h⟩ := h
      refine mj_getP dX11_live_30 fl_X11_74_10 hk_a0 rfl ⟨b6, eb6, fun hk_b6 => ?_⟩
      refine mj_aload_n dX11_live_33 rfl rfl ?_
      refine mj_iload_n dX11_live_34 rfl rfl ?_
      refine mj_callVi (as := [.int x3]) (st := [.ref b6]) dX11_live_35 cal_X11_firstSide lk_X11_301 im_X11_firstSide se_X11_firstSide (ci := 10) rfl (by decide) hk_a0 h rfl (Nat.le_of_ble_eq_true rfl) (by decide) ⟨Nat.le_of_ble_eq_true rfl, Nat.le_of_ble_eq_true rfl⟩ (fun S7 r8 h hn_r8 hp => ?_)
      have hk_a0 : m_kd S7 a0 = 10 := m_kd_pre hp hk_a0 (by decide)
      have hk_b6 : m_kd S7 b6 = 100 := m_kd_pre hp hk_b6 (by decide)
      refine mj_iald dX11_live_38 (Or.inl hk_b6) ⟨h.1, ?_⟩
      replace h := h.2
      refine mj_bipush (v := 20) dX11_live_39 (by decide) ?_
      refine mj_icmp_ge (tgt := 59) dX11_live_41 (by decide) ⟨fun hc => ?_, fun hc => ?_⟩
      · replace h := h.1 hc
        refine mj_iconst (v := 1) dX11_live_59 (by decide) ?_
        refine mj_goto (tgt := 64) dX11_live_60 (by decide) ?_
        exact h
      · replace h := h.2 hc
        refine mj_aload_n dX11_live_44 rfl rfl ?_
        obtain ⟨b9, eb9, h⟩ := h
        refine mj_getP dX11_live_45 fl_X11_74_10 hk_a0 rfl ⟨b9, eb9, fun hk_b9 => ?_⟩
        refine mj_aload_n dX11_live_48 rfl rfl ?_
        refine mj_iload_n dX11_live_49 rfl rfl ?_
        refine mj_callVi (as := [.int x3]) (st := [.ref b9]) dX11_live_50 cal_X11_secondSide lk_X11_304 im_X11_secondSide se_X11_secondSide (ci := 10) rfl (by decide) hk_a0 h rfl (Nat.le_of_ble_eq_true rfl) (by decide) ⟨Nat.le_of_ble_eq_true rfl, Nat.le_of_ble_eq_true rfl⟩ (fun S10 r11 h hn_r11 hp => ?_)
        have hk_a0 : m_kd S10 a0 = 10 := m_kd_pre hp hk_a0 (by decide)
        have hk_b6 : m_kd S10 b6 = 100 := m_kd_pre hp hk_b6 (by decide)
        have hk_b9 : m_kd S10 b9 = 100 := m_kd_pre hp hk_b9 (by decide)
        refine mj_iald dX11_live_53 (Or.inl hk_b9) ⟨h.1, ?_⟩
        replace h := h.2
        refine mj_bipush (v := 20) dX11_live_54 (by decide) ?_
        refine mj_icmp_lt (tgt := 63) dX11_live_56 (by decide) ⟨fun hc => ?_, fun hc => ?_⟩
        · replace h := h.1 hc
          refine mj_iconst (v := 0) dX11_live_63 (by decide) ?_
          exact h
        · replace h := h.2 hc
          refine mj_iconst (v := 1) dX11_live_59 (by decide) ?_
          refine mj_goto (tgt := 64) dX11_live_60 (by decide) ?_
          exact h
set_option maxRecDepth 20000 in
set_option maxHeartbeats 1000000 in
theorem b_X11_live_64 {l : Launch} {G : mj_G} {a0 : Nat} {x1 : Int32} {x2 : Int32} {x3 : Int32} {s0 : Int32} {S : mj_S} {Q : mj_S → Int32 → Prop} (hk_a0 : m_kd S a0 = 10) (h : ∃ b1, m_gp S a0 28 = some b1 ∧ (∃ b2, m_gp S a0 28 = some b2 ∧ (vp_in ((0 : Int32) + x3) (m_ln S b2) ∧ (∃ b3, m_gp S a0 22 = some b3 ∧ (vp_in (3 : Int32) (m_ln S b3) ∧ (((s0 = 0) → V_X11_live_99 l G a0 x1 x2 x3 b1 ((0 : Int32) + x3) (0 : Int32) ((m_gi S b2 (((0 : Int32) + x3)).toNatClampNeg) - (m_gi S b3 ((3 : Int32)).toNatClampNeg)) (0 : Int32) S Q) ∧ ((¬ (s0 = 0)) → V_X11_live_99 l G a0 x1 x2 x3 b1 ((0 : Int32) + x3) (0 : Int32) ((m_gi S b2 (((0 : Int32) + x3)).toNatClampNeg) - (m_gi S b3 ((3 : Int32)).toNatClampNeg)) (1 : Int32) S Q))))))) : V_X11_live_64 l G a0 x1 x2 x3 s0 S Q := by
  refine mj_istore dX11_live_64 (by decide) rfl rfl ?_
  refine mj_aload_n dX11_live_66 rfl rfl ?_
  obtain ⟨b1, eb1, h⟩ := h
  refine mj_getP dX11_live_67 fl_X11_58_10 hk_a0 rfl ⟨b1, eb1, fun hk_b1 => ?_⟩
  refine mj_iconst (v := 0) dX11_live_70 (by decide) ?_
  refine mj_iload_n dX11_live_71 rfl rfl ?_
  refine mj_iadd dX11_live_72 ?_
  refine mj_iconst (v := 0) dX11_live_73 (by decide) ?_
  refine mj_aload_n dX11_live_74 rfl rfl ?_
  obtain ⟨b2, eb2, h⟩ := h
  refine mj_getP dX11_live_75 fl_X11_58_10 hk_a0 rfl ⟨b2, eb2, fun hk_b2 => ?_⟩
  refine mj_iconst (v := 0) dX11_live_78 (by decide) ?_
  refine mj_iload_n dX11_live_79 rfl rfl ?_
  refine mj_iadd dX11_live_80 ?_
  refine mj_iald dX11_live_81 (Or.inl hk_b2) ⟨h.1, ?_⟩
  replace h := h.2
  refine mj_aload_n dX11_live_82 rfl rfl ?_
  obtain ⟨b3, eb3, h⟩ := h
  refine mj_getP dX11_live_83 fl_X11_49_10 hk_a0 rfl ⟨b3, eb3, fun hk_b3 => ?_⟩
  refine mj_iconst (v := 3) dX11_live_86 (by decide) ?_
  refine mj_iald dX11_live_87 (Or.inl hk_b3) ⟨h.1, ?_⟩
  replace h := h.2
  refine mj_isub dX11_live_88 ?_
  refine mj_iload dX11_live_89 rfl ?_
  refine mj_if_eq (tgt := 98) dX11_live_91 (by decide) ⟨fun hc => ?_, fun hc => ?_⟩
  · replace h := h.1 hc
    refine mj_iconst (v := 0) dX11_live_98 (by decide) ?_
    exact mj_lessm [true, true, true, true, false] rfl h
  · replace h := h.2 hc
    refine mj_iconst (v := 1) dX11_live_94 (by decide) ?_
    refine mj_goto (tgt := 99) dX11_live_95 (by decide) ?_
    exact mj_lessm [true, true, true, true, false] rfl h
set_option maxRecDepth 20000 in
set_option maxHeartbeats 1000000 in
theorem b_X11_live_99 {l : Launch} {G : mj_G} {a0 : Nat} {x1 : Int32} {x2 : Int32} {x3 : Int32} {c0 : Nat} {s1 : Int32} {s2 : Int32} {s3 : Int32} {s4 : Int32} {S : mj_S} {Q : mj_S → Int32 → Prop} (hk_a0 : m_kd S a0 = 10) (hk_c0 : m_kd S c0 = 100) (h : M_J9_max_7cf53 l G s2 (s3 - s4) S (fun S1 r2 => vp_in s1 (m_ln S1 c0) ∧ (∀ S3 : mj_S, S3 = m_si S1 c0 (s1).toNatClampNeg r2 → M_X11_isFallen l G a0 x3 S3 (fun S4 r5 => ((r5 = 0) → ∀ v6 : Int32, v6 = (x1 ||| (0 : Int32)) → ∀ v7 : Int32, v7 = x3 + (1 : Int32) → V_X11_live_13 l G a0 v6 x2 v7 S4 Q) ∧ ((¬ (r5 = 0)) → ∀ v8 : Int32, v8 = (x1 ||| ((1 : Int32) <<< (x3 &&& 31))) → ∀ v9 : Int32, v9 = x3 + (1 : Int32) → V_X11_live_13 l G a0 v8 x2 v9 S4 Q))))) : V_X11_live_99 l G a0 x1 x2 x3 c0 s1 s2 s3 s4 S Q := by
  refine mj_isub dX11_live_99 ?_
  refine mj_callSi (as := [.int s2, .int (s3 - s4)]) (st := [.int s1, .ref c0]) dX11_live_100 cal_J9_max_7cf53 lk_X11_312 sm_J9_max_7cf53 h rfl (Nat.le_of_ble_eq_true rfl) (by decide) ⟨Nat.le_of_ble_eq_true rfl, Nat.le_of_ble_eq_true rfl⟩ (fun S1 r2 h hn_r2 hp => ?_)
  have hk_a0 : m_kd S1 a0 = 10 := m_kd_pre hp hk_a0 (by decide)
  have hk_c0 : m_kd S1 c0 = 100 := m_kd_pre hp hk_c0 (by decide)
  refine mj_iast dX11_live_103 hk_c0 ⟨h.1, ?_⟩
  replace h := h.2
  obtain ⟨S3, eS3⟩ : ∃ z, z = m_si S1 c0 (s1).toNatClampNeg r2 := ⟨_, rfl⟩
  rw [← eS3]
  replace h := h S3 eS3
  have hk_a0 : m_kd S3 a0 = 10 := by rw [eS3]; exact hk_a0
  have hk_c0 : m_kd S3 c0 = 100 := by rw [eS3]; exact hk_c0
  refine mj_iload_n dX11_live_104 rfl rfl ?_
  refine mj_aload_n dX11_live_105 rfl rfl ?_
  refine mj_iload_n dX11_live_106 rfl rfl ?_
  refine mj_callVi (as := [.int x3]) (st := [.int x1]) dX11_live_107 cal_X11_isFallen lk_X11_298 im_X11_isFallen se_X11_isFallen (ci := 10) rfl (by decide) hk_a0 h rfl (Nat.le_of_ble_eq_true rfl) (by decide) ⟨Nat.le_of_ble_eq_true rfl, Nat.le_of_ble_eq_true rfl⟩ (fun S4 r5 h hn_r5 hp => ?_)
  have hk_a0 : m_kd S4 a0 = 10 := m_kd_pre hp hk_a0 (by decide)
  have hk_c0 : m_kd S4 c0 = 100 := m_kd_pre hp hk_c0 (by decide)
  refine mj_if_eq (tgt := 119) dX11_live_110 (by decide) ⟨fun hc => ?_, fun hc => ?_⟩
  · replace h := h.1 hc
    refine mj_iconst (v := 0) dX11_live_119 (by decide) ?_
    refine mj_ior dX11_live_120 ?_
    refine mj_nmi (fun v6 ev6 => ?_)
    replace h := h v6 ev6
    refine mj_istore_n dX11_live_121 rfl (by decide) rfl rfl ?_
    obtain ⟨v7, ev7⟩ : ∃ z : Int32, z = x3 + (1 : Int32) := ⟨_, rfl⟩
    refine mj_iinc (v := v7) dX11_live_122 rfl (by rw [ev7]; rfl) (by decide) rfl rfl ?_
    replace h := h v7 ev7
    refine mj_goto (tgt := 13) dX11_live_125 (by decide) ?_
    exact h
  · replace h := h.2 hc
    refine mj_iconst (v := 1) dX11_live_113 (by decide) ?_
    refine mj_iload_n dX11_live_114 rfl rfl ?_
    refine mj_ishl dX11_live_115 ?_
    refine mj_goto (tgt := 120) dX11_live_116 (by decide) ?_
    refine mj_ior dX11_live_120 ?_
    refine mj_nmi (fun v8 ev8 => ?_)
    replace h := h v8 ev8
    refine mj_istore_n dX11_live_121 rfl (by decide) rfl rfl ?_
    obtain ⟨v9, ev9⟩ : ∃ z : Int32, z = x3 + (1 : Int32) := ⟨_, rfl⟩
    refine mj_iinc (v := v9) dX11_live_122 rfl (by rw [ev9]; rfl) (by decide) rfl rfl ?_
    replace h := h v9 ev9
    refine mj_goto (tgt := 13) dX11_live_125 (by decide) ?_
    exact h
abbrev V_X11_passYear_0 (l : Launch) (G : mj_G) (a0 : Nat) (S : mj_S) (Q : mj_S → Prop) : Prop := mj_V l G (mj_room 10 0 0) RX11 cX11_passYear 3 none false 0 [some (.ref a0), none, none] [] S 0 0 (mj_std G none (mj_room 10 0 0) (mj_qv Q))
abbrev V_X11_passYear_19 (l : Launch) (G : mj_G) (a0 : Nat) (x1 : Int32) (x2 : Int32) (S : mj_S) (Q : mj_S → Prop) : Prop := mj_V l G (mj_room 10 0 0) RX11 cX11_passYear 3 none false 19 [some (.ref a0), some (.int x1), some (.int x2)] [] S 0 0 (mj_std G none (mj_room 10 0 0) (mj_qv Q))
abbrev V_X11_passYear_63 (l : Launch) (G : mj_G) (a0 : Nat) (x1 : Int32) (S : mj_S) (Q : mj_S → Prop) : Prop := mj_V l G (mj_room 10 0 0) RX11 cX11_passYear 3 none false 63 [some (.ref a0), some (.int x1), none] [] S 0 0 (mj_std G none (mj_room 10 0 0) (mj_qv Q))
theorem e_X11_passYear {l : Launch} {G : mj_G} {a0 : Nat} {S : mj_S} {Q : mj_S → Prop} (h : V_X11_passYear_0 l G a0 S Q) : M_X11_passYear l G a0 S Q := mj_enter (r := 2) (ini := false) (by decide +kernel) (fun h => by cases h) (fun _ => Nat.le_of_ble_eq_true rfl) rfl h
set_option maxRecDepth 20000 in
set_option maxHeartbeats 1000000 in
theorem b_X11_passYear_0 {l : Launch} {G : mj_G} {a0 : Nat} {S : mj_S} {Q : mj_S → Prop} (hk_a0 : m_kd S a0 = 10) (h : M_X11_live l G a0 S (fun S1 r2 => ∃ b3, m_gp S1 a0 28 = some b3 ∧ (vp_in (18 : Int32) (m_ln S1 b3) ∧ (((¬ (m_gi S1 b3 ((18 : Int32)).toNatClampNeg) = (60 : Int32)) → V_X11_passYear_63 l G a0 r2 S1 Q) ∧ (((m_gi S1 b3 ((18 : Int32)).toNatClampNeg) = (60 : Int32)) → V_X11_passYear_19 l G a0 r2 (3 : Int32) S1 Q))))) : V_X11_passYear_0 l G a0 S Q := by
  refine mj_aload_n dX11_passYear_0 rfl rfl ?_
  refine mj_callVi (as := []) (st := []) dX11_passYear_1 cal_X11_live lk_X11_371 im_X11_live se_X11_live (ci := 10) rfl (by decide) hk_a0 h rfl (Nat.le_of_ble_eq_true rfl) (by decide) ⟨Nat.le_of_ble_eq_true rfl, Nat.le_of_ble_eq_true rfl⟩ (fun S1 r2 h hn_r2 hp => ?_)
  have hk_a0 : m_kd S1 a0 = 10 := m_kd_pre hp hk_a0 (by decide)
  refine mj_istore_n dX11_passYear_4 rfl (by decide) rfl rfl ?_
  refine mj_aload_n dX11_passYear_5 rfl rfl ?_
  obtain ⟨b3, eb3, h⟩ := h
  refine mj_getP dX11_passYear_6 fl_X11_58_10 hk_a0 rfl ⟨b3, eb3, fun hk_b3 => ?_⟩
  refine mj_bipush (v := 18) dX11_passYear_9 (by decide) ?_
  refine mj_iald dX11_passYear_11 (Or.inl hk_b3) ⟨h.1, ?_⟩
  replace h := h.2
  refine mj_bipush (v := 60) dX11_passYear_12 (by decide) ?_
  refine mj_icmp_ne (tgt := 63) dX11_passYear_14 (by decide) ⟨fun hc => ?_, fun hc => ?_⟩
  · replace h := h.1 hc
    exact h
  · replace h := h.2 hc
    refine mj_iconst (v := 3) dX11_passYear_17 (by decide) ?_
    refine mj_istore_n dX11_passYear_18 rfl (by decide) rfl rfl ?_
    exact h
set_option maxRecDepth 20000 in
set_option maxHeartbeats 1000000 in
theorem b_X11_passYear_19 {l : Launch} {G : mj_G} {a0 : Nat} {x1 : Int32} {x2 : Int32} {S : mj_S} {Q : mj_S → Prop} (hk_a0 : m_kd S a0 = 10) (h : (((180 : Int32) ≤ x2) → ∃ b1, m_gp S a0 28 = some b1 ∧ (vp_in (18 : Int32) (m_ln S b1) ∧ (vp_in (18 : Int32) (m_ln S b1) ∧ (∀ S2 : mj_S, S2 = m_si S b1 ((18 : Int32)).toNatClampNeg ((m_gi S b1 ((18 : Int32)).toNatClampNeg) - (1 : Int32)) → V_X11_passYear_63 l G a0 x1 S2 Q)))) ∧ ((¬ ((180 : Int32) ≤ x2)) → ∃ b3, m_gp S a0 28 = some b3 ∧ (∃ b4, m_gp S a0 28 = some b4 ∧ (vp_in ((19 : Int32) + x2) (m_ln S b4) ∧ (vp_in (((19 : Int32) + x2) - (3 : Int32)) (m_ln S b3) ∧ (∀ S5 : mj_S, S5 = m_si S b3 ((((19 : Int32) + x2) - (3 : Int32))).toNatClampNeg (m_gi S b4 (((19 : Int32) + x2)).toNatClampNeg) → ∀ v6 : Int32, v6 = x2 + (1 : Int32) → V_X11_passYear_19 l G a0 x1 v6 S5 Q)))))) : V_X11_passYear_19 l G a0 x1 x2 S Q := by
  refine mj_iload_n dX11_passYear_19 rfl rfl ?_
  refine mj_sipush (v := 180) dX11_passYear_20 (by decide) ?_
  refine mj_icmp_ge (tgt := 52) dX11_passYear_23 (by decide) ⟨fun hc => ?_, fun hc => ?_⟩
  · replace h := h.1 hc
    refine mj_aload_n dX11_passYear_52 rfl rfl ?_
    obtain ⟨b1, eb1, h⟩ := h
    refine mj_getP dX11_passYear_53 fl_X11_58_10 hk_a0 rfl ⟨b1, eb1, fun hk_b1 => ?_⟩
    refine mj_bipush (v := 18) dX11_passYear_56 (by decide) ?_
    refine mj_dup2 dX11_passYear_58 rfl rfl ?_
    refine mj_iald dX11_passYear_59 (Or.inl hk_b1) ⟨h.1, ?_⟩
    replace h := h.2
    refine mj_iconst (v := 1) dX11_passYear_60 (by decide) ?_
    refine mj_isub dX11_passYear_61 ?_
    refine mj_iast dX11_passYear_62 hk_b1 ⟨h.1, ?_⟩
    replace h := h.2
    obtain ⟨S2, eS2⟩ : ∃ z, z = m_si S b1 ((18 : Int32)).toNatClampNeg ((m_gi S b1 ((18 : Int32)).toNatClampNeg) - (1 : Int32)) := ⟨_, rfl⟩
    rw [← eS2]
    replace h := h S2 eS2
    have hk_a0 : m_kd S2 a0 = 10 := by rw [eS2]; exact hk_a0
    have hk_b1 : m_kd S2 b1 = 100 := by rw [eS2]; exact hk_b1
    exact mj_lessm [true, true, false] rfl h
  · replace h := h.2 hc
    refine mj_aload_n dX11_passYear_26 rfl rfl ?_
    obtain ⟨b3, eb3, h⟩ := h
    refine mj_getP dX11_passYear_27 fl_X11_58_10 hk_a0 rfl ⟨b3, eb3, fun hk_b3 => ?_⟩
    refine mj_bipush (v := 19) dX11_passYear_30 (by decide) ?_
    refine mj_iload_n dX11_passYear_32 rfl rfl ?_
    refine mj_iadd dX11_passYear_33 ?_
    refine mj_iconst (v := 3) dX11_passYear_34 (by decide) ?_
    refine mj_isub dX11_passYear_35 ?_
    refine mj_aload_n dX11_passYear_36 rfl rfl ?_
    obtain ⟨b4, eb4, h⟩ := h
    refine mj_getP dX11_passYear_37 fl_X11_58_10 hk_a0 rfl ⟨b4, eb4, fun hk_b4 => ?_⟩
    refine mj_bipush (v := 19) dX11_passYear_40 (by decide) ?_
    refine mj_iload_n dX11_passYear_42 rfl rfl ?_
    refine mj_iadd dX11_passYear_43 ?_
    refine mj_iald dX11_passYear_44 (Or.inl hk_b4) ⟨h.1, ?_⟩
    replace h := h.2
    refine mj_iast dX11_passYear_45 hk_b3 ⟨h.1, ?_⟩
    replace h := h.2
    obtain ⟨S5, eS5⟩ : ∃ z, z = m_si S b3 ((((19 : Int32) + x2) - (3 : Int32))).toNatClampNeg (m_gi S b4 (((19 : Int32) + x2)).toNatClampNeg) := ⟨_, rfl⟩
    rw [← eS5]
    replace h := h S5 eS5
    have hk_a0 : m_kd S5 a0 = 10 := by rw [eS5]; exact hk_a0
    have hk_b3 : m_kd S5 b3 = 100 := by rw [eS5]; exact hk_b3
    have hk_b4 : m_kd S5 b4 = 100 := by rw [eS5]; exact hk_b4
    obtain ⟨v6, ev6⟩ : ∃ z : Int32, z = x2 + (1 : Int32) := ⟨_, rfl⟩
    refine mj_iinc (v := v6) dX11_passYear_46 rfl (by rw [ev6]; rfl) (by decide) rfl rfl ?_
    replace h := h v6 ev6
    refine mj_goto (tgt := 19) dX11_passYear_49 (by decide) ?_
    exact h
set_option maxRecDepth 20000 in
set_option maxHeartbeats 1000000 in
theorem b_X11_passYear_63 {l : Launch} {G : mj_G} {a0 : Nat} {x1 : Int32} {S : mj_S} {Q : mj_S → Prop} (hk_a0 : m_kd S a0 = 10) (h : ∃ b1, m_gp S a0 28 = some b1 ∧ (vp_in (18 : Int32) (m_ln S b1) ∧ (∀ v2 : Int32, v2 = ((19 : Int32) + ((3 : Int32) * (m_gi S b1 ((18 : Int32)).toNatClampNeg))) → ∃ b3, m_gp S a0 28 = some b3 ∧ (M_X11_states l G a0 S (fun S4 r5 => vp_in v2 (m_ln S4 b3) ∧ (∀ S6 : mj_S, S6 = m_si S4 b3 (v2).toNatClampNeg r5 → ∃ b7, m_gp S6 a0 28 = some b7 ∧ (M_X11_litOfAll l G a0 S6 (fun S8 r9 => vp_in (v2 + (1 : Int32)) (m_ln S8 b7) ∧ (∀ S10 : mj_S, S10 = m_si S8 b7 ((v2 + (1 : Int32))).toNatClampNeg r9 → ∃ b11, m_gp S10 a0 28 = some b11 ∧ (vp_in (v2 + (2 : Int32)) (m_ln S10 b11) ∧ (∀ S12 : mj_S, S12 = m_si S10 b11 ((v2 + (2 : Int32))).toNatClampNeg x1 → ∃ b13, m_gp S12 a0 28 = some b13 ∧ (vp_in (18 : Int32) (m_ln S12 b13) ∧ (vp_in (18 : Int32) (m_ln S12 b13) ∧ (∀ S14 : mj_S, S14 = m_si S12 b13 ((18 : Int32)).toNatClampNeg ((m_gi S12 b13 ((18 : Int32)).toNatClampNeg) + (1 : Int32)) → Q S14)))))))))))))) : V_X11_passYear_63 l G a0 x1 S Q := by
  refine mj_bipush (v := 19) dX11_passYear_63 (by decide) ?_
  refine mj_iconst (v := 3) dX11_passYear_65 (by decide) ?_
  refine mj_aload_n dX11_passYear_66 rfl rfl ?_
  obtain ⟨b1, eb1, h⟩ := h
  refine mj_getP dX11_passYear_67 fl_X11_58_10 hk_a0 rfl ⟨b1, eb1, fun hk_b1 => ?_⟩
  refine mj_bipush (v := 18) dX11_passYear_70 (by decide) ?_
  refine mj_iald dX11_passYear_72 (Or.inl hk_b1) ⟨h.1, ?_⟩
  replace h := h.2
  refine mj_imul dX11_passYear_73 ?_
  refine mj_iadd dX11_passYear_74 ?_
  refine mj_nmi (fun v2 ev2 => ?_)
  replace h := h v2 ev2
  refine mj_istore_n dX11_passYear_75 rfl (by decide) rfl rfl ?_
  refine mj_aload_n dX11_passYear_76 rfl rfl ?_
  obtain ⟨b3, eb3, h⟩ := h
  refine mj_getP dX11_passYear_77 fl_X11_58_10 hk_a0 rfl ⟨b3, eb3, fun hk_b3 => ?_⟩
  refine mj_iload_n dX11_passYear_80 rfl rfl ?_
  refine mj_aload_n dX11_passYear_81 rfl rfl ?_
  refine mj_callVi (as := []) (st := [.int v2, .ref b3]) dX11_passYear_82 cal_X11_states lk_X11_362 im_X11_states se_X11_states (ci := 10) rfl (by decide) hk_a0 h rfl (Nat.le_of_ble_eq_true rfl) (by decide) ⟨Nat.le_of_ble_eq_true rfl, Nat.le_of_ble_eq_true rfl⟩ (fun S4 r5 h hn_r5 hp => ?_)
  have hk_a0 : m_kd S4 a0 = 10 := m_kd_pre hp hk_a0 (by decide)
  have hk_b1 : m_kd S4 b1 = 100 := m_kd_pre hp hk_b1 (by decide)
  have hk_b3 : m_kd S4 b3 = 100 := m_kd_pre hp hk_b3 (by decide)
  refine mj_iast dX11_passYear_85 hk_b3 ⟨h.1, ?_⟩
  replace h := h.2
  obtain ⟨S6, eS6⟩ : ∃ z, z = m_si S4 b3 (v2).toNatClampNeg r5 := ⟨_, rfl⟩
  rw [← eS6]
  replace h := h S6 eS6
  have hk_a0 : m_kd S6 a0 = 10 := by rw [eS6]; exact hk_a0
  have hk_b1 : m_kd S6 b1 = 100 := by rw [eS6]; exact hk_b1
  have hk_b3 : m_kd S6 b3 = 100 := by rw [eS6]; exact hk_b3
  refine mj_aload_n dX11_passYear_86 rfl rfl ?_
  obtain ⟨b7, eb7, h⟩ := h
  refine mj_getP dX11_passYear_87 fl_X11_58_10 hk_a0 rfl ⟨b7, eb7, fun hk_b7 => ?_⟩
  refine mj_iload_n dX11_passYear_90 rfl rfl ?_
  refine mj_iconst (v := 1) dX11_passYear_91 (by decide) ?_
  refine mj_iadd dX11_passYear_92 ?_
  refine mj_aload_n dX11_passYear_93 rfl rfl ?_
  refine mj_callVi (as := []) (st := [.int (v2 + (1 : Int32)), .ref b7]) dX11_passYear_94 cal_X11_litOfAll lk_X11_374 im_X11_litOfAll se_X11_litOfAll (ci := 10) rfl (by decide) hk_a0 h rfl (Nat.le_of_ble_eq_true rfl) (by decide) ⟨Nat.le_of_ble_eq_true rfl, Nat.le_of_ble_eq_true rfl⟩ (fun S8 r9 h hn_r9 hp => ?_)
  have hk_a0 : m_kd S8 a0 = 10 := m_kd_pre hp hk_a0 (by decide)
  have hk_b1 : m_kd S8 b1 = 100 := m_kd_pre hp hk_b1 (by decide)
  have hk_b3 : m_kd S8 b3 = 100 := m_kd_pre hp hk_b3 (by decide)
  have hk_b7 : m_kd S8 b7 = 100 := m_kd_pre hp hk_b7 (by decide)
  refine mj_iast dX11_passYear_97 hk_b7 ⟨h.1, ?_⟩
  replace h := h.2
  obtain ⟨S10, eS10⟩ : ∃ z, z = m_si S8 b7 ((v2 + (1 : Int32))).toNatClampNeg r9 := ⟨_, rfl⟩
  rw [← eS10]
  replace h := h S10 eS10
  have hk_a0 : m_kd S10 a0 = 10 := by rw [eS10]; exact hk_a0
  have hk_b1 : m_kd S10 b1 = 100 := by rw [eS10]; exact hk_b1
  have hk_b3 : m_kd S10 b3 = 100 := by rw [eS10]; exact hk_b3
  have hk_b7 : m_kd S10 b7 = 100 := by rw [eS10]; exact hk_b7
  refine mj_aload_n dX11_passYear_98 rfl rfl ?_
  obtain ⟨b11, eb11, h⟩ := h
  refine mj_getP dX11_passYear_99 fl_X11_58_10 hk_a0 rfl ⟨b11, eb11, fun hk_b11 => ?_⟩
  refine mj_iload_n dX11_passYear_102 rfl rfl ?_
  refine mj_iconst (v := 2) dX11_passYear_103 (by decide) ?_
  refine mj_iadd dX11_passYear_104 ?_
  refine mj_iload_n dX11_passYear_105 rfl rfl ?_
  refine mj_iast dX11_passYear_106 hk_b11 ⟨h.1, ?_⟩
  replace h := h.2
  obtain ⟨S12, eS12⟩ : ∃ z, z = m_si S10 b11 ((v2 + (2 : Int32))).toNatClampNeg x1 := ⟨_, rfl⟩
  rw [← eS12]
  replace h := h S12 eS12
  have hk_a0 : m_kd S12 a0 = 10 := by rw [eS12]; exact hk_a0
  have hk_b1 : m_kd S12 b1 = 100 := by rw [eS12]; exact hk_b1
  have hk_b3 : m_kd S12 b3 = 100 := by rw [eS12]; exact hk_b3
  have hk_b7 : m_kd S12 b7 = 100 := by rw [eS12]; exact hk_b7
  have hk_b11 : m_kd S12 b11 = 100 := by rw [eS12]; exact hk_b11
  refine mj_aload_n dX11_passYear_107 rfl rfl ?_
  obtain ⟨b13, eb13, h⟩ := h
  refine mj_getP dX11_passYear_108 fl_X11_58_10 hk_a0 rfl ⟨b13, eb13, fun hk_b13 => ?_⟩
  refine mj_bipush (v := 18) dX11_passYear_111 (by decide) ?_
  refine mj_dup2 dX11_passYear_113 rfl rfl ?_
  refine mj_iald dX11_passYear_114 (Or.inl hk_b13) ⟨h.1, ?_⟩
  replace h := h.2
  refine mj_iconst (v := 1) dX11_passYear_115 (by decide) ?_
  refine mj_iadd dX11_passYear_116 ?_
  refine mj_iast dX11_passYear_117 hk_b13 ⟨h.1, ?_⟩
  replace h := h.2
  obtain ⟨S14, eS14⟩ : ∃ z, z = m_si S12 b13 ((18 : Int32)).toNatClampNeg ((m_gi S12 b13 ((18 : Int32)).toNatClampNeg) + (1 : Int32)) := ⟨_, rfl⟩
  rw [← eS14]
  replace h := h S14 eS14
  have hk_a0 : m_kd S14 a0 = 10 := by rw [eS14]; exact hk_a0
  have hk_b1 : m_kd S14 b1 = 100 := by rw [eS14]; exact hk_b1
  have hk_b3 : m_kd S14 b3 = 100 := by rw [eS14]; exact hk_b3
  have hk_b7 : m_kd S14 b7 = 100 := by rw [eS14]; exact hk_b7
  have hk_b11 : m_kd S14 b11 = 100 := by rw [eS14]; exact hk_b11
  have hk_b13 : m_kd S14 b13 = 100 := by rw [eS14]; exact hk_b13
  exact mj_retv dX11_passYear_118 rfl ⟨Nat.le_of_ble_eq_true rfl, Nat.le_of_ble_eq_true rfl⟩ h
abbrev V_X11_areYears_0 (l : Launch) (G : mj_G) (a0 : Nat) (x1 : Int32) (S : mj_S) (Q : mj_S → Int32 → Prop) : Prop := mj_V l G (mj_room 2 0 0) RX11 cX11_areYears 2 (some .boolean) false 0 [some (.ref a0), some (.int x1)] [] S 0 0 (mj_std G (some .boolean) (mj_room 2 0 0) (mj_qi Q))
theorem e_X11_areYears {l : Launch} {G : mj_G} {a0 : Nat} {x1 : Int32} {S : mj_S} {Q : mj_S → Int32 → Prop} (h : V_X11_areYears_0 l G a0 x1 S Q) : M_X11_areYears l G a0 x1 S Q := mj_enter (r := 0) (ini := false) (by decide +kernel) (fun h => by cases h) (fun _ => Nat.le_of_ble_eq_true rfl) rfl h
set_option maxRecDepth 20000 in
set_option maxHeartbeats 1000000 in
theorem b_X11_areYears_0 {l : Launch} {G : mj_G} {a0 : Nat} {x1 : Int32} {S : mj_S} {Q : mj_S → Int32 → Prop} (hk_a0 : m_kd S a0 = 10) (h : M_X11_in l G x1 (1 : Int32) (60 : Int32) S (fun S1 r2 => ((r2 = 0) → Q S1 (0 : Int32)) ∧ ((¬ (r2 = 0)) → ∃ b3, m_gp S1 a0 28 = some b3 ∧ (vp_in (17 : Int32) (m_ln S1 b3) ∧ ((((999 : Int32) < ((m_gi S1 b3 ((17 : Int32)).toNatClampNeg) + x1)) → Q S1 (0 : Int32)) ∧ ((¬ ((999 : Int32) < ((m_gi S1 b3 ((17 : Int32)).toNatClampNeg) + x1))) → Q S1 (1 : Int32))))))) : V_X11_areYears_0 l G a0 x1 S Q := by
  refine mj_iload_n dX11_areYears_0 rfl rfl ?_
  refine mj_iconst (v := 1) dX11_areYears_1 (by decide) ?_
  refine mj_bipush (v := 60) dX11_areYears_2 (by decide) ?_
  refine mj_callSi (as := [.int x1, .int (1 : Int32), .int (60 : Int32)]) (st := []) dX11_areYears_4 cal_X11_in lk_X11_217 sm_X11_in h rfl (Nat.le_of_ble_eq_true rfl) (by decide) ⟨Nat.le_of_ble_eq_true rfl, Nat.le_of_ble_eq_true rfl⟩ (fun S1 r2 h hn_r2 hp => ?_)
  have hk_a0 : m_kd S1 a0 = 10 := m_kd_pre hp hk_a0 (by decide)
  refine mj_if_eq (tgt := 29) dX11_areYears_7 (by decide) ⟨fun hc => ?_, fun hc => ?_⟩
  · replace h := h.1 hc
    refine mj_iconst (v := 0) dX11_areYears_29 (by decide) ?_
    exact mj_retz dX11_areYears_30 rfl (rfl) ⟨Nat.le_of_ble_eq_true rfl, Nat.le_of_ble_eq_true rfl⟩ h
  · replace h := h.2 hc
    refine mj_aload_n dX11_areYears_10 rfl rfl ?_
    obtain ⟨b3, eb3, h⟩ := h
    refine mj_getP dX11_areYears_11 fl_X11_58_10 hk_a0 rfl ⟨b3, eb3, fun hk_b3 => ?_⟩
    refine mj_bipush (v := 17) dX11_areYears_14 (by decide) ?_
    refine mj_iald dX11_areYears_16 (Or.inl hk_b3) ⟨h.1, ?_⟩
    replace h := h.2
    refine mj_iload_n dX11_areYears_17 rfl rfl ?_
    refine mj_iadd dX11_areYears_18 ?_
    refine mj_sipush (v := 999) dX11_areYears_19 (by decide) ?_
    refine mj_icmp_gt (tgt := 29) dX11_areYears_22 (by decide) ⟨fun hc => ?_, fun hc => ?_⟩
    · replace h := h.1 hc
      refine mj_iconst (v := 0) dX11_areYears_29 (by decide) ?_
      exact mj_retz dX11_areYears_30 rfl (rfl) ⟨Nat.le_of_ble_eq_true rfl, Nat.le_of_ble_eq_true rfl⟩ h
    · replace h := h.2 hc
      refine mj_iconst (v := 1) dX11_areYears_25 (by decide) ?_
      refine mj_goto (tgt := 30) dX11_areYears_26 (by decide) ?_
      exact mj_retz dX11_areYears_30 rfl (rfl) ⟨Nat.le_of_ble_eq_true rfl, Nat.le_of_ble_eq_true rfl⟩ h
abbrev V_X11_years_0 (l : Launch) (G : mj_G) (a0 : Nat) (x1 : Int32) (S : mj_S) (Q : mj_S → Int32 → Prop) : Prop := mj_V l G (mj_room 11 0 0) RX11 cX11_years 3 (some .int) false 0 [some (.ref a0), some (.int x1), none] [] S 0 0 (mj_std G (some .int) (mj_room 11 0 0) (mj_qi Q))
abbrev V_X11_years_39 (l : Launch) (G : mj_G) (a0 : Nat) (x1 : Int32) (c0 : Nat) (s1 : Int32) (S : mj_S) (Q : mj_S → Int32 → Prop) : Prop := mj_V l G (mj_room 11 0 0) RX11 cX11_years 3 (some .int) false 39 [some (.ref a0), some (.int x1), none] [.int s1, .ref c0] S 0 0 (mj_std G (some .int) (mj_room 11 0 0) (mj_qi Q))
abbrev V_X11_years_49 (l : Launch) (G : mj_G) (a0 : Nat) (x1 : Int32) (x2 : Int32) (S : mj_S) (Q : mj_S → Int32 → Prop) : Prop := mj_V l G (mj_room 11 0 0) RX11 cX11_years 3 (some .int) false 49 [some (.ref a0), some (.int x1), some (.int x2)] [] S 0 0 (mj_std G (some .int) (mj_room 11 0 0) (mj_qi Q))
theorem e_X11_years {l : Launch} {G : mj_G} {a0 : Nat} {x1 : Int32} {S : mj_S} {Q : mj_S → Int32 → Prop} (h : V_X11_years_0 l G a0 x1 S Q) : M_X11_years l G a0 x1 S Q := mj_enter (r := 1) (ini := false) (by decide +kernel) (fun h => by cases h) (fun _ => Nat.le_of_ble_eq_true rfl) rfl h
set_option maxRecDepth 20000 in
set_option maxHeartbeats 1000000 in
theorem b_X11_years_0 {l : Launch} {G : mj_G} {a0 : Nat} {x1 : Int32} {S : mj_S} {Q : mj_S → Int32 → Prop} (hk_a0 : m_kd S a0 = 10) (h : ((¬ (m_gi S a0 25) = 0) → M_X11_in l G x1 (1 : Int32) (60 : Int32) S (fun S1 r2 => ((¬ r2 = 0) → M_X11_areYears l G a0 x1 S1 (fun S3 r4 => ((¬ r4 = 0) → V_X11_years_39 l G a0 x1 a0 (-1 : Int32) S3 Q) ∧ ((r4 = 0) → V_X11_years_39 l G a0 x1 a0 (4 : Int32) S3 Q))) ∧ ((r2 = 0) → V_X11_years_39 l G a0 x1 a0 (1 : Int32) S1 Q))) ∧ (((m_gi S a0 25) = 0) → V_X11_years_39 l G a0 x1 a0 (0 : Int32) S Q)) : V_X11_years_0 l G a0 x1 S Q := by
  refine mj_aload_n dX11_years_0 rfl rfl ?_
  refine mj_aload_n dX11_years_1 rfl rfl ?_
  refine mj_getI dX11_years_2 fl_X11_267_10 hk_a0 rfl ?_
  refine mj_if_ne (tgt := 12) dX11_years_5 (by decide) ⟨fun hc => ?_, fun hc => ?_⟩
  · replace h := h.1 hc
    refine mj_iload_n dX11_years_12 rfl rfl ?_
    refine mj_iconst (v := 1) dX11_years_13 (by decide) ?_
    refine mj_bipush (v := 60) dX11_years_14 (by decide) ?_
    refine mj_callSi (as := [.int x1, .int (1 : Int32), .int (60 : Int32)]) (st := [.ref a0]) dX11_years_16 cal_X11_in lk_X11_217 sm_X11_in h rfl (Nat.le_of_ble_eq_true rfl) (by decide) ⟨Nat.le_of_ble_eq_true rfl, Nat.le_of_ble_eq_true rfl⟩ (fun S1 r2 h hn_r2 hp => ?_)
    have hk_a0 : m_kd S1 a0 = 10 := m_kd_pre hp hk_a0 (by decide)
    refine mj_if_ne (tgt := 26) dX11_years_19 (by decide) ⟨fun hc => ?_, fun hc => ?_⟩
    · replace h := h.1 hc
      refine mj_aload_n dX11_years_26 rfl rfl ?_
      refine mj_iload_n dX11_years_27 rfl rfl ?_
      refine mj_callVi (as := [.int x1]) (st := [.ref a0]) dX11_years_28 cal_X11_areYears lk_X11_377 im_X11_areYears se_X11_areYears (ci := 10) rfl (by decide) hk_a0 h rfl (Nat.le_of_ble_eq_true rfl) (by decide) ⟨Nat.le_of_ble_eq_true rfl, Nat.le_of_ble_eq_true rfl⟩ (fun S3 r4 h hn_r4 hp => ?_)
      have hk_a0 : m_kd S3 a0 = 10 := m_kd_pre hp hk_a0 (by decide)
      refine mj_if_ne (tgt := 38) dX11_years_31 (by decide) ⟨fun hc => ?_, fun hc => ?_⟩
      · replace h := h.1 hc
        refine mj_iconst (v := (-1)) dX11_years_38 (by decide) ?_
        exact h
      · replace h := h.2 hc
        refine mj_iconst (v := 4) dX11_years_34 (by decide) ?_
        refine mj_goto (tgt := 39) dX11_years_35 (by decide) ?_
        exact h
    · replace h := h.2 hc
      refine mj_iconst (v := 1) dX11_years_22 (by decide) ?_
      refine mj_goto (tgt := 39) dX11_years_23 (by decide) ?_
      exact h
  · replace h := h.2 hc
    refine mj_iconst (v := 0) dX11_years_8 (by decide) ?_
    refine mj_goto (tgt := 39) dX11_years_9 (by decide) ?_
    exact h
set_option maxRecDepth 20000 in
set_option maxHeartbeats 1000000 in
theorem b_X11_years_39 {l : Launch} {G : mj_G} {a0 : Nat} {x1 : Int32} {c0 : Nat} {s1 : Int32} {S : mj_S} {Q : mj_S → Int32 → Prop} (hk_a0 : m_kd S a0 = 10) (hk_c0 : m_kd S c0 = 10) (h : M_X11_isRefused l G c0 s1 S (fun S1 r2 => ((r2 = 0) → V_X11_years_49 l G a0 x1 (0 : Int32) S1 Q) ∧ ((¬ (r2 = 0)) → Q S1 (-1 : Int32)))) : V_X11_years_39 l G a0 x1 c0 s1 S Q := by
  refine mj_callVi (as := [.int s1]) (st := []) dX11_years_39 cal_X11_isRefused lk_X11_356 im_X11_isRefused se_X11_isRefused (ci := 10) rfl (by decide) hk_c0 h rfl (Nat.le_of_ble_eq_true rfl) (by decide) ⟨Nat.le_of_ble_eq_true rfl, Nat.le_of_ble_eq_true rfl⟩ (fun S1 r2 h hn_r2 hp => ?_)
  have hk_a0 : m_kd S1 a0 = 10 := m_kd_pre hp hk_a0 (by decide)
  have hk_c0 : m_kd S1 c0 = 10 := m_kd_pre hp hk_c0 (by decide)
  refine mj_if_eq (tgt := 47) dX11_years_42 (by decide) ⟨fun hc => ?_, fun hc => ?_⟩
  · replace h := h.1 hc
    refine mj_iconst (v := 0) dX11_years_47 (by decide) ?_
    refine mj_istore_n dX11_years_48 rfl (by decide) rfl rfl ?_
    exact h
  · replace h := h.2 hc
    refine mj_iconst (v := (-1)) dX11_years_45 (by decide) ?_
    exact mj_reti dX11_years_46 rfl ⟨Nat.le_of_ble_eq_true rfl, Nat.le_of_ble_eq_true rfl⟩ h
set_option maxRecDepth 20000 in
set_option maxHeartbeats 1000000 in
theorem b_X11_years_49 {l : Launch} {G : mj_G} {a0 : Nat} {x1 : Int32} {x2 : Int32} {S : mj_S} {Q : mj_S → Int32 → Prop} (hk_a0 : m_kd S a0 = 10) (h : ((x1 ≤ x2) → ∃ b1, m_gp S a0 28 = some b1 ∧ (vp_in (17 : Int32) (m_ln S b1) ∧ (Q S (m_gi S b1 ((17 : Int32)).toNatClampNeg)))) ∧ ((¬ (x1 ≤ x2)) → M_X11_keep l G a0 S (fun S2 => M_X11_passYear l G a0 S2 (fun S3 => ∀ v4 : Int32, v4 = x2 + (1 : Int32) → V_X11_years_49 l G a0 x1 v4 S3 Q)))) : V_X11_years_49 l G a0 x1 x2 S Q := by
  refine mj_iload_n dX11_years_49 rfl rfl ?_
  refine mj_iload_n dX11_years_50 rfl rfl ?_
  refine mj_icmp_ge (tgt := 68) dX11_years_51 (by decide) ⟨fun hc => ?_, fun hc => ?_⟩
  · replace h := h.1 hc
    refine mj_aload_n dX11_years_68 rfl rfl ?_
    obtain ⟨b1, eb1, h⟩ := h
    refine mj_getP dX11_years_69 fl_X11_58_10 hk_a0 rfl ⟨b1, eb1, fun hk_b1 => ?_⟩
    refine mj_bipush (v := 17) dX11_years_72 (by decide) ?_
    refine mj_iald dX11_years_74 (Or.inl hk_b1) ⟨h.1, ?_⟩
    replace h := h.2
    exact mj_reti dX11_years_75 rfl ⟨Nat.le_of_ble_eq_true rfl, Nat.le_of_ble_eq_true rfl⟩ h
  · replace h := h.2 hc
    refine mj_aload_n dX11_years_54 rfl rfl ?_
    refine mj_callVv (as := []) (st := []) dX11_years_55 cal_X11_keep lk_X11_359 im_X11_keep se_X11_keep (ci := 10) rfl (by decide) hk_a0 h rfl (Nat.le_of_ble_eq_true rfl) (by decide) ⟨Nat.le_of_ble_eq_true rfl, Nat.le_of_ble_eq_true rfl⟩ (fun S2 h hp => ?_)
    have hk_a0 : m_kd S2 a0 = 10 := m_kd_pre hp hk_a0 (by decide)
    refine mj_aload_n dX11_years_58 rfl rfl ?_
    refine mj_callVv (as := []) (st := []) dX11_years_59 cal_X11_passYear lk_X11_380 im_X11_passYear se_X11_passYear (ci := 10) rfl (by decide) hk_a0 h rfl (Nat.le_of_ble_eq_true rfl) (by decide) ⟨Nat.le_of_ble_eq_true rfl, Nat.le_of_ble_eq_true rfl⟩ (fun S3 h hp => ?_)
    have hk_a0 : m_kd S3 a0 = 10 := m_kd_pre hp hk_a0 (by decide)
    obtain ⟨v4, ev4⟩ : ∃ z : Int32, z = x2 + (1 : Int32) := ⟨_, rfl⟩
    refine mj_iinc (v := v4) dX11_years_62 rfl (by rw [ev4]; rfl) (by decide) rfl rfl ?_
    replace h := h v4 ev4
    refine mj_goto (tgt := 49) dX11_years_65 (by decide) ?_
    exact h
abbrev V_X11_heat_0 (l : Launch) (G : mj_G) (a0 : Nat) (x1 : Int32) (S : mj_S) (Q : mj_S → Int32 → Prop) : Prop := mj_V l G (mj_room 2 0 0) RX11 cX11_heat 2 (some .boolean) false 0 [some (.ref a0), some (.int x1)] [] S 0 0 (mj_std G (some .boolean) (mj_room 2 0 0) (mj_qi Q))
theorem e_X11_heat {l : Launch} {G : mj_G} {a0 : Nat} {x1 : Int32} {S : mj_S} {Q : mj_S → Int32 → Prop} (h : V_X11_heat_0 l G a0 x1 S Q) : M_X11_heat l G a0 x1 S Q := mj_enter (r := 0) (ini := false) (by decide +kernel) (fun h => by cases h) (fun _ => Nat.le_of_ble_eq_true rfl) rfl h
set_option maxRecDepth 20000 in
set_option maxHeartbeats 1000000 in
theorem b_X11_heat_0 {l : Launch} {G : mj_G} {a0 : Nat} {x1 : Int32} {S : mj_S} {Q : mj_S → Int32 → Prop} (hk_a0 : m_kd S a0 = 10) (h : M_X11_in l G x1 (0 : Int32) (99 : Int32) S (fun S1 r2 => ((r2 = 0) → Q S1 (0 : Int32)) ∧ ((¬ (r2 = 0)) → ((¬ x1 = (m_gi S1 a0 31)) → ∀ S3 : mj_S, S3 = m_si S1 a0 31 x1 → Q S3 (1 : Int32)) ∧ ((x1 = (m_gi S1 a0 31)) → Q S1 (0 : Int32))))) : V_X11_heat_0 l G a0 x1 S Q := by
  refine mj_iload_n dX11_heat_0 rfl rfl ?_
  refine mj_iconst (v := 0) dX11_heat_1 (by decide) ?_
  refine mj_bipush (v := 99) dX11_heat_2 (by decide) ?_
  refine mj_callSi (as := [.int x1, .int (0 : Int32), .int (99 : Int32)]) (st := []) dX11_heat_4 cal_X11_in lk_X11_217 sm_X11_in h rfl (Nat.le_of_ble_eq_true rfl) (by decide) ⟨Nat.le_of_ble_eq_true rfl, Nat.le_of_ble_eq_true rfl⟩ (fun S1 r2 h hn_r2 hp => ?_)
  have hk_a0 : m_kd S1 a0 = 10 := m_kd_pre hp hk_a0 (by decide)
  refine mj_if_eq (tgt := 18) dX11_heat_7 (by decide) ⟨fun hc => ?_, fun hc => ?_⟩
  · replace h := h.1 hc
    refine mj_iconst (v := 0) dX11_heat_18 (by decide) ?_
    exact mj_retz dX11_heat_19 rfl (rfl) ⟨Nat.le_of_ble_eq_true rfl, Nat.le_of_ble_eq_true rfl⟩ h
  · replace h := h.2 hc
    refine mj_iload_n dX11_heat_10 rfl rfl ?_
    refine mj_aload_n dX11_heat_11 rfl rfl ?_
    refine mj_getI dX11_heat_12 fl_X11_383_10 hk_a0 rfl ?_
    refine mj_icmp_ne (tgt := 20) dX11_heat_15 (by decide) ⟨fun hc => ?_, fun hc => ?_⟩
    · replace h := h.1 hc
      refine mj_aload_n dX11_heat_20 rfl rfl ?_
      refine mj_iload_n dX11_heat_21 rfl rfl ?_
      refine mj_putI dX11_heat_22 fl_X11_383_10 hk_a0 (Or.inl rfl) rfl rfl rfl ?_
      obtain ⟨S3, eS3⟩ : ∃ z, z = m_si S1 a0 31 x1 := ⟨_, rfl⟩
      rw [← eS3]
      replace h := h S3 eS3
      have hk_a0 : m_kd S3 a0 = 10 := by rw [eS3]; exact hk_a0
      refine mj_iconst (v := 1) dX11_heat_25 (by decide) ?_
      exact mj_retz dX11_heat_26 rfl (rfl) ⟨Nat.le_of_ble_eq_true rfl, Nat.le_of_ble_eq_true rfl⟩ h
    · replace h := h.2 hc
      refine mj_iconst (v := 0) dX11_heat_18 (by decide) ?_
      exact mj_retz dX11_heat_19 rfl (rfl) ⟨Nat.le_of_ble_eq_true rfl, Nat.le_of_ble_eq_true rfl⟩ h
abbrev V_X11_draw_0 (l : Launch) (G : mj_G) (a0 : Nat) (x1 : Int32) (S : mj_S) (Q : mj_S → Int32 → Prop) : Prop := mj_V l G (mj_room 1 0 0) RX11 cX11_draw 2 (some .int) false 0 [some (.ref a0), some (.int x1)] [] S 0 0 (mj_std G (some .int) (mj_room 1 0 0) (mj_qi Q))
theorem e_X11_draw {l : Launch} {G : mj_G} {a0 : Nat} {x1 : Int32} {S : mj_S} {Q : mj_S → Int32 → Prop} (h : V_X11_draw_0 l G a0 x1 S Q) : M_X11_draw l G a0 x1 S Q := mj_enter (r := 0) (ini := false) (by decide +kernel) (fun h => by cases h) (fun _ => Nat.le_of_ble_eq_true rfl) rfl h
set_option maxRecDepth 20000 in
set_option maxHeartbeats 1000000 in
theorem b_X11_draw_0 {l : Launch} {G : mj_G} {a0 : Nat} {x1 : Int32} {S : mj_S} {Q : mj_S → Int32 → Prop} (hk_a0 : m_kd S a0 = 10) (h : ∀ S1 : mj_S, S1 = m_sl S a0 38 (((m_gl S a0 38) * (6364136223846793005 : Int64)) + (1442695040888963407 : Int64)) → ¬ ((x1).toInt64) = 0 ∧ (Q S1 (((((((m_gl S1 a0 38)).toUInt64 >>> (((33 : Int32)).toInt64.toUInt64 &&& Int64.toUInt64 63)).toInt64) - ((((m_gl S1 a0 38)).toUInt64 >>> (((33 : Int32)).toInt64.toUInt64 &&& Int64.toUInt64 63)).toInt64) / (x1).toInt64 * (x1).toInt64)).toInt32))) : V_X11_draw_0 l G a0 x1 S Q := by
  refine mj_aload_n dX11_draw_0 rfl rfl ?_
  refine mj_aload_n dX11_draw_1 rfl rfl ?_
  refine mj_getL dX11_draw_2 fl_X11_386_10 hk_a0 rfl ?_
  refine mj_ldc2 dX11_draw_5 cl_X11_390 ?_
  refine mj_lmul dX11_draw_8 ?_
  refine mj_ldc2 dX11_draw_9 cl_X11_392 ?_
  refine mj_ladd dX11_draw_12 ?_
  refine mj_putL dX11_draw_13 fl_X11_386_10 hk_a0 (Or.inl rfl) rfl ?_
  obtain ⟨S1, eS1⟩ : ∃ z, z = m_sl S a0 38 (((m_gl S a0 38) * (6364136223846793005 : Int64)) + (1442695040888963407 : Int64)) := ⟨_, rfl⟩
  rw [← eS1]
  replace h := h S1 eS1
  have hk_a0 : m_kd S1 a0 = 10 := by rw [eS1]; exact hk_a0
  refine mj_aload_n dX11_draw_16 rfl rfl ?_
  refine mj_getL dX11_draw_17 fl_X11_386_10 hk_a0 rfl ?_
  refine mj_bipush (v := 33) dX11_draw_20 (by decide) ?_
  refine mj_lushr dX11_draw_22 ?_
  refine mj_iload_n dX11_draw_23 rfl rfl ?_
  refine mj_i2l dX11_draw_24 ?_
  refine mj_lrem dX11_draw_25 h.1 ?_
  replace h := h.2
  refine mj_l2i dX11_draw_26 ?_
  exact mj_reti dX11_draw_27 rfl ⟨Nat.le_of_ble_eq_true rfl, Nat.le_of_ble_eq_true rfl⟩ h
abbrev V_X11_drawYear_0 (l : Launch) (G : mj_G) (a0 : Nat) (S : mj_S) (Q : mj_S → Prop) : Prop := mj_V l G (mj_room 6 0 0) RX11 cX11_drawYear 3 none false 0 [some (.ref a0), none, none] [] S 0 0 (mj_std G none (mj_room 6 0 0) (mj_qv Q))
abbrev V_X11_drawYear_72 (l : Launch) (G : mj_G) (a0 : Nat) (S : mj_S) (Q : mj_S → Prop) : Prop := mj_V l G (mj_room 6 0 0) RX11 cX11_drawYear 3 none false 72 [some (.ref a0), none, none] [] S 0 0 (mj_std G none (mj_room 6 0 0) (mj_qv Q))
theorem e_X11_drawYear {l : Launch} {G : mj_G} {a0 : Nat} {S : mj_S} {Q : mj_S → Prop} (h : V_X11_drawYear_0 l G a0 S Q) : M_X11_drawYear l G a0 S Q := mj_enter (r := 2) (ini := false) (by decide +kernel) (fun h => by cases h) (fun _ => Nat.le_of_ble_eq_true rfl) rfl h
set_option maxRecDepth 20000 in
set_option maxHeartbeats 1000000 in
theorem b_X11_drawYear_0 {l : Launch} {G : mj_G} {a0 : Nat} {S : mj_S} {Q : mj_S → Prop} (hk_a0 : m_kd S a0 = 10) (h : M_X11_draw l G a0 (100 : Int32) S (fun S1 r2 => (((m_gi S1 a0 31) ≤ r2) → (((m_gi S1 a0 26) ≤ 0) → V_X11_drawYear_72 l G a0 S1 Q) ∧ ((¬ ((m_gi S1 a0 26) ≤ 0)) → M_X11_draw l G a0 (m_gi S1 a0 26) S1 (fun S3 r4 => ∃ b5, m_gp S3 a0 28 = some b5 ∧ (vp_in (10 : Int32) (m_ln S3 b5) ∧ (M_X11_isFallen l G a0 r4 S3 (fun S6 r7 => ((r7 = 0) → vp_in (10 : Int32) (m_ln S6 b5) ∧ (∀ S8 : mj_S, S8 = m_si S6 b5 ((10 : Int32)).toNatClampNeg ((m_gi S3 b5 ((10 : Int32)).toNatClampNeg) ^^^ ((1 : Int32) <<< (r4 &&& 31))) → V_X11_drawYear_72 l G a0 S8 Q)) ∧ ((¬ (r7 = 0)) → vp_in (10 : Int32) (m_ln S6 b5) ∧ (∀ S9 : mj_S, S9 = m_si S6 b5 ((10 : Int32)).toNatClampNeg ((m_gi S3 b5 ((10 : Int32)).toNatClampNeg) ^^^ (0 : Int32)) → V_X11_drawYear_72 l G a0 S9 Q)))))))) ∧ ((¬ ((m_gi S1 a0 31) ≤ r2)) → ∃ b10, m_gp S1 a0 28 = some b10 ∧ (vp_in (10 : Int32) (m_ln S1 b10) ∧ (∀ S11 : mj_S, S11 = m_si S1 b10 ((10 : Int32)).toNatClampNeg (((1 : Int32) <<< ((m_gi S1 a0 26) &&& 31)) - (1 : Int32)) → V_X11_drawYear_72 l G a0 S11 Q))))) : V_X11_drawYear_0 l G a0 S Q := by
  refine mj_aload_n dX11_drawYear_0 rfl rfl ?_
  refine mj_bipush (v := 100) dX11_drawYear_1 (by decide) ?_
  refine mj_callVi (as := [.int (100 : Int32)]) (st := []) dX11_drawYear_3 cal_X11_draw lk_X11_394 im_X11_draw se_X11_draw (ci := 10) rfl (by decide) hk_a0 h rfl (Nat.le_of_ble_eq_true rfl) (by decide) ⟨Nat.le_of_ble_eq_true rfl, Nat.le_of_ble_eq_true rfl⟩ (fun S1 r2 h hn_r2 hp => ?_)
  have hk_a0 : m_kd S1 a0 = 10 := m_kd_pre hp hk_a0 (by decide)
  refine mj_aload_n dX11_drawYear_6 rfl rfl ?_
  refine mj_getI dX11_drawYear_7 fl_X11_383_10 hk_a0 rfl ?_
  refine mj_icmp_ge (tgt := 31) dX11_drawYear_10 (by decide) ⟨fun hc => ?_, fun hc => ?_⟩
  · replace h := h.1 hc
    refine mj_aload_n dX11_drawYear_31 rfl rfl ?_
    refine mj_getI dX11_drawYear_32 fl_X11_261_10 hk_a0 rfl ?_
    refine mj_if_le (tgt := 72) dX11_drawYear_35 (by decide) ⟨fun hc => ?_, fun hc => ?_⟩
    · replace h := h.1 hc
      exact h
    · replace h := h.2 hc
      refine mj_aload_n dX11_drawYear_38 rfl rfl ?_
      refine mj_aload_n dX11_drawYear_39 rfl rfl ?_
      refine mj_getI dX11_drawYear_40 fl_X11_261_10 hk_a0 rfl ?_
      refine mj_callVi (as := [.int (m_gi S1 a0 26)]) (st := []) dX11_drawYear_43 cal_X11_draw lk_X11_394 im_X11_draw se_X11_draw (ci := 10) rfl (by decide) hk_a0 h rfl (Nat.le_of_ble_eq_true rfl) (by decide) ⟨Nat.le_of_ble_eq_true rfl, Nat.le_of_ble_eq_true rfl⟩ (fun S3 r4 h hn_r4 hp => ?_)
      have hk_a0 : m_kd S3 a0 = 10 := m_kd_pre hp hk_a0 (by decide)
      refine mj_istore_n dX11_drawYear_46 rfl (by decide) rfl rfl ?_
      refine mj_aload_n dX11_drawYear_47 rfl rfl ?_
      obtain ⟨b5, eb5, h⟩ := h
      refine mj_getP dX11_drawYear_48 fl_X11_58_10 hk_a0 rfl ⟨b5, eb5, fun hk_b5 => ?_⟩
      refine mj_bipush (v := 10) dX11_drawYear_51 (by decide) ?_
      refine mj_dup2 dX11_drawYear_53 rfl rfl ?_
      refine mj_iald dX11_drawYear_54 (Or.inl hk_b5) ⟨h.1, ?_⟩
      replace h := h.2
      refine mj_aload_n dX11_drawYear_55 rfl rfl ?_
      refine mj_iload_n dX11_drawYear_56 rfl rfl ?_
      refine mj_callVi (as := [.int r4]) (st := [.int (m_gi S3 b5 ((10 : Int32)).toNatClampNeg), .int (10 : Int32), .ref b5]) dX11_drawYear_57 cal_X11_isFallen lk_X11_298 im_X11_isFallen se_X11_isFallen (ci := 10) rfl (by decide) hk_a0 h rfl (Nat.le_of_ble_eq_true rfl) (by decide) ⟨Nat.le_of_ble_eq_true rfl, Nat.le_of_ble_eq_true rfl⟩ (fun S6 r7 h hn_r7 hp => ?_)
      have hk_a0 : m_kd S6 a0 = 10 := m_kd_pre hp hk_a0 (by decide)
      have hk_b5 : m_kd S6 b5 = 100 := m_kd_pre hp hk_b5 (by decide)
      refine mj_if_eq (tgt := 67) dX11_drawYear_60 (by decide) ⟨fun hc => ?_, fun hc => ?_⟩
      · replace h := h.1 hc
        refine mj_iconst (v := 1) dX11_drawYear_67 (by decide) ?_
        refine mj_iload_n dX11_drawYear_68 rfl rfl ?_
        refine mj_ishl dX11_drawYear_69 ?_
        refine mj_ixor dX11_drawYear_70 ?_
        refine mj_iast dX11_drawYear_71 hk_b5 ⟨h.1, ?_⟩
        replace h := h.2
        obtain ⟨S8, eS8⟩ : ∃ z, z = m_si S6 b5 ((10 : Int32)).toNatClampNeg ((m_gi S3 b5 ((10 : Int32)).toNatClampNeg) ^^^ ((1 : Int32) <<< (r4 &&& 31))) := ⟨_, rfl⟩
        rw [← eS8]
        replace h := h S8 eS8
        have hk_a0 : m_kd S8 a0 = 10 := by rw [eS8]; exact hk_a0
        have hk_b5 : m_kd S8 b5 = 100 := by rw [eS8]; exact hk_b5
        exact mj_lessm [true, false, false] rfl h
      · replace h := h.2 hc
        refine mj_iconst (v := 0) dX11_drawYear_63 (by decide) ?_
        refine mj_goto (tgt := 70) dX11_drawYear_64 (by decide) ?_
        refine mj_ixor dX11_drawYear_70 ?_
        refine mj_iast dX11_drawYear_71 hk_b5 ⟨h.1, ?_⟩
        replace h := h.2
        obtain ⟨S9, eS9⟩ : ∃ z, z = m_si S6 b5 ((10 : Int32)).toNatClampNeg ((m_gi S3 b5 ((10 : Int32)).toNatClampNeg) ^^^ (0 : Int32)) := ⟨_, rfl⟩
        rw [← eS9]
        replace h := h S9 eS9
        have hk_a0 : m_kd S9 a0 = 10 := by rw [eS9]; exact hk_a0
        have hk_b5 : m_kd S9 b5 = 100 := by rw [eS9]; exact hk_b5
        exact mj_lessm [true, false, false] rfl h
  · replace h := h.2 hc
    refine mj_aload_n dX11_drawYear_13 rfl rfl ?_
    obtain ⟨b10, eb10, h⟩ := h
    refine mj_getP dX11_drawYear_14 fl_X11_58_10 hk_a0 rfl ⟨b10, eb10, fun hk_b10 => ?_⟩
    refine mj_bipush (v := 10) dX11_drawYear_17 (by decide) ?_
    refine mj_iconst (v := 1) dX11_drawYear_19 (by decide) ?_
    refine mj_aload_n dX11_drawYear_20 rfl rfl ?_
    refine mj_getI dX11_drawYear_21 fl_X11_261_10 hk_a0 rfl ?_
    refine mj_ishl dX11_drawYear_24 ?_
    refine mj_iconst (v := 1) dX11_drawYear_25 (by decide) ?_
    refine mj_isub dX11_drawYear_26 ?_
    refine mj_iast dX11_drawYear_27 hk_b10 ⟨h.1, ?_⟩
    replace h := h.2
    obtain ⟨S11, eS11⟩ : ∃ z, z = m_si S1 b10 ((10 : Int32)).toNatClampNeg (((1 : Int32) <<< ((m_gi S1 a0 26) &&& 31)) - (1 : Int32)) := ⟨_, rfl⟩
    rw [← eS11]
    replace h := h S11 eS11
    have hk_a0 : m_kd S11 a0 = 10 := by rw [eS11]; exact hk_a0
    have hk_b10 : m_kd S11 b10 = 100 := by rw [eS11]; exact hk_b10
    refine mj_goto (tgt := 72) dX11_drawYear_28 (by decide) ?_
    exact h
set_option maxRecDepth 20000 in
set_option maxHeartbeats 1000000 in
theorem b_X11_drawYear_72 {l : Launch} {G : mj_G} {a0 : Nat} {S : mj_S} {Q : mj_S → Prop} (hk_a0 : m_kd S a0 = 10) (h : M_X11_draw l G a0 (m_gi S a0 27) S (fun S1 r2 => M_X11_draw l G a0 (m_gi S1 a0 25) S1 (fun S3 r4 => ∃ b5, m_gp S3 a0 28 = some b5 ∧ (vp_in ((11 : Int32) + r2) (m_ln S3 b5) ∧ (M_X11_stateOf l G a0 (m_gi S3 b5 (((11 : Int32) + r2)).toNatClampNeg) S3 (fun S6 r7 => M_X11_has l G r7 r4 S6 (fun S8 r9 => ((r9 = 0) → Q S8) ∧ ((¬ (r9 = 0)) → ∃ b10, m_gp S8 a0 28 = some b10 ∧ (vp_in ((11 : Int32) + r2) (m_ln S8 b10) ∧ (∀ S11 : mj_S, S11 = m_si S8 b10 (((11 : Int32) + r2)).toNatClampNeg r4 → Q S11)))))))))) : V_X11_drawYear_72 l G a0 S Q := by
  refine mj_aload_n dX11_drawYear_72 rfl rfl ?_
  refine mj_aload_n dX11_drawYear_73 rfl rfl ?_
  refine mj_getI dX11_drawYear_74 fl_X11_264_10 hk_a0 rfl ?_
  refine mj_callVi (as := [.int (m_gi S a0 27)]) (st := []) dX11_drawYear_77 cal_X11_draw lk_X11_394 im_X11_draw se_X11_draw (ci := 10) rfl (by decide) hk_a0 h rfl (Nat.le_of_ble_eq_true rfl) (by decide) ⟨Nat.le_of_ble_eq_true rfl, Nat.le_of_ble_eq_true rfl⟩ (fun S1 r2 h hn_r2 hp => ?_)
  have hk_a0 : m_kd S1 a0 = 10 := m_kd_pre hp hk_a0 (by decide)
  refine mj_istore_n dX11_drawYear_80 rfl (by decide) rfl rfl ?_
  refine mj_aload_n dX11_drawYear_81 rfl rfl ?_
  refine mj_aload_n dX11_drawYear_82 rfl rfl ?_
  refine mj_getI dX11_drawYear_83 fl_X11_267_10 hk_a0 rfl ?_
  refine mj_callVi (as := [.int (m_gi S1 a0 25)]) (st := []) dX11_drawYear_86 cal_X11_draw lk_X11_394 im_X11_draw se_X11_draw (ci := 10) rfl (by decide) hk_a0 h rfl (Nat.le_of_ble_eq_true rfl) (by decide) ⟨Nat.le_of_ble_eq_true rfl, Nat.le_of_ble_eq_true rfl⟩ (fun S3 r4 h hn_r4 hp => ?_)
  have hk_a0 : m_kd S3 a0 = 10 := m_kd_pre hp hk_a0 (by decide)
  refine mj_istore_n dX11_drawYear_89 rfl (by decide) rfl rfl ?_
  refine mj_aload_n dX11_drawYear_90 rfl rfl ?_
  refine mj_aload_n dX11_drawYear_91 rfl rfl ?_
  obtain ⟨b5, eb5, h⟩ := h
  refine mj_getP dX11_drawYear_92 fl_X11_58_10 hk_a0 rfl ⟨b5, eb5, fun hk_b5 => ?_⟩
  refine mj_bipush (v := 11) dX11_drawYear_95 (by decide) ?_
  refine mj_iload_n dX11_drawYear_97 rfl rfl ?_
  refine mj_iadd dX11_drawYear_98 ?_
  refine mj_iald dX11_drawYear_99 (Or.inl hk_b5) ⟨h.1, ?_⟩
  replace h := h.2
  refine mj_callVi (as := [.int (m_gi S3 b5 (((11 : Int32) + r2)).toNatClampNeg)]) (st := []) dX11_drawYear_100 cal_X11_stateOf lk_X11_328 im_X11_stateOf se_X11_stateOf (ci := 10) rfl (by decide) hk_a0 h rfl (Nat.le_of_ble_eq_true rfl) (by decide) ⟨Nat.le_of_ble_eq_true rfl, Nat.le_of_ble_eq_true rfl⟩ (fun S6 r7 h hn_r7 hp => ?_)
  have hk_a0 : m_kd S6 a0 = 10 := m_kd_pre hp hk_a0 (by decide)
  have hk_b5 : m_kd S6 b5 = 100 := m_kd_pre hp hk_b5 (by decide)
  refine mj_iload_n dX11_drawYear_103 rfl rfl ?_
  refine mj_callSi (as := [.int r7, .int r4]) (st := []) dX11_drawYear_104 cal_X11_has lk_X11_228 sm_X11_has h rfl (Nat.le_of_ble_eq_true rfl) (by decide) ⟨Nat.le_of_ble_eq_true rfl, Nat.le_of_ble_eq_true rfl⟩ (fun S8 r9 h hn_r9 hp => ?_)
  have hk_a0 : m_kd S8 a0 = 10 := m_kd_pre hp hk_a0 (by decide)
  have hk_b5 : m_kd S8 b5 = 100 := m_kd_pre hp hk_b5 (by decide)
  refine mj_if_eq (tgt := 120) dX11_drawYear_107 (by decide) ⟨fun hc => ?_, fun hc => ?_⟩
  · replace h := h.1 hc
    exact mj_retv dX11_drawYear_120 rfl ⟨Nat.le_of_ble_eq_true rfl, Nat.le_of_ble_eq_true rfl⟩ h
  · replace h := h.2 hc
    refine mj_aload_n dX11_drawYear_110 rfl rfl ?_
    obtain ⟨b10, eb10, h⟩ := h
    refine mj_getP dX11_drawYear_111 fl_X11_58_10 hk_a0 rfl ⟨b10, eb10, fun hk_b10 => ?_⟩
    refine mj_bipush (v := 11) dX11_drawYear_114 (by decide) ?_
    refine mj_iload_n dX11_drawYear_116 rfl rfl ?_
    refine mj_iadd dX11_drawYear_117 ?_
    refine mj_iload_n dX11_drawYear_118 rfl rfl ?_
    refine mj_iast dX11_drawYear_119 hk_b10 ⟨h.1, ?_⟩
    replace h := h.2
    obtain ⟨S11, eS11⟩ : ∃ z, z = m_si S8 b10 (((11 : Int32) + r2)).toNatClampNeg r4 := ⟨_, rfl⟩
    rw [← eS11]
    replace h := h S11 eS11
    have hk_a0 : m_kd S11 a0 = 10 := by rw [eS11]; exact hk_a0
    have hk_b5 : m_kd S11 b5 = 100 := by rw [eS11]; exact hk_b5
    have hk_b10 : m_kd S11 b10 = 100 := by rw [eS11]; exact hk_b10
    exact mj_retv dX11_drawYear_120 rfl ⟨Nat.le_of_ble_eq_true rfl, Nat.le_of_ble_eq_true rfl⟩ h
abbrev V_X11_centuries_0 (l : Launch) (G : mj_G) (a0 : Nat) (x1 : Int32) (y2 : Int64) (S : mj_S) (Q : mj_S → Int32 → Prop) : Prop := mj_V l G (mj_room 11 0 0) RX11 cX11_centuries 5 (some .int) false 0 [some (.ref a0), some (.int x1), some (.long y2), none, none] [] S 0 0 (mj_std G (some .int) (mj_room 11 0 0) (mj_qi Q))
abbrev V_X11_centuries_25 (l : Launch) (G : mj_G) (a0 : Nat) (x1 : Int32) (x4 : Int32) (S : mj_S) (Q : mj_S → Int32 → Prop) : Prop := mj_V l G (mj_room 11 0 0) RX11 cX11_centuries 5 (some .int) false 25 [some (.ref a0), some (.int x1), none, none, some (.int x4)] [] S 0 0 (mj_std G (some .int) (mj_room 11 0 0) (mj_qi Q))
theorem e_X11_centuries {l : Launch} {G : mj_G} {a0 : Nat} {x1 : Int32} {y2 : Int64} {S : mj_S} {Q : mj_S → Int32 → Prop} (h : V_X11_centuries_0 l G a0 x1 y2 S Q) : M_X11_centuries l G a0 x1 y2 S Q := mj_enter (r := 1) (ini := false) (by decide +kernel) (fun h => by cases h) (fun _ => Nat.le_of_ble_eq_true rfl) rfl h
set_option maxRecDepth 20000 in
set_option maxHeartbeats 1000000 in
theorem b_X11_centuries_0 {l : Launch} {G : mj_G} {a0 : Nat} {x1 : Int32} {y2 : Int64} {S : mj_S} {Q : mj_S → Int32 → Prop} (hk_a0 : m_kd S a0 = 10) (h : (((m_gi S a0 25) = 0) → Q S (-1 : Int32)) ∧ ((¬ ((m_gi S a0 25) = 0)) → M_X11_areYears l G a0 x1 S (fun S1 r2 => ((¬ r2 = 0) → ∀ S3 : mj_S, S3 = m_sl S1 a0 38 y2 → V_X11_centuries_25 l G a0 x1 (0 : Int32) S3 Q) ∧ ((r2 = 0) → Q S1 (-1 : Int32))))) : V_X11_centuries_0 l G a0 x1 y2 S Q := by
  refine mj_aload_n dX11_centuries_0 rfl rfl ?_
  refine mj_getI dX11_centuries_1 fl_X11_267_10 hk_a0 rfl ?_
  refine mj_if_eq (tgt := 15) dX11_centuries_4 (by decide) ⟨fun hc => ?_, fun hc => ?_⟩
  · replace h := h.1 hc
    refine mj_iconst (v := (-1)) dX11_centuries_15 (by decide) ?_
    exact mj_reti dX11_centuries_16 rfl ⟨Nat.le_of_ble_eq_true rfl, Nat.le_of_ble_eq_true rfl⟩ h
  · replace h := h.2 hc
    refine mj_aload_n dX11_centuries_7 rfl rfl ?_
    refine mj_iload_n dX11_centuries_8 rfl rfl ?_
    refine mj_callVi (as := [.int x1]) (st := []) dX11_centuries_9 cal_X11_areYears lk_X11_377 im_X11_areYears se_X11_areYears (ci := 10) rfl (by decide) hk_a0 h rfl (Nat.le_of_ble_eq_true rfl) (by decide) ⟨Nat.le_of_ble_eq_true rfl, Nat.le_of_ble_eq_true rfl⟩ (fun S1 r2 h hn_r2 hp => ?_)
    have hk_a0 : m_kd S1 a0 = 10 := m_kd_pre hp hk_a0 (by decide)
    refine mj_if_ne (tgt := 17) dX11_centuries_12 (by decide) ⟨fun hc => ?_, fun hc => ?_⟩
    · replace h := h.1 hc
      refine mj_aload_n dX11_centuries_17 rfl rfl ?_
      refine mj_lload_n dX11_centuries_18 rfl rfl ?_
      refine mj_putL dX11_centuries_19 fl_X11_386_10 hk_a0 (Or.inl rfl) rfl ?_
      obtain ⟨S3, eS3⟩ : ∃ z, z = m_sl S1 a0 38 y2 := ⟨_, rfl⟩
      rw [← eS3]
      replace h := h S3 eS3
      have hk_a0 : m_kd S3 a0 = 10 := by rw [eS3]; exact hk_a0
      refine mj_iconst (v := 0) dX11_centuries_22 (by decide) ?_
      refine mj_istore dX11_centuries_23 (by decide) rfl rfl ?_
      exact mj_lessm [true, true, false, false, true] rfl h
    · replace h := h.2 hc
      refine mj_iconst (v := (-1)) dX11_centuries_15 (by decide) ?_
      exact mj_reti dX11_centuries_16 rfl ⟨Nat.le_of_ble_eq_true rfl, Nat.le_of_ble_eq_true rfl⟩ h
set_option maxRecDepth 20000 in
set_option maxHeartbeats 1000000 in
theorem b_X11_centuries_25 {l : Launch} {G : mj_G} {a0 : Nat} {x1 : Int32} {x4 : Int32} {S : mj_S} {Q : mj_S → Int32 → Prop} (hk_a0 : m_kd S a0 = 10) (h : ((x1 ≤ x4) → ∃ b1, m_gp S a0 28 = some b1 ∧ (vp_in (17 : Int32) (m_ln S b1) ∧ (Q S (m_gi S b1 ((17 : Int32)).toNatClampNeg)))) ∧ ((¬ (x1 ≤ x4)) → M_X11_keep l G a0 S (fun S2 => M_X11_drawYear l G a0 S2 (fun S3 => M_X11_passYear l G a0 S3 (fun S4 => ∀ v5 : Int32, v5 = x4 + (1 : Int32) → V_X11_centuries_25 l G a0 x1 v5 S4 Q))))) : V_X11_centuries_25 l G a0 x1 x4 S Q := by
  refine mj_iload dX11_centuries_25 rfl ?_
  refine mj_iload_n dX11_centuries_27 rfl rfl ?_
  refine mj_icmp_ge (tgt := 49) dX11_centuries_28 (by decide) ⟨fun hc => ?_, fun hc => ?_⟩
  · replace h := h.1 hc
    refine mj_aload_n dX11_centuries_49 rfl rfl ?_
    obtain ⟨b1, eb1, h⟩ := h
    refine mj_getP dX11_centuries_50 fl_X11_58_10 hk_a0 rfl ⟨b1, eb1, fun hk_b1 => ?_⟩
    refine mj_bipush (v := 17) dX11_centuries_53 (by decide) ?_
    refine mj_iald dX11_centuries_55 (Or.inl hk_b1) ⟨h.1, ?_⟩
    replace h := h.2
    exact mj_reti dX11_centuries_56 rfl ⟨Nat.le_of_ble_eq_true rfl, Nat.le_of_ble_eq_true rfl⟩ h
  · replace h := h.2 hc
    refine mj_aload_n dX11_centuries_31 rfl rfl ?_
    refine mj_callVv (as := []) (st := []) dX11_centuries_32 cal_X11_keep lk_X11_359 im_X11_keep se_X11_keep (ci := 10) rfl (by decide) hk_a0 h rfl (Nat.le_of_ble_eq_true rfl) (by decide) ⟨Nat.le_of_ble_eq_true rfl, Nat.le_of_ble_eq_true rfl⟩ (fun S2 h hp => ?_)
    have hk_a0 : m_kd S2 a0 = 10 := m_kd_pre hp hk_a0 (by decide)
    refine mj_aload_n dX11_centuries_35 rfl rfl ?_
    refine mj_callVv (as := []) (st := []) dX11_centuries_36 cal_X11_drawYear lk_X11_397 im_X11_drawYear se_X11_drawYear (ci := 10) rfl (by decide) hk_a0 h rfl (Nat.le_of_ble_eq_true rfl) (by decide) ⟨Nat.le_of_ble_eq_true rfl, Nat.le_of_ble_eq_true rfl⟩ (fun S3 h hp => ?_)
    have hk_a0 : m_kd S3 a0 = 10 := m_kd_pre hp hk_a0 (by decide)
    refine mj_aload_n dX11_centuries_39 rfl rfl ?_
    refine mj_callVv (as := []) (st := []) dX11_centuries_40 cal_X11_passYear lk_X11_380 im_X11_passYear se_X11_passYear (ci := 10) rfl (by decide) hk_a0 h rfl (Nat.le_of_ble_eq_true rfl) (by decide) ⟨Nat.le_of_ble_eq_true rfl, Nat.le_of_ble_eq_true rfl⟩ (fun S4 h hp => ?_)
    have hk_a0 : m_kd S4 a0 = 10 := m_kd_pre hp hk_a0 (by decide)
    obtain ⟨v5, ev5⟩ : ∃ z : Int32, z = x4 + (1 : Int32) := ⟨_, rfl⟩
    refine mj_iinc (v := v5) dX11_centuries_43 rfl (by rw [ev5]; rfl) (by decide) rfl rfl ?_
    replace h := h v5 ev5
    refine mj_goto (tgt := 25) dX11_centuries_46 (by decide) ?_
    exact h
abbrev V_X11_status_0 (l : Launch) (G : mj_G) (a0 : Nat) (x1 : Int32) (S : mj_S) (Q : mj_S → Int32 → Prop) : Prop := mj_V l G (mj_room 2 0 0) RX11 cX11_status 2 (some .int) false 0 [some (.ref a0), some (.int x1)] [] S 0 0 (mj_std G (some .int) (mj_room 2 0 0) (mj_qi Q))
theorem e_X11_status {l : Launch} {G : mj_G} {a0 : Nat} {x1 : Int32} {S : mj_S} {Q : mj_S → Int32 → Prop} (h : V_X11_status_0 l G a0 x1 S Q) : M_X11_status l G a0 x1 S Q := mj_enter (r := 0) (ini := false) (by decide +kernel) (fun h => by cases h) (fun _ => Nat.le_of_ble_eq_true rfl) rfl h
set_option maxRecDepth 20000 in
set_option maxHeartbeats 1000000 in
theorem b_X11_status_0 {l : Launch} {G : mj_G} {a0 : Nat} {x1 : Int32} {S : mj_S} {Q : mj_S → Int32 → Prop} (hk_a0 : m_kd S a0 = 10) (h : M_X11_in l G x1 (0 : Int32) (4 : Int32) S (fun S1 r2 => ((r2 = 0) → Q S1 (-1 : Int32)) ∧ ((¬ (r2 = 0)) → ∃ b3, m_gp S1 a0 29 = some b3 ∧ (vp_in x1 (m_ln S1 b3) ∧ (Q S1 (m_gi S1 b3 (x1).toNatClampNeg)))))) : V_X11_status_0 l G a0 x1 S Q := by
  refine mj_iload_n dX11_status_0 rfl rfl ?_
  refine mj_iconst (v := 0) dX11_status_1 (by decide) ?_
  refine mj_iconst (v := 4) dX11_status_2 (by decide) ?_
  refine mj_callSi (as := [.int x1, .int (0 : Int32), .int (4 : Int32)]) (st := []) dX11_status_3 cal_X11_in lk_X11_217 sm_X11_in h rfl (Nat.le_of_ble_eq_true rfl) (by decide) ⟨Nat.le_of_ble_eq_true rfl, Nat.le_of_ble_eq_true rfl⟩ (fun S1 r2 h hn_r2 hp => ?_)
  have hk_a0 : m_kd S1 a0 = 10 := m_kd_pre hp hk_a0 (by decide)
  refine mj_if_eq (tgt := 18) dX11_status_6 (by decide) ⟨fun hc => ?_, fun hc => ?_⟩
  · replace h := h.1 hc
    refine mj_iconst (v := (-1)) dX11_status_18 (by decide) ?_
    exact mj_reti dX11_status_19 rfl ⟨Nat.le_of_ble_eq_true rfl, Nat.le_of_ble_eq_true rfl⟩ h
  · replace h := h.2 hc
    refine mj_aload_n dX11_status_9 rfl rfl ?_
    obtain ⟨b3, eb3, h⟩ := h
    refine mj_getP dX11_status_10 fl_X11_61_10 hk_a0 rfl ⟨b3, eb3, fun hk_b3 => ?_⟩
    refine mj_iload_n dX11_status_13 rfl rfl ?_
    refine mj_iald dX11_status_14 (Or.inl hk_b3) ⟨h.1, ?_⟩
    replace h := h.2
    refine mj_goto (tgt := 19) dX11_status_15 (by decide) ?_
    exact mj_reti dX11_status_19 rfl ⟨Nat.le_of_ble_eq_true rfl, Nat.le_of_ble_eq_true rfl⟩ h
abbrev V_X11_undo_0 (l : Launch) (G : mj_G) (a0 : Nat) (S : mj_S) (Q : mj_S → Int32 → Prop) : Prop := mj_V l G (mj_room 1 0 0) RX11 cX11_undo 2 (some .int) false 0 [some (.ref a0), none] [] S 0 0 (mj_std G (some .int) (mj_room 1 0 0) (mj_qi Q))
abbrev V_X11_undo_21 (l : Launch) (G : mj_G) (a0 : Nat) (x1 : Int32) (S : mj_S) (Q : mj_S → Int32 → Prop) : Prop := mj_V l G (mj_room 1 0 0) RX11 cX11_undo 2 (some .int) false 21 [some (.ref a0), some (.int x1)] [] S 0 0 (mj_std G (some .int) (mj_room 1 0 0) (mj_qi Q))
theorem e_X11_undo {l : Launch} {G : mj_G} {a0 : Nat} {S : mj_S} {Q : mj_S → Int32 → Prop} (h : V_X11_undo_0 l G a0 S Q) : M_X11_undo l G a0 S Q := mj_enter (r := 1) (ini := false) (by decide +kernel) (fun h => by cases h) (fun _ => Nat.le_of_ble_eq_true rfl) rfl h
set_option maxRecDepth 20000 in
set_option maxHeartbeats 1000000 in
theorem b_X11_undo_0 {l : Launch} {G : mj_G} {a0 : Nat} {S : mj_S} {Q : mj_S → Int32 → Prop} (hk_a0 : m_kd S a0 = 10) (h : ((¬ (m_gi S a0 37) = 0) → ∀ S1 : mj_S, S1 = m_si S a0 37 ((m_gi S a0 37) - (1 : Int32)) → V_X11_undo_21 l G a0 (0 : Int32) S1 Q) ∧ (((m_gi S a0 37) = 0) → Q S (-1 : Int32))) : V_X11_undo_0 l G a0 S Q := by
  refine mj_aload_n dX11_undo_0 rfl rfl ?_
  refine mj_getI dX11_undo_1 fl_X11_282_10 hk_a0 rfl ?_
  refine mj_if_ne (tgt := 9) dX11_undo_4 (by decide) ⟨fun hc => ?_, fun hc => ?_⟩
  · replace h := h.1 hc
    refine mj_aload_n dX11_undo_9 rfl rfl ?_
    refine mj_dup dX11_undo_10 rfl ?_
    refine mj_getI dX11_undo_11 fl_X11_282_10 hk_a0 rfl ?_
    refine mj_iconst (v := 1) dX11_undo_14 (by decide) ?_
    refine mj_isub dX11_undo_15 ?_
    refine mj_putI dX11_undo_16 fl_X11_282_10 hk_a0 (Or.inl rfl) rfl rfl rfl ?_
    obtain ⟨S1, eS1⟩ : ∃ z, z = m_si S a0 37 ((m_gi S a0 37) - (1 : Int32)) := ⟨_, rfl⟩
    rw [← eS1]
    replace h := h S1 eS1
    have hk_a0 : m_kd S1 a0 = 10 := by rw [eS1]; exact hk_a0
    refine mj_iconst (v := 0) dX11_undo_19 (by decide) ?_
    refine mj_istore_n dX11_undo_20 rfl (by decide) rfl rfl ?_
    exact h
  · replace h := h.2 hc
    refine mj_iconst (v := (-1)) dX11_undo_7 (by decide) ?_
    exact mj_reti dX11_undo_8 rfl ⟨Nat.le_of_ble_eq_true rfl, Nat.le_of_ble_eq_true rfl⟩ h
set_option maxRecDepth 20000 in
set_option maxHeartbeats 1000000 in
theorem b_X11_undo_21 {l : Launch} {G : mj_G} {a0 : Nat} {x1 : Int32} {S : mj_S} {Q : mj_S → Int32 → Prop} (hk_a0 : m_kd S a0 = 10) (h : (((199 : Int32) ≤ x1) → Q S (m_gi S a0 37)) ∧ ((¬ ((199 : Int32) ≤ x1)) → ∃ b1, m_gp S a0 28 = some b1 ∧ (∃ b2, m_gp S a0 36 = some b2 ∧ (vp_in (((199 : Int32) * (m_gi S a0 37)) + x1) (m_ln S b2) ∧ (vp_in x1 (m_ln S b1) ∧ (∀ S3 : mj_S, S3 = m_si S b1 (x1).toNatClampNeg (m_gi S b2 ((((199 : Int32) * (m_gi S a0 37)) + x1)).toNatClampNeg) → ∀ v4 : Int32, v4 = x1 + (1 : Int32) → V_X11_undo_21 l G a0 v4 S3 Q)))))) : V_X11_undo_21 l G a0 x1 S Q := by
  refine mj_iload_n dX11_undo_21 rfl rfl ?_
  refine mj_sipush (v := 199) dX11_undo_22 (by decide) ?_
  refine mj_icmp_ge (tgt := 55) dX11_undo_25 (by decide) ⟨fun hc => ?_, fun hc => ?_⟩
  · replace h := h.1 hc
    refine mj_aload_n dX11_undo_55 rfl rfl ?_
    refine mj_getI dX11_undo_56 fl_X11_282_10 hk_a0 rfl ?_
    exact mj_reti dX11_undo_59 rfl ⟨Nat.le_of_ble_eq_true rfl, Nat.le_of_ble_eq_true rfl⟩ h
  · replace h := h.2 hc
    refine mj_aload_n dX11_undo_28 rfl rfl ?_
    obtain ⟨b1, eb1, h⟩ := h
    refine mj_getP dX11_undo_29 fl_X11_58_10 hk_a0 rfl ⟨b1, eb1, fun hk_b1 => ?_⟩
    refine mj_iload_n dX11_undo_32 rfl rfl ?_
    refine mj_aload_n dX11_undo_33 rfl rfl ?_
    obtain ⟨b2, eb2, h⟩ := h
    refine mj_getP dX11_undo_34 fl_X11_80_10 hk_a0 rfl ⟨b2, eb2, fun hk_b2 => ?_⟩
    refine mj_sipush (v := 199) dX11_undo_37 (by decide) ?_
    refine mj_aload_n dX11_undo_40 rfl rfl ?_
    refine mj_getI dX11_undo_41 fl_X11_282_10 hk_a0 rfl ?_
    refine mj_imul dX11_undo_44 ?_
    refine mj_iload_n dX11_undo_45 rfl rfl ?_
    refine mj_iadd dX11_undo_46 ?_
    refine mj_iald dX11_undo_47 (Or.inl hk_b2) ⟨h.1, ?_⟩
    replace h := h.2
    refine mj_iast dX11_undo_48 hk_b1 ⟨h.1, ?_⟩
    replace h := h.2
    obtain ⟨S3, eS3⟩ : ∃ z, z = m_si S b1 (x1).toNatClampNeg (m_gi S b2 ((((199 : Int32) * (m_gi S a0 37)) + x1)).toNatClampNeg) := ⟨_, rfl⟩
    rw [← eS3]
    replace h := h S3 eS3
    have hk_a0 : m_kd S3 a0 = 10 := by rw [eS3]; exact hk_a0
    have hk_b1 : m_kd S3 b1 = 100 := by rw [eS3]; exact hk_b1
    have hk_b2 : m_kd S3 b2 = 100 := by rw [eS3]; exact hk_b2
    obtain ⟨v4, ev4⟩ : ∃ z : Int32, z = x1 + (1 : Int32) := ⟨_, rfl⟩
    refine mj_iinc (v := v4) dX11_undo_49 rfl (by rw [ev4]; rfl) (by decide) rfl rfl ?_
    replace h := h v4 ev4
    refine mj_goto (tgt := 21) dX11_undo_52 (by decide) ?_
    exact h
abbrev V_X11_log_0 (l : Launch) (G : mj_G) (a0 : Nat) (x1 : Int32) (x2 : Int32) (S : mj_S) (Q : mj_S → Int32 → Prop) : Prop := mj_V l G (mj_room 2 0 0) RX11 cX11_log 3 (some .int) false 0 [some (.ref a0), some (.int x1), some (.int x2)] [] S 0 0 (mj_std G (some .int) (mj_room 2 0 0) (mj_qi Q))
theorem e_X11_log {l : Launch} {G : mj_G} {a0 : Nat} {x1 : Int32} {x2 : Int32} {S : mj_S} {Q : mj_S → Int32 → Prop} (h : V_X11_log_0 l G a0 x1 x2 S Q) : M_X11_log l G a0 x1 x2 S Q := mj_enter (r := 0) (ini := false) (by decide +kernel) (fun h => by cases h) (fun _ => Nat.le_of_ble_eq_true rfl) rfl h
set_option maxRecDepth 20000 in
set_option maxHeartbeats 1000000 in
theorem b_X11_log_0 {l : Launch} {G : mj_G} {a0 : Nat} {x1 : Int32} {x2 : Int32} {S : mj_S} {Q : mj_S → Int32 → Prop} (hk_a0 : m_kd S a0 = 10) (h : ∃ b1, m_gp S a0 28 = some b1 ∧ (vp_in (18 : Int32) (m_ln S b1) ∧ (M_X11_in l G x1 (0 : Int32) ((m_gi S b1 ((18 : Int32)).toNatClampNeg) - (1 : Int32)) S (fun S2 r3 => ((r3 = 0) → Q S2 (-1 : Int32)) ∧ ((¬ (r3 = 0)) → M_X11_in l G x2 (0 : Int32) (2 : Int32) S2 (fun S4 r5 => ((r5 = 0) → Q S4 (-1 : Int32)) ∧ ((¬ (r5 = 0)) → ∃ b6, m_gp S4 a0 28 = some b6 ∧ (∃ b7, m_gp S4 a0 28 = some b7 ∧ (vp_in (18 : Int32) (m_ln S4 b7) ∧ (vp_in (((19 : Int32) + ((3 : Int32) * (((m_gi S4 b7 ((18 : Int32)).toNatClampNeg) - (1 : Int32)) - x1))) + x2) (m_ln S4 b6) ∧ (Q S4 (m_gi S4 b6 ((((19 : Int32) + ((3 : Int32) * (((m_gi S4 b7 ((18 : Int32)).toNatClampNeg) - (1 : Int32)) - x1))) + x2)).toNatClampNeg)))))))))))) : V_X11_log_0 l G a0 x1 x2 S Q := by
  refine mj_iload_n dX11_log_0 rfl rfl ?_
  refine mj_iconst (v := 0) dX11_log_1 (by decide) ?_
  refine mj_aload_n dX11_log_2 rfl rfl ?_
  obtain ⟨b1, eb1, h⟩ := h
  refine mj_getP dX11_log_3 fl_X11_58_10 hk_a0 rfl ⟨b1, eb1, fun hk_b1 => ?_⟩
  refine mj_bipush (v := 18) dX11_log_6 (by decide) ?_
  refine mj_iald dX11_log_8 (Or.inl hk_b1) ⟨h.1, ?_⟩
  replace h := h.2
  refine mj_iconst (v := 1) dX11_log_9 (by decide) ?_
  refine mj_isub dX11_log_10 ?_
  refine mj_callSi (as := [.int x1, .int (0 : Int32), .int ((m_gi S b1 ((18 : Int32)).toNatClampNeg) - (1 : Int32))]) (st := []) dX11_log_11 cal_X11_in lk_X11_217 sm_X11_in h rfl (Nat.le_of_ble_eq_true rfl) (by decide) ⟨Nat.le_of_ble_eq_true rfl, Nat.le_of_ble_eq_true rfl⟩ (fun S2 r3 h hn_r3 hp => ?_)
  have hk_a0 : m_kd S2 a0 = 10 := m_kd_pre hp hk_a0 (by decide)
  have hk_b1 : m_kd S2 b1 = 100 := m_kd_pre hp hk_b1 (by decide)
  refine mj_if_eq (tgt := 52) dX11_log_14 (by decide) ⟨fun hc => ?_, fun hc => ?_⟩
  · replace h := h.1 hc
    refine mj_iconst (v := (-1)) dX11_log_52 (by decide) ?_
    exact mj_reti dX11_log_53 rfl ⟨Nat.le_of_ble_eq_true rfl, Nat.le_of_ble_eq_true rfl⟩ h
  · replace h := h.2 hc
    refine mj_iload_n dX11_log_17 rfl rfl ?_
    refine mj_iconst (v := 0) dX11_log_18 (by decide) ?_
    refine mj_iconst (v := 2) dX11_log_19 (by decide) ?_
    refine mj_callSi (as := [.int x2, .int (0 : Int32), .int (2 : Int32)]) (st := []) dX11_log_20 cal_X11_in lk_X11_217 sm_X11_in h rfl (Nat.le_of_ble_eq_true rfl) (by decide) ⟨Nat.le_of_ble_eq_true rfl, Nat.le_of_ble_eq_true rfl⟩ (fun S4 r5 h hn_r5 hp => ?_)
    have hk_a0 : m_kd S4 a0 = 10 := m_kd_pre hp hk_a0 (by decide)
    have hk_b1 : m_kd S4 b1 = 100 := m_kd_pre hp hk_b1 (by decide)
    refine mj_if_eq (tgt := 52) dX11_log_23 (by decide) ⟨fun hc => ?_, fun hc => ?_⟩
    · replace h := h.1 hc
      refine mj_iconst (v := (-1)) dX11_log_52 (by decide) ?_
      exact mj_reti dX11_log_53 rfl ⟨Nat.le_of_ble_eq_true rfl, Nat.le_of_ble_eq_true rfl⟩ h
    · replace h := h.2 hc
      refine mj_aload_n dX11_log_26 rfl rfl ?_
      obtain ⟨b6, eb6, h⟩ := h
      refine mj_getP dX11_log_27 fl_X11_58_10 hk_a0 rfl ⟨b6, eb6, fun hk_b6 => ?_⟩
      refine mj_bipush (v := 19) dX11_log_30 (by decide) ?_
      refine mj_iconst (v := 3) dX11_log_32 (by decide) ?_
      refine mj_aload_n dX11_log_33 rfl rfl ?_
      obtain ⟨b7, eb7, h⟩ := h
      refine mj_getP dX11_log_34 fl_X11_58_10 hk_a0 rfl ⟨b7, eb7, fun hk_b7 => ?_⟩
      refine mj_bipush (v := 18) dX11_log_37 (by decide) ?_
      refine mj_iald dX11_log_39 (Or.inl hk_b7) ⟨h.1, ?_⟩
      replace h := h.2
      refine mj_iconst (v := 1) dX11_log_40 (by decide) ?_
      refine mj_isub dX11_log_41 ?_
      refine mj_iload_n dX11_log_42 rfl rfl ?_
      refine mj_isub dX11_log_43 ?_
      refine mj_imul dX11_log_44 ?_
      refine mj_iadd dX11_log_45 ?_
      refine mj_iload_n dX11_log_46 rfl rfl ?_
      refine mj_iadd dX11_log_47 ?_
      refine mj_iald dX11_log_48 (Or.inl hk_b6) ⟨h.1, ?_⟩
      replace h := h.2
      refine mj_goto (tgt := 53) dX11_log_49 (by decide) ?_
      exact mj_reti dX11_log_53 rfl ⟨Nat.le_of_ble_eq_true rfl, Nat.le_of_ble_eq_true rfl⟩ h
abbrev V_X11_isFewer_0 (l : Launch) (G : mj_G) (x0 : Int32) (x1 : Int32) (S : mj_S) (Q : mj_S → Int32 → Prop) : Prop := mj_V l G (mj_room 2 0 0) RX11 cX11_isFewer 2 (some .boolean) false 0 [some (.int x0), some (.int x1)] [] S 0 0 (mj_std G (some .boolean) (mj_room 2 0 0) (mj_qi Q))
theorem e_X11_isFewer {l : Launch} {G : mj_G} {x0 : Int32} {x1 : Int32} {S : mj_S} {Q : mj_S → Int32 → Prop} (h : V_X11_isFewer_0 l G x0 x1 S Q) : M_X11_isFewer l G x0 x1 S Q := mj_enter (r := 0) (ini := false) (by decide +kernel) (fun h => by cases h) (fun _ => Nat.le_of_ble_eq_true rfl) rfl h
set_option maxRecDepth 20000 in
set_option maxHeartbeats 1000000 in
theorem b_X11_isFewer_0 {l : Launch} {G : mj_G} {x0 : Int32} {x1 : Int32} {S : mj_S} {Q : mj_S → Int32 → Prop} (h : ((x1 = (-1 : Int32)) → Q S (1 : Int32)) ∧ ((¬ (x1 = (-1 : Int32))) → M_J6_bitCount_0f7a4 l G x0 S (fun S1 r2 => M_J6_bitCount_0f7a4 l G x1 S1 (fun S3 r4 => ((r4 ≤ r2) → Q S3 (0 : Int32)) ∧ ((¬ (r4 ≤ r2)) → Q S3 (1 : Int32)))))) : V_X11_isFewer_0 l G x0 x1 S Q := by
  refine mj_iload_n dX11_isFewer_0 rfl rfl ?_
  refine mj_iconst (v := (-1)) dX11_isFewer_1 (by decide) ?_
  refine mj_icmp_eq (tgt := 16) dX11_isFewer_2 (by decide) ⟨fun hc => ?_, fun hc => ?_⟩
  · replace h := h.1 hc
    refine mj_iconst (v := 1) dX11_isFewer_16 (by decide) ?_
    refine mj_goto (tgt := 21) dX11_isFewer_17 (by decide) ?_
    exact mj_retz dX11_isFewer_21 rfl (rfl) ⟨Nat.le_of_ble_eq_true rfl, Nat.le_of_ble_eq_true rfl⟩ h
  · replace h := h.2 hc
    refine mj_iload_n dX11_isFewer_5 rfl rfl ?_
    refine mj_callSi (as := [.int x0]) (st := []) dX11_isFewer_6 cal_J6_bitCount_0f7a4 lk_X11_400 sm_J6_bitCount_0f7a4 h rfl (Nat.le_of_ble_eq_true rfl) (by decide) ⟨Nat.le_of_ble_eq_true rfl, Nat.le_of_ble_eq_true rfl⟩ (fun S1 r2 h hn_r2 hp => ?_)
    refine mj_iload_n dX11_isFewer_9 rfl rfl ?_
    refine mj_callSi (as := [.int x1]) (st := [.int r2]) dX11_isFewer_10 cal_J6_bitCount_0f7a4 lk_X11_400 sm_J6_bitCount_0f7a4 h rfl (Nat.le_of_ble_eq_true rfl) (by decide) ⟨Nat.le_of_ble_eq_true rfl, Nat.le_of_ble_eq_true rfl⟩ (fun S3 r4 h hn_r4 hp => ?_)
    refine mj_icmp_ge (tgt := 20) dX11_isFewer_13 (by decide) ⟨fun hc => ?_, fun hc => ?_⟩
    · replace h := h.1 hc
      refine mj_iconst (v := 0) dX11_isFewer_20 (by decide) ?_
      exact mj_retz dX11_isFewer_21 rfl (rfl) ⟨Nat.le_of_ble_eq_true rfl, Nat.le_of_ble_eq_true rfl⟩ h
    · replace h := h.2 hc
      refine mj_iconst (v := 1) dX11_isFewer_16 (by decide) ?_
      refine mj_goto (tgt := 21) dX11_isFewer_17 (by decide) ?_
      exact mj_retz dX11_isFewer_21 rfl (rfl) ⟨Nat.le_of_ble_eq_true rfl, Nat.le_of_ble_eq_true rfl⟩ h
abbrev V_X11_join_0 (l : Launch) (G : mj_G) (a0 : Nat) (x1 : Int32) (x2 : Int32) (S : mj_S) (Q : mj_S → Int32 → Prop) : Prop := mj_V l G (mj_room 5 0 0) RX11 cX11_join 8 (some .int) false 0 [some (.ref a0), some (.int x1), some (.int x2), none, none, none, none, none] [] S 0 0 (mj_std G (some .int) (mj_room 5 0 0) (mj_qi Q))
abbrev V_X11_join_48 (l : Launch) (G : mj_G) (a0 : Nat) (x1 : Int32) (x2 : Int32) (x4 : Int32) (x5 : Int32) (x6 : Int32) (S : mj_S) (Q : mj_S → Int32 → Prop) : Prop := mj_V l G (mj_room 5 0 0) RX11 cX11_join 8 (some .int) false 48 [some (.ref a0), some (.int x1), some (.int x2), none, some (.int x4), some (.int x5), some (.int x6), none] [] S 0 0 (mj_std G (some .int) (mj_room 5 0 0) (mj_qi Q))
theorem e_X11_join {l : Launch} {G : mj_G} {a0 : Nat} {x1 : Int32} {x2 : Int32} {S : mj_S} {Q : mj_S → Int32 → Prop} (h : V_X11_join_0 l G a0 x1 x2 S Q) : M_X11_join l G a0 x1 x2 S Q := mj_enter (r := 5) (ini := false) (by decide +kernel) (fun h => by cases h) (fun _ => Nat.le_of_ble_eq_true rfl) rfl h
set_option maxRecDepth 20000 in
set_option maxHeartbeats 1000000 in
theorem b_X11_join_0 {l : Launch} {G : mj_G} {a0 : Nat} {x1 : Int32} {x2 : Int32} {S : mj_S} {Q : mj_S → Int32 → Prop} (hk_a0 : m_kd S a0 = 10) (h : ∀ v1 : Int32, v1 = (((1 : Int32) <<< ((m_gi S a0 25) &&& 31)) - (1 : Int32)) → (((m_gi S a0 25) = 0) → Q S (-1 : Int32)) ∧ ((¬ ((m_gi S a0 25) = 0)) → M_X11_in l G x1 (1 : Int32) v1 S (fun S2 r3 => ((r3 = 0) → Q S2 (-1 : Int32)) ∧ ((¬ (r3 = 0)) → M_X11_in l G x2 (0 : Int32) v1 S2 (fun S4 r5 => ((¬ r5 = 0) → M_X11_hanging l G a0 S4 (fun S6 r7 => V_X11_join_48 l G a0 x1 x2 (-1 : Int32) r7 (0 : Int32) S6 Q)) ∧ ((r5 = 0) → Q S4 (-1 : Int32))))))) : V_X11_join_0 l G a0 x1 x2 S Q := by
  refine mj_iconst (v := 1) dX11_join_0 (by decide) ?_
  refine mj_aload_n dX11_join_1 rfl rfl ?_
  refine mj_getI dX11_join_2 fl_X11_267_10 hk_a0 rfl ?_
  refine mj_ishl dX11_join_5 ?_
  refine mj_iconst (v := 1) dX11_join_6 (by decide) ?_
  refine mj_isub dX11_join_7 ?_
  refine mj_nmi (fun v1 ev1 => ?_)
  replace h := h v1 ev1
  refine mj_istore_n dX11_join_8 rfl (by decide) rfl rfl ?_
  refine mj_aload_n dX11_join_9 rfl rfl ?_
  refine mj_getI dX11_join_10 fl_X11_267_10 hk_a0 rfl ?_
  refine mj_if_eq (tgt := 34) dX11_join_13 (by decide) ⟨fun hc => ?_, fun hc => ?_⟩
  · replace h := h.1 hc
    refine mj_iconst (v := (-1)) dX11_join_34 (by decide) ?_
    exact mj_reti dX11_join_35 rfl ⟨Nat.le_of_ble_eq_true rfl, Nat.le_of_ble_eq_true rfl⟩ h
  · replace h := h.2 hc
    refine mj_iload_n dX11_join_16 rfl rfl ?_
    refine mj_iconst (v := 1) dX11_join_17 (by decide) ?_
    refine mj_iload_n dX11_join_18 rfl rfl ?_
    refine mj_callSi (as := [.int x1, .int (1 : Int32), .int v1]) (st := []) dX11_join_19 cal_X11_in lk_X11_217 sm_X11_in h rfl (Nat.le_of_ble_eq_true rfl) (by decide) ⟨Nat.le_of_ble_eq_true rfl, Nat.le_of_ble_eq_true rfl⟩ (fun S2 r3 h hn_r3 hp => ?_)
    have hk_a0 : m_kd S2 a0 = 10 := m_kd_pre hp hk_a0 (by decide)
    refine mj_if_eq (tgt := 34) dX11_join_22 (by decide) ⟨fun hc => ?_, fun hc => ?_⟩
    · replace h := h.1 hc
      refine mj_iconst (v := (-1)) dX11_join_34 (by decide) ?_
      exact mj_reti dX11_join_35 rfl ⟨Nat.le_of_ble_eq_true rfl, Nat.le_of_ble_eq_true rfl⟩ h
    · replace h := h.2 hc
      refine mj_iload_n dX11_join_25 rfl rfl ?_
      refine mj_iconst (v := 0) dX11_join_26 (by decide) ?_
      refine mj_iload_n dX11_join_27 rfl rfl ?_
      refine mj_callSi (as := [.int x2, .int (0 : Int32), .int v1]) (st := []) dX11_join_28 cal_X11_in lk_X11_217 sm_X11_in h rfl (Nat.le_of_ble_eq_true rfl) (by decide) ⟨Nat.le_of_ble_eq_true rfl, Nat.le_of_ble_eq_true rfl⟩ (fun S4 r5 h hn_r5 hp => ?_)
      have hk_a0 : m_kd S4 a0 = 10 := m_kd_pre hp hk_a0 (by decide)
      refine mj_if_ne (tgt := 36) dX11_join_31 (by decide) ⟨fun hc => ?_, fun hc => ?_⟩
      · replace h := h.1 hc
        refine mj_iconst (v := (-1)) dX11_join_36 (by decide) ?_
        refine mj_istore dX11_join_37 (by decide) rfl rfl ?_
        refine mj_aload_n dX11_join_39 rfl rfl ?_
        refine mj_callVi (as := []) (st := []) dX11_join_40 cal_X11_hanging lk_X11_314 im_X11_hanging se_X11_hanging (ci := 10) rfl (by decide) hk_a0 h rfl (Nat.le_of_ble_eq_true rfl) (by decide) ⟨Nat.le_of_ble_eq_true rfl, Nat.le_of_ble_eq_true rfl⟩ (fun S6 r7 h hn_r7 hp => ?_)
        have hk_a0 : m_kd S6 a0 = 10 := m_kd_pre hp hk_a0 (by decide)
        refine mj_istore dX11_join_43 (by decide) rfl rfl ?_
        refine mj_iconst (v := 0) dX11_join_45 (by decide) ?_
        refine mj_istore dX11_join_46 (by decide) rfl rfl ?_
        exact mj_lessm [true, true, true, false, true, true, true, false] rfl h
      · replace h := h.2 hc
        refine mj_iconst (v := (-1)) dX11_join_34 (by decide) ?_
        exact mj_reti dX11_join_35 rfl ⟨Nat.le_of_ble_eq_true rfl, Nat.le_of_ble_eq_true rfl⟩ h
set_option maxRecDepth 20000 in
set_option maxHeartbeats 1000000 in
theorem b_X11_join_48 {l : Launch} {G : mj_G} {a0 : Nat} {x1 : Int32} {x2 : Int32} {x4 : Int32} {x5 : Int32} {x6 : Int32} {S : mj_S} {Q : mj_S → Int32 → Prop} (hk_a0 : m_kd S a0 = 10) (h : ((((1 : Int32) <<< ((m_gi S a0 26) &&& 31)) ≤ x6) → Q S x4) ∧ ((¬ (((1 : Int32) <<< ((m_gi S a0 26) &&& 31)) ≤ x6)) → M_X11_fallen l G a0 S (fun S1 r2 => ((¬ (x6 &&& r2) = 0) → ∀ v3 : Int32, v3 = x6 + (1 : Int32) → V_X11_join_48 l G a0 x1 x2 x4 x5 v3 S1 Q) ∧ (((x6 &&& r2) = 0) → M_X11_isFewer l G x6 x4 S1 (fun S4 r5 => ((r5 = 0) → ∀ v6 : Int32, v6 = x6 + (1 : Int32) → V_X11_join_48 l G a0 x1 x2 x4 x5 v6 S4 Q) ∧ ((¬ (r5 = 0)) → M_X11_nameOf l G a0 x1 S4 (fun S7 r8 => M_X11_joinedBy l G a0 r8 (x5 ^^^ x6) S7 (fun S9 r10 => ((¬ (x1 &&& (r10 ^^^ (-1 : Int32))) = 0) → ∀ v11 : Int32, v11 = x6 + (1 : Int32) → V_X11_join_48 l G a0 x1 x2 x4 x5 v11 S9 Q) ∧ (((x1 &&& (r10 ^^^ (-1 : Int32))) = 0) → ((¬ (x2 &&& r10) = 0) → ∀ v12 : Int32, v12 = x6 + (1 : Int32) → V_X11_join_48 l G a0 x1 x2 x4 x5 v12 S9 Q) ∧ (((x2 &&& r10) = 0) → ∀ v13 : Int32, v13 = x6 + (1 : Int32) → V_X11_join_48 l G a0 x1 x2 x6 x5 v13 S9 Q)))))))))) : V_X11_join_48 l G a0 x1 x2 x4 x5 x6 S Q := by
  refine mj_iload dX11_join_48 rfl ?_
  refine mj_iconst (v := 1) dX11_join_50 (by decide) ?_
  refine mj_aload_n dX11_join_51 rfl rfl ?_
  refine mj_getI dX11_join_52 fl_X11_261_10 hk_a0 rfl ?_
  refine mj_ishl dX11_join_55 ?_
  refine mj_icmp_ge (tgt := 126) dX11_join_56 (by decide) ⟨fun hc => ?_, fun hc => ?_⟩
  · replace h := h.1 hc
    refine mj_iload dX11_join_126 rfl ?_
    exact mj_reti dX11_join_128 rfl ⟨Nat.le_of_ble_eq_true rfl, Nat.le_of_ble_eq_true rfl⟩ h
  · replace h := h.2 hc
    refine mj_iload dX11_join_59 rfl ?_
    refine mj_aload_n dX11_join_61 rfl rfl ?_
    refine mj_callVi (as := []) (st := [.int x6]) dX11_join_62 cal_X11_fallen lk_X11_403 im_X11_fallen se_X11_fallen (ci := 10) rfl (by decide) hk_a0 h rfl (Nat.le_of_ble_eq_true rfl) (by decide) ⟨Nat.le_of_ble_eq_true rfl, Nat.le_of_ble_eq_true rfl⟩ (fun S1 r2 h hn_r2 hp => ?_)
    have hk_a0 : m_kd S1 a0 = 10 := m_kd_pre hp hk_a0 (by decide)
    refine mj_iand dX11_join_65 ?_
    refine mj_if_ne (tgt := 120) dX11_join_66 (by decide) ⟨fun hc => ?_, fun hc => ?_⟩
    · replace h := h.1 hc
      obtain ⟨v3, ev3⟩ : ∃ z : Int32, z = x6 + (1 : Int32) := ⟨_, rfl⟩
      refine mj_iinc (v := v3) dX11_join_120 rfl (by rw [ev3]; rfl) (by decide) rfl rfl ?_
      replace h := h v3 ev3
      refine mj_goto (tgt := 48) dX11_join_123 (by decide) ?_
      exact h
    · replace h := h.2 hc
      refine mj_iload dX11_join_69 rfl ?_
      refine mj_iload dX11_join_71 rfl ?_
      refine mj_callSi (as := [.int x6, .int x4]) (st := []) dX11_join_73 cal_X11_isFewer lk_X11_406 sm_X11_isFewer h rfl (Nat.le_of_ble_eq_true rfl) (by decide) ⟨Nat.le_of_ble_eq_true rfl, Nat.le_of_ble_eq_true rfl⟩ (fun S4 r5 h hn_r5 hp => ?_)
      have hk_a0 : m_kd S4 a0 = 10 := m_kd_pre hp hk_a0 (by decide)
      refine mj_if_eq (tgt := 120) dX11_join_76 (by decide) ⟨fun hc => ?_, fun hc => ?_⟩
      · replace h := h.1 hc
        obtain ⟨v6, ev6⟩ : ∃ z : Int32, z = x6 + (1 : Int32) := ⟨_, rfl⟩
        refine mj_iinc (v := v6) dX11_join_120 rfl (by rw [ev6]; rfl) (by decide) rfl rfl ?_
        replace h := h v6 ev6
        refine mj_goto (tgt := 48) dX11_join_123 (by decide) ?_
        exact h
      · replace h := h.2 hc
        refine mj_aload_n dX11_join_79 rfl rfl ?_
        refine mj_aload_n dX11_join_80 rfl rfl ?_
        refine mj_iload_n dX11_join_81 rfl rfl ?_
        refine mj_callVi (as := [.int x1]) (st := [.ref a0]) dX11_join_82 cal_X11_nameOf lk_X11_325 im_X11_nameOf se_X11_nameOf (ci := 10) rfl (by decide) hk_a0 h rfl (Nat.le_of_ble_eq_true rfl) (by decide) ⟨Nat.le_of_ble_eq_true rfl, Nat.le_of_ble_eq_true rfl⟩ (fun S7 r8 h hn_r8 hp => ?_)
        have hk_a0 : m_kd S7 a0 = 10 := m_kd_pre hp hk_a0 (by decide)
        refine mj_iload dX11_join_85 rfl ?_
        refine mj_iload dX11_join_87 rfl ?_
        refine mj_ixor dX11_join_89 ?_
        refine mj_callVi (as := [.int r8, .int (x5 ^^^ x6)]) (st := []) dX11_join_90 cal_X11_joinedBy lk_X11_317 im_X11_joinedBy se_X11_joinedBy (ci := 10) rfl (by decide) hk_a0 h rfl (Nat.le_of_ble_eq_true rfl) (by decide) ⟨Nat.le_of_ble_eq_true rfl, Nat.le_of_ble_eq_true rfl⟩ (fun S9 r10 h hn_r10 hp => ?_)
        have hk_a0 : m_kd S9 a0 = 10 := m_kd_pre hp hk_a0 (by decide)
        refine mj_istore dX11_join_93 (by decide) rfl rfl ?_
        refine mj_iload_n dX11_join_95 rfl rfl ?_
        refine mj_iload dX11_join_96 rfl ?_
        refine mj_iconst (v := (-1)) dX11_join_98 (by decide) ?_
        refine mj_ixor dX11_join_99 ?_
        refine mj_iand dX11_join_100 ?_
        refine mj_if_ne (tgt := 116) dX11_join_101 (by decide) ⟨fun hc => ?_, fun hc => ?_⟩
        · replace h := h.1 hc
          refine mj_iload dX11_join_116 rfl ?_
          refine mj_istore dX11_join_118 (by decide) rfl rfl ?_
          obtain ⟨v11, ev11⟩ : ∃ z : Int32, z = x6 + (1 : Int32) := ⟨_, rfl⟩
          refine mj_iinc (v := v11) dX11_join_120 rfl (by rw [ev11]; rfl) (by decide) rfl rfl ?_
          replace h := h v11 ev11
          refine mj_goto (tgt := 48) dX11_join_123 (by decide) ?_
          exact mj_lessm [true, true, true, false, true, true, true, false] rfl h
        · replace h := h.2 hc
          refine mj_iload_n dX11_join_104 rfl rfl ?_
          refine mj_iload dX11_join_105 rfl ?_
          refine mj_iand dX11_join_107 ?_
          refine mj_if_ne (tgt := 116) dX11_join_108 (by decide) ⟨fun hc => ?_, fun hc => ?_⟩
          · replace h := h.1 hc
            refine mj_iload dX11_join_116 rfl ?_
            refine mj_istore dX11_join_118 (by decide) rfl rfl ?_
            obtain ⟨v12, ev12⟩ : ∃ z : Int32, z = x6 + (1 : Int32) := ⟨_, rfl⟩
            refine mj_iinc (v := v12) dX11_join_120 rfl (by rw [ev12]; rfl) (by decide) rfl rfl ?_
            replace h := h v12 ev12
            refine mj_goto (tgt := 48) dX11_join_123 (by decide) ?_
            exact mj_lessm [true, true, true, false, true, true, true, false] rfl h
          · replace h := h.2 hc
            refine mj_iload dX11_join_111 rfl ?_
            refine mj_goto (tgt := 118) dX11_join_113 (by decide) ?_
            refine mj_istore dX11_join_118 (by decide) rfl rfl ?_
            obtain ⟨v13, ev13⟩ : ∃ z : Int32, z = x6 + (1 : Int32) := ⟨_, rfl⟩
            refine mj_iinc (v := v13) dX11_join_120 rfl (by rw [ev13]; rfl) (by decide) rfl rfl ?_
            replace h := h v13 ev13
            refine mj_goto (tgt := 48) dX11_join_123 (by decide) ?_
            exact mj_lessm [true, true, true, false, true, true, true, false] rfl h
abbrev V_X11_drawnBack_0 (l : Launch) (G : mj_G) (a0 : Nat) (S : mj_S) (Q : mj_S → Int32 → Prop) : Prop := mj_V l G (mj_room 3 0 0) RX11 cX11_drawnBack 1 (some .int) false 0 [some (.ref a0)] [] S 0 0 (mj_std G (some .int) (mj_room 3 0 0) (mj_qi Q))
theorem e_X11_drawnBack {l : Launch} {G : mj_G} {a0 : Nat} {S : mj_S} {Q : mj_S → Int32 → Prop} (h : V_X11_drawnBack_0 l G a0 S Q) : M_X11_drawnBack l G a0 S Q := mj_enter (r := 0) (ini := false) (by decide +kernel) (fun h => by cases h) (fun _ => Nat.le_of_ble_eq_true rfl) rfl h
set_option maxRecDepth 20000 in
set_option maxHeartbeats 1000000 in
theorem b_X11_drawnBack_0 {l : Launch} {G : mj_G} {a0 : Nat} {S : mj_S} {Q : mj_S → Int32 → Prop} (hk_a0 : m_kd S a0 = 10) (h : ∃ b1, m_gp S a0 28 = some b1 ∧ (vp_in (10 : Int32) (m_ln S b1) ∧ (M_X11_fallen l G a0 S (fun S2 r3 => Q S2 ((m_gi S b1 ((10 : Int32)).toNatClampNeg) &&& (r3 ^^^ (-1 : Int32))))))) : V_X11_drawnBack_0 l G a0 S Q := by
  refine mj_aload_n dX11_drawnBack_0 rfl rfl ?_
  obtain ⟨b1, eb1, h⟩ := h
  refine mj_getP dX11_drawnBack_1 fl_X11_58_10 hk_a0 rfl ⟨b1, eb1, fun hk_b1 => ?_⟩
  refine mj_bipush (v := 10) dX11_drawnBack_4 (by decide) ?_
  refine mj_iald dX11_drawnBack_6 (Or.inl hk_b1) ⟨h.1, ?_⟩
  replace h := h.2
  refine mj_aload_n dX11_drawnBack_7 rfl rfl ?_
  refine mj_callVi (as := []) (st := [.int (m_gi S b1 ((10 : Int32)).toNatClampNeg)]) dX11_drawnBack_8 cal_X11_fallen lk_X11_403 im_X11_fallen se_X11_fallen (ci := 10) rfl (by decide) hk_a0 h rfl (Nat.le_of_ble_eq_true rfl) (by decide) ⟨Nat.le_of_ble_eq_true rfl, Nat.le_of_ble_eq_true rfl⟩ (fun S2 r3 h hn_r3 hp => ?_)
  have hk_a0 : m_kd S2 a0 = 10 := m_kd_pre hp hk_a0 (by decide)
  have hk_b1 : m_kd S2 b1 = 100 := m_kd_pre hp hk_b1 (by decide)
  refine mj_iconst (v := (-1)) dX11_drawnBack_11 (by decide) ?_
  refine mj_ixor dX11_drawnBack_12 ?_
  refine mj_iand dX11_drawnBack_13 ?_
  exact mj_reti dX11_drawnBack_14 rfl ⟨Nat.le_of_ble_eq_true rfl, Nat.le_of_ble_eq_true rfl⟩ h
abbrev V_X11_hide_0 (l : Launch) (G : mj_G) (a0 : Nat) (x1 : Int32) (x2 : Int32) (x3 : Int32) (S : mj_S) (Q : mj_S → Int32 → Prop) : Prop := mj_V l G (mj_room 8 0 0) RX11 cX11_hide 7 (some .int) false 0 [some (.ref a0), some (.int x1), some (.int x2), some (.int x3), none, none, none] [] S 0 0 (mj_std G (some .int) (mj_room 8 0 0) (mj_qi Q))
abbrev V_X11_hide_40 (l : Launch) (G : mj_G) (a0 : Nat) (x1 : Int32) (x2 : Int32) (x3 : Int32) (x4 : Int32) (x5 : Int32) (x6 : Int32) (S : mj_S) (Q : mj_S → Int32 → Prop) : Prop := mj_V l G (mj_room 8 0 0) RX11 cX11_hide 7 (some .int) false 40 [some (.ref a0), some (.int x1), some (.int x2), some (.int x3), some (.int x4), some (.int x5), some (.int x6)] [] S 0 0 (mj_std G (some .int) (mj_room 8 0 0) (mj_qi Q))
theorem e_X11_hide {l : Launch} {G : mj_G} {a0 : Nat} {x1 : Int32} {x2 : Int32} {x3 : Int32} {S : mj_S} {Q : mj_S → Int32 → Prop} (h : V_X11_hide_0 l G a0 x1 x2 x3 S Q) : M_X11_hide l G a0 x1 x2 x3 S Q := mj_enter (r := 3) (ini := false) (by decide +kernel) (fun h => by cases h) (fun _ => Nat.le_of_ble_eq_true rfl) rfl h
set_option maxRecDepth 20000 in
set_option maxHeartbeats 1000000 in
theorem b_X11_hide_0 {l : Launch} {G : mj_G} {a0 : Nat} {x1 : Int32} {x2 : Int32} {x3 : Int32} {S : mj_S} {Q : mj_S → Int32 → Prop} (hk_a0 : m_kd S a0 = 10) (h : M_X11_isSquare l G a0 x1 S (fun S1 r2 => ((r2 = 0) → Q S1 (-1 : Int32)) ∧ ((¬ (r2 = 0)) → M_X11_isSquare l G a0 x2 S1 (fun S3 r4 => ((r4 = 0) → Q S3 (-1 : Int32)) ∧ ((¬ (r4 = 0)) → M_X11_in l G x3 (1 : Int32) (99 : Int32) S3 (fun S5 r6 => ((¬ r6 = 0) → M_X11_hanging l G a0 S5 (fun S7 r8 => V_X11_hide_40 l G a0 x1 x2 x3 (-1 : Int32) r8 (0 : Int32) S7 Q)) ∧ ((r6 = 0) → Q S5 (-1 : Int32)))))))) : V_X11_hide_0 l G a0 x1 x2 x3 S Q := by
  refine mj_aload_n dX11_hide_0 rfl rfl ?_
  refine mj_iload_n dX11_hide_1 rfl rfl ?_
  refine mj_callVi (as := [.int x1]) (st := []) dX11_hide_2 cal_X11_isSquare lk_X11_350 im_X11_isSquare se_X11_isSquare (ci := 10) rfl (by decide) hk_a0 h rfl (Nat.le_of_ble_eq_true rfl) (by decide) ⟨Nat.le_of_ble_eq_true rfl, Nat.le_of_ble_eq_true rfl⟩ (fun S1 r2 h hn_r2 hp => ?_)
  have hk_a0 : m_kd S1 a0 = 10 := m_kd_pre hp hk_a0 (by decide)
  refine mj_if_eq (tgt := 26) dX11_hide_5 (by decide) ⟨fun hc => ?_, fun hc => ?_⟩
  · replace h := h.1 hc
    refine mj_iconst (v := (-1)) dX11_hide_26 (by decide) ?_
    exact mj_reti dX11_hide_27 rfl ⟨Nat.le_of_ble_eq_true rfl, Nat.le_of_ble_eq_true rfl⟩ h
  · replace h := h.2 hc
    refine mj_aload_n dX11_hide_8 rfl rfl ?_
    refine mj_iload_n dX11_hide_9 rfl rfl ?_
    refine mj_callVi (as := [.int x2]) (st := []) dX11_hide_10 cal_X11_isSquare lk_X11_350 im_X11_isSquare se_X11_isSquare (ci := 10) rfl (by decide) hk_a0 h rfl (Nat.le_of_ble_eq_true rfl) (by decide) ⟨Nat.le_of_ble_eq_true rfl, Nat.le_of_ble_eq_true rfl⟩ (fun S3 r4 h hn_r4 hp => ?_)
    have hk_a0 : m_kd S3 a0 = 10 := m_kd_pre hp hk_a0 (by decide)
    refine mj_if_eq (tgt := 26) dX11_hide_13 (by decide) ⟨fun hc => ?_, fun hc => ?_⟩
    · replace h := h.1 hc
      refine mj_iconst (v := (-1)) dX11_hide_26 (by decide) ?_
      exact mj_reti dX11_hide_27 rfl ⟨Nat.le_of_ble_eq_true rfl, Nat.le_of_ble_eq_true rfl⟩ h
    · replace h := h.2 hc
      refine mj_iload_n dX11_hide_16 rfl rfl ?_
      refine mj_iconst (v := 1) dX11_hide_17 (by decide) ?_
      refine mj_bipush (v := 99) dX11_hide_18 (by decide) ?_
      refine mj_callSi (as := [.int x3, .int (1 : Int32), .int (99 : Int32)]) (st := []) dX11_hide_20 cal_X11_in lk_X11_217 sm_X11_in h rfl (Nat.le_of_ble_eq_true rfl) (by decide) ⟨Nat.le_of_ble_eq_true rfl, Nat.le_of_ble_eq_true rfl⟩ (fun S5 r6 h hn_r6 hp => ?_)
      have hk_a0 : m_kd S5 a0 = 10 := m_kd_pre hp hk_a0 (by decide)
      refine mj_if_ne (tgt := 28) dX11_hide_23 (by decide) ⟨fun hc => ?_, fun hc => ?_⟩
      · replace h := h.1 hc
        refine mj_iconst (v := (-1)) dX11_hide_28 (by decide) ?_
        refine mj_istore dX11_hide_29 (by decide) rfl rfl ?_
        refine mj_aload_n dX11_hide_31 rfl rfl ?_
        refine mj_callVi (as := []) (st := []) dX11_hide_32 cal_X11_hanging lk_X11_314 im_X11_hanging se_X11_hanging (ci := 10) rfl (by decide) hk_a0 h rfl (Nat.le_of_ble_eq_true rfl) (by decide) ⟨Nat.le_of_ble_eq_true rfl, Nat.le_of_ble_eq_true rfl⟩ (fun S7 r8 h hn_r8 hp => ?_)
        have hk_a0 : m_kd S7 a0 = 10 := m_kd_pre hp hk_a0 (by decide)
        refine mj_istore dX11_hide_35 (by decide) rfl rfl ?_
        refine mj_iconst (v := 0) dX11_hide_37 (by decide) ?_
        refine mj_istore dX11_hide_38 (by decide) rfl rfl ?_
        exact h
      · replace h := h.2 hc
        refine mj_iconst (v := (-1)) dX11_hide_26 (by decide) ?_
        exact mj_reti dX11_hide_27 rfl ⟨Nat.le_of_ble_eq_true rfl, Nat.le_of_ble_eq_true rfl⟩ h
set_option maxRecDepth 20000 in
set_option maxHeartbeats 1000000 in
theorem b_X11_hide_40 {l : Launch} {G : mj_G} {a0 : Nat} {x1 : Int32} {x2 : Int32} {x3 : Int32} {x4 : Int32} {x5 : Int32} {x6 : Int32} {S : mj_S} {Q : mj_S → Int32 → Prop} (hk_a0 : m_kd S a0 = 10) (h : ((((1 : Int32) <<< ((m_gi S a0 26) &&& 31)) ≤ x6) → Q S x4) ∧ ((¬ (((1 : Int32) <<< ((m_gi S a0 26) &&& 31)) ≤ x6)) → M_X11_drawnBack l G a0 S (fun S1 r2 => ((¬ (x6 &&& (r2 ^^^ (-1 : Int32))) = 0) → ∀ v3 : Int32, v3 = x6 + (1 : Int32) → V_X11_hide_40 l G a0 x1 x2 x3 x4 x5 v3 S1 Q) ∧ (((x6 &&& (r2 ^^^ (-1 : Int32))) = 0) → M_X11_isFewer l G x6 x4 S1 (fun S4 r5 => ((r5 = 0) → ∀ v6 : Int32, v6 = x6 + (1 : Int32) → V_X11_hide_40 l G a0 x1 x2 x3 x4 x5 v6 S4 Q) ∧ ((¬ (r5 = 0)) → M_X11_layBright l G a0 x1 x3 (x5 ||| x6) S4 (fun S7 => ∃ b8, m_gp S7 a0 34 = some b8 ∧ (vp_in x2 (m_ln S7 b8) ∧ (((¬ (m_gi S7 b8 (x2).toNatClampNeg) = 0) → ∀ v9 : Int32, v9 = x6 + (1 : Int32) → V_X11_hide_40 l G a0 x1 x2 x3 x4 x5 v9 S7 Q) ∧ (((m_gi S7 b8 (x2).toNatClampNeg) = 0) → ∀ v10 : Int32, v10 = x6 + (1 : Int32) → V_X11_hide_40 l G a0 x1 x2 x3 x6 x5 v10 S7 Q)))))))))) : V_X11_hide_40 l G a0 x1 x2 x3 x4 x5 x6 S Q := by
  refine mj_iload dX11_hide_40 rfl ?_
  refine mj_iconst (v := 1) dX11_hide_42 (by decide) ?_
  refine mj_aload_n dX11_hide_43 rfl rfl ?_
  refine mj_getI dX11_hide_44 fl_X11_261_10 hk_a0 rfl ?_
  refine mj_ishl dX11_hide_47 ?_
  refine mj_icmp_ge (tgt := 108) dX11_hide_48 (by decide) ⟨fun hc => ?_, fun hc => ?_⟩
  · replace h := h.1 hc
    refine mj_iload dX11_hide_108 rfl ?_
    exact mj_reti dX11_hide_110 rfl ⟨Nat.le_of_ble_eq_true rfl, Nat.le_of_ble_eq_true rfl⟩ h
  · replace h := h.2 hc
    refine mj_iload dX11_hide_51 rfl ?_
    refine mj_aload_n dX11_hide_53 rfl rfl ?_
    refine mj_callVi (as := []) (st := [.int x6]) dX11_hide_54 cal_X11_drawnBack lk_X11_409 im_X11_drawnBack se_X11_drawnBack (ci := 10) rfl (by decide) hk_a0 h rfl (Nat.le_of_ble_eq_true rfl) (by decide) ⟨Nat.le_of_ble_eq_true rfl, Nat.le_of_ble_eq_true rfl⟩ (fun S1 r2 h hn_r2 hp => ?_)
    have hk_a0 : m_kd S1 a0 = 10 := m_kd_pre hp hk_a0 (by decide)
    refine mj_iconst (v := (-1)) dX11_hide_57 (by decide) ?_
    refine mj_ixor dX11_hide_58 ?_
    refine mj_iand dX11_hide_59 ?_
    refine mj_if_ne (tgt := 102) dX11_hide_60 (by decide) ⟨fun hc => ?_, fun hc => ?_⟩
    · replace h := h.1 hc
      obtain ⟨v3, ev3⟩ : ∃ z : Int32, z = x6 + (1 : Int32) := ⟨_, rfl⟩
      refine mj_iinc (v := v3) dX11_hide_102 rfl (by rw [ev3]; rfl) (by decide) rfl rfl ?_
      replace h := h v3 ev3
      refine mj_goto (tgt := 40) dX11_hide_105 (by decide) ?_
      exact h
    · replace h := h.2 hc
      refine mj_iload dX11_hide_63 rfl ?_
      refine mj_iload dX11_hide_65 rfl ?_
      refine mj_callSi (as := [.int x6, .int x4]) (st := []) dX11_hide_67 cal_X11_isFewer lk_X11_406 sm_X11_isFewer h rfl (Nat.le_of_ble_eq_true rfl) (by decide) ⟨Nat.le_of_ble_eq_true rfl, Nat.le_of_ble_eq_true rfl⟩ (fun S4 r5 h hn_r5 hp => ?_)
      have hk_a0 : m_kd S4 a0 = 10 := m_kd_pre hp hk_a0 (by decide)
      refine mj_if_eq (tgt := 102) dX11_hide_70 (by decide) ⟨fun hc => ?_, fun hc => ?_⟩
      · replace h := h.1 hc
        obtain ⟨v6, ev6⟩ : ∃ z : Int32, z = x6 + (1 : Int32) := ⟨_, rfl⟩
        refine mj_iinc (v := v6) dX11_hide_102 rfl (by rw [ev6]; rfl) (by decide) rfl rfl ?_
        replace h := h v6 ev6
        refine mj_goto (tgt := 40) dX11_hide_105 (by decide) ?_
        exact h
      · replace h := h.2 hc
        refine mj_aload_n dX11_hide_73 rfl rfl ?_
        refine mj_iload_n dX11_hide_74 rfl rfl ?_
        refine mj_iload_n dX11_hide_75 rfl rfl ?_
        refine mj_iload dX11_hide_76 rfl ?_
        refine mj_iload dX11_hide_78 rfl ?_
        refine mj_ior dX11_hide_80 ?_
        refine mj_callVv (as := [.int x1, .int x3, .int (x5 ||| x6)]) (st := []) dX11_hide_81 cal_X11_layBright lk_X11_337 im_X11_layBright se_X11_layBright (ci := 10) rfl (by decide) hk_a0 h rfl (Nat.le_of_ble_eq_true rfl) (by decide) ⟨Nat.le_of_ble_eq_true rfl, Nat.le_of_ble_eq_true rfl⟩ (fun S7 h hp => ?_)
        have hk_a0 : m_kd S7 a0 = 10 := m_kd_pre hp hk_a0 (by decide)
        refine mj_aload_n dX11_hide_84 rfl rfl ?_
        obtain ⟨b8, eb8, h⟩ := h
        refine mj_getP dX11_hide_85 fl_X11_74_10 hk_a0 rfl ⟨b8, eb8, fun hk_b8 => ?_⟩
        refine mj_iload_n dX11_hide_88 rfl rfl ?_
        refine mj_iald dX11_hide_89 (Or.inl hk_b8) ⟨h.1, ?_⟩
        replace h := h.2
        refine mj_if_ne (tgt := 98) dX11_hide_90 (by decide) ⟨fun hc => ?_, fun hc => ?_⟩
        · replace h := h.1 hc
          refine mj_iload dX11_hide_98 rfl ?_
          refine mj_istore dX11_hide_100 (by decide) rfl rfl ?_
          obtain ⟨v9, ev9⟩ : ∃ z : Int32, z = x6 + (1 : Int32) := ⟨_, rfl⟩
          refine mj_iinc (v := v9) dX11_hide_102 rfl (by rw [ev9]; rfl) (by decide) rfl rfl ?_
          replace h := h v9 ev9
          refine mj_goto (tgt := 40) dX11_hide_105 (by decide) ?_
          exact h
        · replace h := h.2 hc
          refine mj_iload dX11_hide_93 rfl ?_
          refine mj_goto (tgt := 100) dX11_hide_95 (by decide) ?_
          refine mj_istore dX11_hide_100 (by decide) rfl rfl ?_
          obtain ⟨v10, ev10⟩ : ∃ z : Int32, z = x6 + (1 : Int32) := ⟨_, rfl⟩
          refine mj_iinc (v := v10) dX11_hide_102 rfl (by rw [ev10]; rfl) (by decide) rfl rfl ?_
          replace h := h v10 ev10
          refine mj_goto (tgt := 40) dX11_hide_105 (by decide) ?_
          exact h
abbrev V_X11_seen_0 (l : Launch) (G : mj_G) (a0 : Nat) (x1 : Int32) (x2 : Int32) (S : mj_S) (Q : mj_S → Int32 → Prop) : Prop := mj_V l G (mj_room 8 0 0) RX11 cX11_seen 5 (some .int) false 0 [some (.ref a0), some (.int x1), some (.int x2), none, none] [] S 0 0 (mj_std G (some .int) (mj_room 8 0 0) (mj_qi Q))
abbrev V_X11_seen_35 (l : Launch) (G : mj_G) (a0 : Nat) (x3 : Int32) (x4 : Int32) (S : mj_S) (Q : mj_S → Int32 → Prop) : Prop := mj_V l G (mj_room 8 0 0) RX11 cX11_seen 5 (some .int) false 35 [some (.ref a0), none, none, some (.int x3), some (.int x4)] [] S 0 0 (mj_std G (some .int) (mj_room 8 0 0) (mj_qi Q))
theorem e_X11_seen {l : Launch} {G : mj_G} {a0 : Nat} {x1 : Int32} {x2 : Int32} {S : mj_S} {Q : mj_S → Int32 → Prop} (h : V_X11_seen_0 l G a0 x1 x2 S Q) : M_X11_seen l G a0 x1 x2 S Q := mj_enter (r := 2) (ini := false) (by decide +kernel) (fun h => by cases h) (fun _ => Nat.le_of_ble_eq_true rfl) rfl h
set_option maxRecDepth 20000 in
set_option maxHeartbeats 1000000 in
theorem b_X11_seen_0 {l : Launch} {G : mj_G} {a0 : Nat} {x1 : Int32} {x2 : Int32} {S : mj_S} {Q : mj_S → Int32 → Prop} (hk_a0 : m_kd S a0 = 10) (h : M_X11_isSquare l G a0 x1 S (fun S1 r2 => ((r2 = 0) → Q S1 (-1 : Int32)) ∧ ((¬ (r2 = 0)) → M_X11_in l G x2 (1 : Int32) (99 : Int32) S1 (fun S3 r4 => ((¬ r4 = 0) → M_X11_hanging l G a0 S3 (fun S5 r6 => M_X11_layBright l G a0 x1 x2 r6 S5 (fun S7 => V_X11_seen_35 l G a0 (0 : Int32) (0 : Int32) S7 Q))) ∧ ((r4 = 0) → Q S3 (-1 : Int32)))))) : V_X11_seen_0 l G a0 x1 x2 S Q := by
  refine mj_aload_n dX11_seen_0 rfl rfl ?_
  refine mj_iload_n dX11_seen_1 rfl rfl ?_
  refine mj_callVi (as := [.int x1]) (st := []) dX11_seen_2 cal_X11_isSquare lk_X11_350 im_X11_isSquare se_X11_isSquare (ci := 10) rfl (by decide) hk_a0 h rfl (Nat.le_of_ble_eq_true rfl) (by decide) ⟨Nat.le_of_ble_eq_true rfl, Nat.le_of_ble_eq_true rfl⟩ (fun S1 r2 h hn_r2 hp => ?_)
  have hk_a0 : m_kd S1 a0 = 10 := m_kd_pre hp hk_a0 (by decide)
  refine mj_if_eq (tgt := 18) dX11_seen_5 (by decide) ⟨fun hc => ?_, fun hc => ?_⟩
  · replace h := h.1 hc
    refine mj_iconst (v := (-1)) dX11_seen_18 (by decide) ?_
    exact mj_reti dX11_seen_19 rfl ⟨Nat.le_of_ble_eq_true rfl, Nat.le_of_ble_eq_true rfl⟩ h
  · replace h := h.2 hc
    refine mj_iload_n dX11_seen_8 rfl rfl ?_
    refine mj_iconst (v := 1) dX11_seen_9 (by decide) ?_
    refine mj_bipush (v := 99) dX11_seen_10 (by decide) ?_
    refine mj_callSi (as := [.int x2, .int (1 : Int32), .int (99 : Int32)]) (st := []) dX11_seen_12 cal_X11_in lk_X11_217 sm_X11_in h rfl (Nat.le_of_ble_eq_true rfl) (by decide) ⟨Nat.le_of_ble_eq_true rfl, Nat.le_of_ble_eq_true rfl⟩ (fun S3 r4 h hn_r4 hp => ?_)
    have hk_a0 : m_kd S3 a0 = 10 := m_kd_pre hp hk_a0 (by decide)
    refine mj_if_ne (tgt := 20) dX11_seen_15 (by decide) ⟨fun hc => ?_, fun hc => ?_⟩
    · replace h := h.1 hc
      refine mj_aload_n dX11_seen_20 rfl rfl ?_
      refine mj_iload_n dX11_seen_21 rfl rfl ?_
      refine mj_iload_n dX11_seen_22 rfl rfl ?_
      refine mj_aload_n dX11_seen_23 rfl rfl ?_
      refine mj_callVi (as := []) (st := [.int x2, .int x1, .ref a0]) dX11_seen_24 cal_X11_hanging lk_X11_314 im_X11_hanging se_X11_hanging (ci := 10) rfl (by decide) hk_a0 h rfl (Nat.le_of_ble_eq_true rfl) (by decide) ⟨Nat.le_of_ble_eq_true rfl, Nat.le_of_ble_eq_true rfl⟩ (fun S5 r6 h hn_r6 hp => ?_)
      have hk_a0 : m_kd S5 a0 = 10 := m_kd_pre hp hk_a0 (by decide)
      refine mj_callVv (as := [.int x1, .int x2, .int r6]) (st := []) dX11_seen_27 cal_X11_layBright lk_X11_337 im_X11_layBright se_X11_layBright (ci := 10) rfl (by decide) hk_a0 h rfl (Nat.le_of_ble_eq_true rfl) (by decide) ⟨Nat.le_of_ble_eq_true rfl, Nat.le_of_ble_eq_true rfl⟩ (fun S7 h hp => ?_)
      have hk_a0 : m_kd S7 a0 = 10 := m_kd_pre hp hk_a0 (by decide)
      refine mj_iconst (v := 0) dX11_seen_30 (by decide) ?_
      refine mj_istore_n dX11_seen_31 rfl (by decide) rfl rfl ?_
      refine mj_iconst (v := 0) dX11_seen_32 (by decide) ?_
      refine mj_istore dX11_seen_33 (by decide) rfl rfl ?_
      exact mj_lessm [true, false, false, true, true] rfl h
    · replace h := h.2 hc
      refine mj_iconst (v := (-1)) dX11_seen_18 (by decide) ?_
      exact mj_reti dX11_seen_19 rfl ⟨Nat.le_of_ble_eq_true rfl, Nat.le_of_ble_eq_true rfl⟩ h
set_option maxRecDepth 20000 in
set_option maxHeartbeats 1000000 in
theorem b_X11_seen_35 {l : Launch} {G : mj_G} {a0 : Nat} {x3 : Int32} {x4 : Int32} {S : mj_S} {Q : mj_S → Int32 → Prop} (hk_a0 : m_kd S a0 = 10) (h : (((m_gi S a0 25) ≤ x4) → Q S x3) ∧ ((¬ ((m_gi S a0 25) ≤ x4)) → ∃ b1, m_gp S a0 34 = some b1 ∧ (vp_in x4 (m_ln S b1) ∧ ((((m_gi S b1 (x4).toNatClampNeg) ≤ 0) → ∀ v2 : Int32, v2 = (x3 ||| (0 : Int32)) → ∀ v3 : Int32, v3 = x4 + (1 : Int32) → V_X11_seen_35 l G a0 v2 v3 S Q) ∧ ((¬ ((m_gi S b1 (x4).toNatClampNeg) ≤ 0)) → ∀ v4 : Int32, v4 = (x3 ||| ((1 : Int32) <<< (x4 &&& 31))) → ∀ v5 : Int32, v5 = x4 + (1 : Int32) → V_X11_seen_35 l G a0 v4 v5 S Q))))) : V_X11_seen_35 l G a0 x3 x4 S Q := by
  refine mj_iload dX11_seen_35 rfl ?_
  refine mj_aload_n dX11_seen_37 rfl rfl ?_
  refine mj_getI dX11_seen_38 fl_X11_267_10 hk_a0 rfl ?_
  refine mj_icmp_ge (tgt := 71) dX11_seen_41 (by decide) ⟨fun hc => ?_, fun hc => ?_⟩
  · replace h := h.1 hc
    refine mj_iload_n dX11_seen_71 rfl rfl ?_
    exact mj_reti dX11_seen_72 rfl ⟨Nat.le_of_ble_eq_true rfl, Nat.le_of_ble_eq_true rfl⟩ h
  · replace h := h.2 hc
    refine mj_iload_n dX11_seen_44 rfl rfl ?_
    refine mj_aload_n dX11_seen_45 rfl rfl ?_
    obtain ⟨b1, eb1, h⟩ := h
    refine mj_getP dX11_seen_46 fl_X11_74_10 hk_a0 rfl ⟨b1, eb1, fun hk_b1 => ?_⟩
    refine mj_iload dX11_seen_49 rfl ?_
    refine mj_iald dX11_seen_51 (Or.inl hk_b1) ⟨h.1, ?_⟩
    replace h := h.2
    refine mj_if_le (tgt := 62) dX11_seen_52 (by decide) ⟨fun hc => ?_, fun hc => ?_⟩
    · replace h := h.1 hc
      refine mj_iconst (v := 0) dX11_seen_62 (by decide) ?_
      refine mj_ior dX11_seen_63 ?_
      refine mj_nmi (fun v2 ev2 => ?_)
      replace h := h v2 ev2
      refine mj_istore_n dX11_seen_64 rfl (by decide) rfl rfl ?_
      obtain ⟨v3, ev3⟩ : ∃ z : Int32, z = x4 + (1 : Int32) := ⟨_, rfl⟩
      refine mj_iinc (v := v3) dX11_seen_65 rfl (by rw [ev3]; rfl) (by decide) rfl rfl ?_
      replace h := h v3 ev3
      refine mj_goto (tgt := 35) dX11_seen_68 (by decide) ?_
      exact h
    · replace h := h.2 hc
      refine mj_iconst (v := 1) dX11_seen_55 (by decide) ?_
      refine mj_iload dX11_seen_56 rfl ?_
      refine mj_ishl dX11_seen_58 ?_
      refine mj_goto (tgt := 63) dX11_seen_59 (by decide) ?_
      refine mj_ior dX11_seen_63 ?_
      refine mj_nmi (fun v4 ev4 => ?_)
      replace h := h v4 ev4
      refine mj_istore_n dX11_seen_64 rfl (by decide) rfl rfl ?_
      obtain ⟨v5, ev5⟩ : ∃ z : Int32, z = x4 + (1 : Int32) := ⟨_, rfl⟩
      refine mj_iinc (v := v5) dX11_seen_65 rfl (by rw [ev5]; rfl) (by decide) rfl rfl ?_
      replace h := h v5 ev5
      refine mj_goto (tgt := 35) dX11_seen_68 (by decide) ?_
      exact h
abbrev V_X11_lowEnough_0 (l : Launch) (G : mj_G) (a0 : Nat) (x1 : Int32) (S : mj_S) (Q : mj_S → Int32 → Prop) : Prop := mj_V l G (mj_room 4 0 0) RX11 cX11_lowEnough 4 (some .int) false 0 [some (.ref a0), some (.int x1), none, none] [] S 0 0 (mj_std G (some .int) (mj_room 4 0 0) (mj_qi Q))
abbrev V_X11_lowEnough_4 (l : Launch) (G : mj_G) (a0 : Nat) (x1 : Int32) (x2 : Int32) (x3 : Int32) (S : mj_S) (Q : mj_S → Int32 → Prop) : Prop := mj_V l G (mj_room 4 0 0) RX11 cX11_lowEnough 4 (some .int) false 4 [some (.ref a0), some (.int x1), some (.int x2), some (.int x3)] [] S 0 0 (mj_std G (some .int) (mj_room 4 0 0) (mj_qi Q))
theorem e_X11_lowEnough {l : Launch} {G : mj_G} {a0 : Nat} {x1 : Int32} {S : mj_S} {Q : mj_S → Int32 → Prop} (h : V_X11_lowEnough_0 l G a0 x1 S Q) : M_X11_lowEnough l G a0 x1 S Q := mj_enter (r := 2) (ini := false) (by decide +kernel) (fun h => by cases h) (fun _ => Nat.le_of_ble_eq_true rfl) rfl h
set_option maxRecDepth 20000 in
set_option maxHeartbeats 1000000 in
theorem b_X11_lowEnough_0 {l : Launch} {G : mj_G} {a0 : Nat} {x1 : Int32} {S : mj_S} {Q : mj_S → Int32 → Prop} (hk_a0 : m_kd S a0 = 10) (h : V_X11_lowEnough_4 l G a0 x1 (0 : Int32) (0 : Int32) S Q) : V_X11_lowEnough_0 l G a0 x1 S Q := by
  refine mj_iconst (v := 0) dX11_lowEnough_0 (by decide) ?_
  refine mj_istore_n dX11_lowEnough_1 rfl (by decide) rfl rfl ?_
  refine mj_iconst (v := 0) dX11_lowEnough_2 (by decide) ?_
  refine mj_istore_n dX11_lowEnough_3 rfl (by decide) rfl rfl ?_
  exact h
set_option maxRecDepth 20000 in
set_option maxHeartbeats 1000000 in
theorem b_X11_lowEnough_4 {l : Launch} {G : mj_G} {a0 : Nat} {x1 : Int32} {x2 : Int32} {x3 : Int32} {S : mj_S} {Q : mj_S → Int32 → Prop} (hk_a0 : m_kd S a0 = 10) (h : (((m_gi S a0 26) ≤ x3) → Q S x2) ∧ ((¬ ((m_gi S a0 26) ≤ x3)) → M_X11_hangs l G a0 x3 S (fun S1 r2 => ((r2 = 0) → ∀ v3 : Int32, v3 = (x2 ||| (0 : Int32)) → ∀ v4 : Int32, v4 = x3 + (1 : Int32) → V_X11_lowEnough_4 l G a0 x1 v3 v4 S1 Q) ∧ ((¬ (r2 = 0)) → M_X11_of l G a0 x3 (4 : Int32) S1 (fun S5 r6 => ((r6 < x1) → ∀ v7 : Int32, v7 = (x2 ||| (0 : Int32)) → ∀ v8 : Int32, v8 = x3 + (1 : Int32) → V_X11_lowEnough_4 l G a0 x1 v7 v8 S5 Q) ∧ ((¬ (r6 < x1)) → ∀ v9 : Int32, v9 = (x2 ||| ((1 : Int32) <<< (x3 &&& 31))) → ∀ v10 : Int32, v10 = x3 + (1 : Int32) → V_X11_lowEnough_4 l G a0 x1 v9 v10 S5 Q)))))) : V_X11_lowEnough_4 l G a0 x1 x2 x3 S Q := by
  refine mj_iload_n dX11_lowEnough_4 rfl rfl ?_
  refine mj_aload_n dX11_lowEnough_5 rfl rfl ?_
  refine mj_getI dX11_lowEnough_6 fl_X11_261_10 hk_a0 rfl ?_
  refine mj_icmp_ge (tgt := 46) dX11_lowEnough_9 (by decide) ⟨fun hc => ?_, fun hc => ?_⟩
  · replace h := h.1 hc
    refine mj_iload_n dX11_lowEnough_46 rfl rfl ?_
    exact mj_reti dX11_lowEnough_47 rfl ⟨Nat.le_of_ble_eq_true rfl, Nat.le_of_ble_eq_true rfl⟩ h
  · replace h := h.2 hc
    refine mj_iload_n dX11_lowEnough_12 rfl rfl ?_
    refine mj_aload_n dX11_lowEnough_13 rfl rfl ?_
    refine mj_iload_n dX11_lowEnough_14 rfl rfl ?_
    refine mj_callVi (as := [.int x3]) (st := [.int x2]) dX11_lowEnough_15 cal_X11_hangs lk_X11_307 im_X11_hangs se_X11_hangs (ci := 10) rfl (by decide) hk_a0 h rfl (Nat.le_of_ble_eq_true rfl) (by decide) ⟨Nat.le_of_ble_eq_true rfl, Nat.le_of_ble_eq_true rfl⟩ (fun S1 r2 h hn_r2 hp => ?_)
    have hk_a0 : m_kd S1 a0 = 10 := m_kd_pre hp hk_a0 (by decide)
    refine mj_if_eq (tgt := 37) dX11_lowEnough_18 (by decide) ⟨fun hc => ?_, fun hc => ?_⟩
    · replace h := h.1 hc
      refine mj_iconst (v := 0) dX11_lowEnough_37 (by decide) ?_
      refine mj_ior dX11_lowEnough_38 ?_
      refine mj_nmi (fun v3 ev3 => ?_)
      replace h := h v3 ev3
      refine mj_istore_n dX11_lowEnough_39 rfl (by decide) rfl rfl ?_
      obtain ⟨v4, ev4⟩ : ∃ z : Int32, z = x3 + (1 : Int32) := ⟨_, rfl⟩
      refine mj_iinc (v := v4) dX11_lowEnough_40 rfl (by rw [ev4]; rfl) (by decide) rfl rfl ?_
      replace h := h v4 ev4
      refine mj_goto (tgt := 4) dX11_lowEnough_43 (by decide) ?_
      exact h
    · replace h := h.2 hc
      refine mj_aload_n dX11_lowEnough_21 rfl rfl ?_
      refine mj_iload_n dX11_lowEnough_22 rfl rfl ?_
      refine mj_iconst (v := 4) dX11_lowEnough_23 (by decide) ?_
      refine mj_callVi (as := [.int x3, .int (4 : Int32)]) (st := [.int x2]) dX11_lowEnough_24 cal_X11_of lk_X11_270 im_X11_of se_X11_of (ci := 10) rfl (by decide) hk_a0 h rfl (Nat.le_of_ble_eq_true rfl) (by decide) ⟨Nat.le_of_ble_eq_true rfl, Nat.le_of_ble_eq_true rfl⟩ (fun S5 r6 h hn_r6 hp => ?_)
      have hk_a0 : m_kd S5 a0 = 10 := m_kd_pre hp hk_a0 (by decide)
      refine mj_iload_n dX11_lowEnough_27 rfl rfl ?_
      refine mj_icmp_lt (tgt := 37) dX11_lowEnough_28 (by decide) ⟨fun hc => ?_, fun hc => ?_⟩
      · replace h := h.1 hc
        refine mj_iconst (v := 0) dX11_lowEnough_37 (by decide) ?_
        refine mj_ior dX11_lowEnough_38 ?_
        refine mj_nmi (fun v7 ev7 => ?_)
        replace h := h v7 ev7
        refine mj_istore_n dX11_lowEnough_39 rfl (by decide) rfl rfl ?_
        obtain ⟨v8, ev8⟩ : ∃ z : Int32, z = x3 + (1 : Int32) := ⟨_, rfl⟩
        refine mj_iinc (v := v8) dX11_lowEnough_40 rfl (by rw [ev8]; rfl) (by decide) rfl rfl ?_
        replace h := h v8 ev8
        refine mj_goto (tgt := 4) dX11_lowEnough_43 (by decide) ?_
        exact h
      · replace h := h.2 hc
        refine mj_iconst (v := 1) dX11_lowEnough_31 (by decide) ?_
        refine mj_iload_n dX11_lowEnough_32 rfl rfl ?_
        refine mj_ishl dX11_lowEnough_33 ?_
        refine mj_goto (tgt := 38) dX11_lowEnough_34 (by decide) ?_
        refine mj_ior dX11_lowEnough_38 ?_
        refine mj_nmi (fun v9 ev9 => ?_)
        replace h := h v9 ev9
        refine mj_istore_n dX11_lowEnough_39 rfl (by decide) rfl rfl ?_
        obtain ⟨v10, ev10⟩ : ∃ z : Int32, z = x3 + (1 : Int32) := ⟨_, rfl⟩
        refine mj_iinc (v := v10) dX11_lowEnough_40 rfl (by rw [ev10]; rfl) (by decide) rfl rfl ?_
        replace h := h v10 ev10
        refine mj_goto (tgt := 4) dX11_lowEnough_43 (by decide) ?_
        exact h
abbrev V_X11_under_0 (l : Launch) (G : mj_G) (a0 : Nat) (x1 : Int32) (x2 : Int32) (x3 : Int32) (S : mj_S) (Q : mj_S → Int32 → Prop) : Prop := mj_V l G (mj_room 6 0 0) RX11 cX11_under 8 (some .int) false 0 [some (.ref a0), some (.int x1), some (.int x2), some (.int x3), none, none, none, none] [] S 0 0 (mj_std G (some .int) (mj_room 6 0 0) (mj_qi Q))
abbrev V_X11_under_38 (l : Launch) (G : mj_G) (a0 : Nat) (x2 : Int32) (x3 : Int32) (x4 : Int32) (x5 : Int32) (S : mj_S) (Q : mj_S → Int32 → Prop) : Prop := mj_V l G (mj_room 6 0 0) RX11 cX11_under 8 (some .int) false 38 [some (.ref a0), none, some (.int x2), some (.int x3), some (.int x4), some (.int x5), none, none] [] S 0 0 (mj_std G (some .int) (mj_room 6 0 0) (mj_qi Q))
abbrev V_X11_under_66 (l : Launch) (G : mj_G) (a0 : Nat) (x2 : Int32) (x3 : Int32) (x4 : Int32) (x5 : Int32) (x6 : Int32) (x7 : Int32) (S : mj_S) (Q : mj_S → Int32 → Prop) : Prop := mj_V l G (mj_room 6 0 0) RX11 cX11_under 8 (some .int) false 66 [some (.ref a0), none, some (.int x2), some (.int x3), some (.int x4), some (.int x5), some (.int x6), some (.int x7)] [] S 0 0 (mj_std G (some .int) (mj_room 6 0 0) (mj_qi Q))
abbrev V_X11_under_118 (l : Launch) (G : mj_G) (a0 : Nat) (x2 : Int32) (x3 : Int32) (x4 : Int32) (x5 : Int32) (x7 : Int32) (s0 : Int32) (s1 : Int32) (S : mj_S) (Q : mj_S → Int32 → Prop) : Prop := mj_V l G (mj_room 6 0 0) RX11 cX11_under 8 (some .int) false 118 [some (.ref a0), none, some (.int x2), some (.int x3), some (.int x4), some (.int x5), none, some (.int x7)] [.int s1, .int s0] S 0 0 (mj_std G (some .int) (mj_room 6 0 0) (mj_qi Q))
theorem e_X11_under {l : Launch} {G : mj_G} {a0 : Nat} {x1 : Int32} {x2 : Int32} {x3 : Int32} {S : mj_S} {Q : mj_S → Int32 → Prop} (h : V_X11_under_0 l G a0 x1 x2 x3 S Q) : M_X11_under l G a0 x1 x2 x3 S Q := mj_enter (r := 4) (ini := false) (by decide +kernel) (fun h => by cases h) (fun _ => Nat.le_of_ble_eq_true rfl) rfl h
set_option maxRecDepth 20000 in
set_option maxHeartbeats 1000000 in
theorem b_X11_under_0 {l : Launch} {G : mj_G} {a0 : Nat} {x1 : Int32} {x2 : Int32} {x3 : Int32} {S : mj_S} {Q : mj_S → Int32 → Prop} (hk_a0 : m_kd S a0 = 10) (h : M_X11_isSquare l G a0 x1 S (fun S1 r2 => ((r2 = 0) → Q S1 (-1 : Int32)) ∧ ((¬ (r2 = 0)) → M_X11_isSquare l G a0 x2 S1 (fun S3 r4 => ((r4 = 0) → Q S3 (-1 : Int32)) ∧ ((¬ (r4 = 0)) → M_X11_in l G x3 (0 : Int32) (9 : Int32) S3 (fun S5 r6 => ((¬ r6 = 0) → M_X11_stateOf l G a0 x1 S5 (fun S7 r8 => V_X11_under_38 l G a0 x2 x3 r8 (0 : Int32) S7 Q)) ∧ ((r6 = 0) → Q S5 (-1 : Int32)))))))) : V_X11_under_0 l G a0 x1 x2 x3 S Q := by
  refine mj_aload_n dX11_under_0 rfl rfl ?_
  refine mj_iload_n dX11_under_1 rfl rfl ?_
  refine mj_callVi (as := [.int x1]) (st := []) dX11_under_2 cal_X11_isSquare lk_X11_350 im_X11_isSquare se_X11_isSquare (ci := 10) rfl (by decide) hk_a0 h rfl (Nat.le_of_ble_eq_true rfl) (by decide) ⟨Nat.le_of_ble_eq_true rfl, Nat.le_of_ble_eq_true rfl⟩ (fun S1 r2 h hn_r2 hp => ?_)
  have hk_a0 : m_kd S1 a0 = 10 := m_kd_pre hp hk_a0 (by decide)
  refine mj_if_eq (tgt := 26) dX11_under_5 (by decide) ⟨fun hc => ?_, fun hc => ?_⟩
  · replace h := h.1 hc
    refine mj_iconst (v := (-1)) dX11_under_26 (by decide) ?_
    exact mj_reti dX11_under_27 rfl ⟨Nat.le_of_ble_eq_true rfl, Nat.le_of_ble_eq_true rfl⟩ h
  · replace h := h.2 hc
    refine mj_aload_n dX11_under_8 rfl rfl ?_
    refine mj_iload_n dX11_under_9 rfl rfl ?_
    refine mj_callVi (as := [.int x2]) (st := []) dX11_under_10 cal_X11_isSquare lk_X11_350 im_X11_isSquare se_X11_isSquare (ci := 10) rfl (by decide) hk_a0 h rfl (Nat.le_of_ble_eq_true rfl) (by decide) ⟨Nat.le_of_ble_eq_true rfl, Nat.le_of_ble_eq_true rfl⟩ (fun S3 r4 h hn_r4 hp => ?_)
    have hk_a0 : m_kd S3 a0 = 10 := m_kd_pre hp hk_a0 (by decide)
    refine mj_if_eq (tgt := 26) dX11_under_13 (by decide) ⟨fun hc => ?_, fun hc => ?_⟩
    · replace h := h.1 hc
      refine mj_iconst (v := (-1)) dX11_under_26 (by decide) ?_
      exact mj_reti dX11_under_27 rfl ⟨Nat.le_of_ble_eq_true rfl, Nat.le_of_ble_eq_true rfl⟩ h
    · replace h := h.2 hc
      refine mj_iload_n dX11_under_16 rfl rfl ?_
      refine mj_iconst (v := 0) dX11_under_17 (by decide) ?_
      refine mj_bipush (v := 9) dX11_under_18 (by decide) ?_
      refine mj_callSi (as := [.int x3, .int (0 : Int32), .int (9 : Int32)]) (st := []) dX11_under_20 cal_X11_in lk_X11_217 sm_X11_in h rfl (Nat.le_of_ble_eq_true rfl) (by decide) ⟨Nat.le_of_ble_eq_true rfl, Nat.le_of_ble_eq_true rfl⟩ (fun S5 r6 h hn_r6 hp => ?_)
      have hk_a0 : m_kd S5 a0 = 10 := m_kd_pre hp hk_a0 (by decide)
      refine mj_if_ne (tgt := 28) dX11_under_23 (by decide) ⟨fun hc => ?_, fun hc => ?_⟩
      · replace h := h.1 hc
        refine mj_aload_n dX11_under_28 rfl rfl ?_
        refine mj_iload_n dX11_under_29 rfl rfl ?_
        refine mj_callVi (as := [.int x1]) (st := []) dX11_under_30 cal_X11_stateOf lk_X11_328 im_X11_stateOf se_X11_stateOf (ci := 10) rfl (by decide) hk_a0 h rfl (Nat.le_of_ble_eq_true rfl) (by decide) ⟨Nat.le_of_ble_eq_true rfl, Nat.le_of_ble_eq_true rfl⟩ (fun S7 r8 h hn_r8 hp => ?_)
        have hk_a0 : m_kd S7 a0 = 10 := m_kd_pre hp hk_a0 (by decide)
        refine mj_istore dX11_under_33 (by decide) rfl rfl ?_
        refine mj_iconst (v := 0) dX11_under_35 (by decide) ?_
        refine mj_istore dX11_under_36 (by decide) rfl rfl ?_
        exact mj_lessm [true, false, true, true, true, true, false, false] rfl h
      · replace h := h.2 hc
        refine mj_iconst (v := (-1)) dX11_under_26 (by decide) ?_
        exact mj_reti dX11_under_27 rfl ⟨Nat.le_of_ble_eq_true rfl, Nat.le_of_ble_eq_true rfl⟩ h
set_option maxRecDepth 20000 in
set_option maxHeartbeats 1000000 in
theorem b_X11_under_38 {l : Launch} {G : mj_G} {a0 : Nat} {x2 : Int32} {x3 : Int32} {x4 : Int32} {x5 : Int32} {S : mj_S} {Q : mj_S → Int32 → Prop} (hk_a0 : m_kd S a0 = 10) (h : (((m_gi S a0 26) < x5) → Q S (-1 : Int32)) ∧ ((¬ ((m_gi S a0 26) < x5)) → M_X11_has l G x4 x2 S (fun S1 r2 => ((r2 = 0) → V_X11_under_66 l G a0 x2 x3 x4 x5 x4 (0 : Int32) S1 Q) ∧ ((¬ (r2 = 0)) → Q S1 x5)))) : V_X11_under_38 l G a0 x2 x3 x4 x5 S Q := by
  refine mj_iload dX11_under_38 rfl ?_
  refine mj_aload_n dX11_under_40 rfl rfl ?_
  refine mj_getI dX11_under_41 fl_X11_261_10 hk_a0 rfl ?_
  refine mj_icmp_gt (tgt := 170) dX11_under_44 (by decide) ⟨fun hc => ?_, fun hc => ?_⟩
  · replace h := h.1 hc
    refine mj_iconst (v := (-1)) dX11_under_170 (by decide) ?_
    exact mj_reti dX11_under_171 rfl ⟨Nat.le_of_ble_eq_true rfl, Nat.le_of_ble_eq_true rfl⟩ h
  · replace h := h.2 hc
    refine mj_iload dX11_under_47 rfl ?_
    refine mj_iload_n dX11_under_49 rfl rfl ?_
    refine mj_callSi (as := [.int x4, .int x2]) (st := []) dX11_under_50 cal_X11_has lk_X11_228 sm_X11_has h rfl (Nat.le_of_ble_eq_true rfl) (by decide) ⟨Nat.le_of_ble_eq_true rfl, Nat.le_of_ble_eq_true rfl⟩ (fun S1 r2 h hn_r2 hp => ?_)
    have hk_a0 : m_kd S1 a0 = 10 := m_kd_pre hp hk_a0 (by decide)
    refine mj_if_eq (tgt := 59) dX11_under_53 (by decide) ⟨fun hc => ?_, fun hc => ?_⟩
    · replace h := h.1 hc
      refine mj_iload dX11_under_59 rfl ?_
      refine mj_istore dX11_under_61 (by decide) rfl rfl ?_
      refine mj_iconst (v := 0) dX11_under_63 (by decide) ?_
      refine mj_istore dX11_under_64 (by decide) rfl rfl ?_
      exact h
    · replace h := h.2 hc
      refine mj_iload dX11_under_56 rfl ?_
      exact mj_reti dX11_under_58 rfl ⟨Nat.le_of_ble_eq_true rfl, Nat.le_of_ble_eq_true rfl⟩ h
set_option maxRecDepth 20000 in
set_option maxHeartbeats 1000000 in
theorem b_X11_under_66 {l : Launch} {G : mj_G} {a0 : Nat} {x2 : Int32} {x3 : Int32} {x4 : Int32} {x5 : Int32} {x6 : Int32} {x7 : Int32} {S : mj_S} {Q : mj_S → Int32 → Prop} (hk_a0 : m_kd S a0 = 10) (h : (((m_gi S a0 26) ≤ x7) → ∀ v1 : Int32, v1 = x5 + (1 : Int32) → V_X11_under_38 l G a0 x2 x3 x6 v1 S Q) ∧ ((¬ ((m_gi S a0 26) ≤ x7)) → M_X11_lowEnough l G a0 x3 S (fun S2 r3 => M_X11_has l G r3 x7 S2 (fun S4 r5 => ((r5 = 0) → ∀ v6 : Int32, v6 = x7 + (1 : Int32) → V_X11_under_66 l G a0 x2 x3 x4 x5 x6 v6 S4 Q) ∧ ((¬ (r5 = 0)) → M_X11_firstSide l G a0 x7 S4 (fun S7 r8 => M_X11_has l G x4 r8 S7 (fun S9 r10 => ((r10 = 0) → V_X11_under_118 l G a0 x2 x3 x4 x5 x7 x6 (0 : Int32) S9 Q) ∧ ((¬ (r10 = 0)) → M_X11_secondSide l G a0 x7 S9 (fun S11 r12 => M_X11_stateOf l G a0 r12 S11 (fun S13 r14 => V_X11_under_118 l G a0 x2 x3 x4 x5 x7 x6 r14 S13 Q)))))))))) : V_X11_under_66 l G a0 x2 x3 x4 x5 x6 x7 S Q := by
  refine mj_iload dX11_under_66 rfl ?_
  refine mj_aload_n dX11_under_68 rfl rfl ?_
  refine mj_getI dX11_under_69 fl_X11_261_10 hk_a0 rfl ?_
  refine mj_icmp_ge (tgt := 160) dX11_under_72 (by decide) ⟨fun hc => ?_, fun hc => ?_⟩
  · replace h := h.1 hc
    refine mj_iload dX11_under_160 rfl ?_
    refine mj_istore dX11_under_162 (by decide) rfl rfl ?_
    obtain ⟨v1, ev1⟩ : ∃ z : Int32, z = x5 + (1 : Int32) := ⟨_, rfl⟩
    refine mj_iinc (v := v1) dX11_under_164 rfl (by rw [ev1]; rfl) (by decide) rfl rfl ?_
    replace h := h v1 ev1
    refine mj_goto (tgt := 38) dX11_under_167 (by decide) ?_
    exact mj_lessm [true, false, true, true, true, true, false, false] rfl h
  · replace h := h.2 hc
    refine mj_aload_n dX11_under_75 rfl rfl ?_
    refine mj_iload_n dX11_under_76 rfl rfl ?_
    refine mj_callVi (as := [.int x3]) (st := []) dX11_under_77 cal_X11_lowEnough lk_X11_412 im_X11_lowEnough se_X11_lowEnough (ci := 10) rfl (by decide) hk_a0 h rfl (Nat.le_of_ble_eq_true rfl) (by decide) ⟨Nat.le_of_ble_eq_true rfl, Nat.le_of_ble_eq_true rfl⟩ (fun S2 r3 h hn_r3 hp => ?_)
    have hk_a0 : m_kd S2 a0 = 10 := m_kd_pre hp hk_a0 (by decide)
    refine mj_iload dX11_under_80 rfl ?_
    refine mj_callSi (as := [.int r3, .int x7]) (st := []) dX11_under_82 cal_X11_has lk_X11_228 sm_X11_has h rfl (Nat.le_of_ble_eq_true rfl) (by decide) ⟨Nat.le_of_ble_eq_true rfl, Nat.le_of_ble_eq_true rfl⟩ (fun S4 r5 h hn_r5 hp => ?_)
    have hk_a0 : m_kd S4 a0 = 10 := m_kd_pre hp hk_a0 (by decide)
    refine mj_if_eq (tgt := 154) dX11_under_85 (by decide) ⟨fun hc => ?_, fun hc => ?_⟩
    · replace h := h.1 hc
      obtain ⟨v6, ev6⟩ : ∃ z : Int32, z = x7 + (1 : Int32) := ⟨_, rfl⟩
      refine mj_iinc (v := v6) dX11_under_154 rfl (by rw [ev6]; rfl) (by decide) rfl rfl ?_
      replace h := h v6 ev6
      refine mj_goto (tgt := 66) dX11_under_157 (by decide) ?_
      exact h
    · replace h := h.2 hc
      refine mj_iload dX11_under_88 rfl ?_
      refine mj_iload dX11_under_90 rfl ?_
      refine mj_aload_n dX11_under_92 rfl rfl ?_
      refine mj_iload dX11_under_93 rfl ?_
      refine mj_callVi (as := [.int x7]) (st := [.int x4, .int x6]) dX11_under_95 cal_X11_firstSide lk_X11_301 im_X11_firstSide se_X11_firstSide (ci := 10) rfl (by decide) hk_a0 h rfl (Nat.le_of_ble_eq_true rfl) (by decide) ⟨Nat.le_of_ble_eq_true rfl, Nat.le_of_ble_eq_true rfl⟩ (fun S7 r8 h hn_r8 hp => ?_)
      have hk_a0 : m_kd S7 a0 = 10 := m_kd_pre hp hk_a0 (by decide)
      refine mj_callSi (as := [.int x4, .int r8]) (st := [.int x6]) dX11_under_98 cal_X11_has lk_X11_228 sm_X11_has h rfl (Nat.le_of_ble_eq_true rfl) (by decide) ⟨Nat.le_of_ble_eq_true rfl, Nat.le_of_ble_eq_true rfl⟩ (fun S9 r10 h hn_r10 hp => ?_)
      have hk_a0 : m_kd S9 a0 = 10 := m_kd_pre hp hk_a0 (by decide)
      refine mj_if_eq (tgt := 117) dX11_under_101 (by decide) ⟨fun hc => ?_, fun hc => ?_⟩
      · replace h := h.1 hc
        refine mj_iconst (v := 0) dX11_under_117 (by decide) ?_
        exact mj_lessm [true, false, true, true, true, true, false, true] rfl h
      · replace h := h.2 hc
        refine mj_aload_n dX11_under_104 rfl rfl ?_
        refine mj_aload_n dX11_under_105 rfl rfl ?_
        refine mj_iload dX11_under_106 rfl ?_
        refine mj_callVi (as := [.int x7]) (st := [.ref a0, .int x6]) dX11_under_108 cal_X11_secondSide lk_X11_304 im_X11_secondSide se_X11_secondSide (ci := 10) rfl (by decide) hk_a0 h rfl (Nat.le_of_ble_eq_true rfl) (by decide) ⟨Nat.le_of_ble_eq_true rfl, Nat.le_of_ble_eq_true rfl⟩ (fun S11 r12 h hn_r12 hp => ?_)
        have hk_a0 : m_kd S11 a0 = 10 := m_kd_pre hp hk_a0 (by decide)
        refine mj_callVi (as := [.int r12]) (st := [.int x6]) dX11_under_111 cal_X11_stateOf lk_X11_328 im_X11_stateOf se_X11_stateOf (ci := 10) rfl (by decide) hk_a0 h rfl (Nat.le_of_ble_eq_true rfl) (by decide) ⟨Nat.le_of_ble_eq_true rfl, Nat.le_of_ble_eq_true rfl⟩ (fun S13 r14 h hn_r14 hp => ?_)
        have hk_a0 : m_kd S13 a0 = 10 := m_kd_pre hp hk_a0 (by decide)
        refine mj_goto (tgt := 118) dX11_under_114 (by decide) ?_
        exact mj_lessm [true, false, true, true, true, true, false, true] rfl h
set_option maxRecDepth 20000 in
set_option maxHeartbeats 1000000 in
theorem b_X11_under_118 {l : Launch} {G : mj_G} {a0 : Nat} {x2 : Int32} {x3 : Int32} {x4 : Int32} {x5 : Int32} {x7 : Int32} {s0 : Int32} {s1 : Int32} {S : mj_S} {Q : mj_S → Int32 → Prop} (hk_a0 : m_kd S a0 = 10) (h : ∀ v1 : Int32, v1 = (s0 ||| s1) → M_X11_secondSide l G a0 x7 S (fun S2 r3 => M_X11_has l G x4 r3 S2 (fun S4 r5 => ((r5 = 0) → ∀ v6 : Int32, v6 = (v1 ||| (0 : Int32)) → ∀ v7 : Int32, v7 = x7 + (1 : Int32) → V_X11_under_66 l G a0 x2 x3 x4 x5 v6 v7 S4 Q) ∧ ((¬ (r5 = 0)) → M_X11_firstSide l G a0 x7 S4 (fun S8 r9 => M_X11_stateOf l G a0 r9 S8 (fun S10 r11 => ∀ v12 : Int32, v12 = (v1 ||| r11) → ∀ v13 : Int32, v13 = x7 + (1 : Int32) → V_X11_under_66 l G a0 x2 x3 x4 x5 v12 v13 S10 Q)))))) : V_X11_under_118 l G a0 x2 x3 x4 x5 x7 s0 s1 S Q := by
  refine mj_ior dX11_under_118 ?_
  refine mj_nmi (fun v1 ev1 => ?_)
  replace h := h v1 ev1
  refine mj_istore dX11_under_119 (by decide) rfl rfl ?_
  refine mj_iload dX11_under_121 rfl ?_
  refine mj_iload dX11_under_123 rfl ?_
  refine mj_aload_n dX11_under_125 rfl rfl ?_
  refine mj_iload dX11_under_126 rfl ?_
  refine mj_callVi (as := [.int x7]) (st := [.int x4, .int v1]) dX11_under_128 cal_X11_secondSide lk_X11_304 im_X11_secondSide se_X11_secondSide (ci := 10) rfl (by decide) hk_a0 h rfl (Nat.le_of_ble_eq_true rfl) (by decide) ⟨Nat.le_of_ble_eq_true rfl, Nat.le_of_ble_eq_true rfl⟩ (fun S2 r3 h hn_r3 hp => ?_)
  have hk_a0 : m_kd S2 a0 = 10 := m_kd_pre hp hk_a0 (by decide)
  refine mj_callSi (as := [.int x4, .int r3]) (st := [.int v1]) dX11_under_131 cal_X11_has lk_X11_228 sm_X11_has h rfl (Nat.le_of_ble_eq_true rfl) (by decide) ⟨Nat.le_of_ble_eq_true rfl, Nat.le_of_ble_eq_true rfl⟩ (fun S4 r5 h hn_r5 hp => ?_)
  have hk_a0 : m_kd S4 a0 = 10 := m_kd_pre hp hk_a0 (by decide)
  refine mj_if_eq (tgt := 150) dX11_under_134 (by decide) ⟨fun hc => ?_, fun hc => ?_⟩
  · replace h := h.1 hc
    refine mj_iconst (v := 0) dX11_under_150 (by decide) ?_
    refine mj_ior dX11_under_151 ?_
    refine mj_nmi (fun v6 ev6 => ?_)
    replace h := h v6 ev6
    refine mj_istore dX11_under_152 (by decide) rfl rfl ?_
    obtain ⟨v7, ev7⟩ : ∃ z : Int32, z = x7 + (1 : Int32) := ⟨_, rfl⟩
    refine mj_iinc (v := v7) dX11_under_154 rfl (by rw [ev7]; rfl) (by decide) rfl rfl ?_
    replace h := h v7 ev7
    refine mj_goto (tgt := 66) dX11_under_157 (by decide) ?_
    exact h
  · replace h := h.2 hc
    refine mj_aload_n dX11_under_137 rfl rfl ?_
    refine mj_aload_n dX11_under_138 rfl rfl ?_
    refine mj_iload dX11_under_139 rfl ?_
    refine mj_callVi (as := [.int x7]) (st := [.ref a0, .int v1]) dX11_under_141 cal_X11_firstSide lk_X11_301 im_X11_firstSide se_X11_firstSide (ci := 10) rfl (by decide) hk_a0 h rfl (Nat.le_of_ble_eq_true rfl) (by decide) ⟨Nat.le_of_ble_eq_true rfl, Nat.le_of_ble_eq_true rfl⟩ (fun S8 r9 h hn_r9 hp => ?_)
    have hk_a0 : m_kd S8 a0 = 10 := m_kd_pre hp hk_a0 (by decide)
    refine mj_callVi (as := [.int r9]) (st := [.int v1]) dX11_under_144 cal_X11_stateOf lk_X11_328 im_X11_stateOf se_X11_stateOf (ci := 10) rfl (by decide) hk_a0 h rfl (Nat.le_of_ble_eq_true rfl) (by decide) ⟨Nat.le_of_ble_eq_true rfl, Nat.le_of_ble_eq_true rfl⟩ (fun S10 r11 h hn_r11 hp => ?_)
    have hk_a0 : m_kd S10 a0 = 10 := m_kd_pre hp hk_a0 (by decide)
    refine mj_goto (tgt := 151) dX11_under_147 (by decide) ?_
    refine mj_ior dX11_under_151 ?_
    refine mj_nmi (fun v12 ev12 => ?_)
    replace h := h v12 ev12
    refine mj_istore dX11_under_152 (by decide) rfl rfl ?_
    obtain ⟨v13, ev13⟩ : ∃ z : Int32, z = x7 + (1 : Int32) := ⟨_, rfl⟩
    refine mj_iinc (v := v13) dX11_under_154 rfl (by rw [ev13]; rfl) (by decide) rfl rfl ?_
    replace h := h v13 ev13
    refine mj_goto (tgt := 66) dX11_under_157 (by decide) ?_
    exact h
