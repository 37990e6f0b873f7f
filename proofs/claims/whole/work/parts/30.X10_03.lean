abbrev V_X10_shareOf_0 (l : Launch) (G : mj_G) (a0 : Nat) (x1 : Int32) (S : mj_S) (Q : mj_S → Int32 → Prop) : Prop := mj_V l G (mj_room 3 0 0) RX10 cX10_shareOf 4 (some .int) false 0 [some (.ref a0), some (.int x1), none, none] [] S 0 0 (mj_std G (some .int) (mj_room 3 0 0) (mj_qi Q))
theorem e_X10_shareOf {l : Launch} {G : mj_G} {a0 : Nat} {x1 : Int32} {S : mj_S} {Q : mj_S → Int32 → Prop} (h : V_X10_shareOf_0 l G a0 x1 S Q) : M_X10_shareOf l G a0 x1 S Q := mj_enter (r := 2) (ini := false) (by decide +kernel) (fun h => by cases h) (fun _ => Nat.le_of_ble_eq_true rfl) rfl h
set_option maxRecDepth 20000 in
set_option maxHeartbeats 1000000 in
theorem b_X10_shareOf_0 {l : Launch} {G : mj_G} {a0 : Nat} {x1 : Int32} {S : mj_S} {Q : mj_S → Int32 → Prop} (hk_a0 : m_kd S a0 = 9) (h : ∃ b1, m_gp S a0 10 = some b1 ∧ (∃ b2, m_gp S a0 7 = some b2 ∧ (∃ b3, m_gp S b2 2 = some b3 ∧ (vp_in x1 (m_ln S b3) ∧ (M_X0_reach l G b1 ((1 : Int32) <<< ((m_gi S b3 (x1).toNatClampNeg) &&& 31)) S (fun S4 r5 => M_J6_bitCount_0f7a4 l G r5 S4 (fun S6 r7 => M_X10_lordIn l G a0 r5 S6 (fun S8 r9 => ((¬ r9 = x1) → Q S8 r7) ∧ ((r9 = x1) → Q S8 ((2 : Int32) * r7)))))))))) : V_X10_shareOf_0 l G a0 x1 S Q := by
  refine mj_aload_n dX10_shareOf_0 rfl rfl ?_
  obtain ⟨b1, eb1, h⟩ := h
  refine mj_getP dX10_shareOf_1 fl_X10_68_9 hk_a0 rfl ⟨b1, eb1, fun hk_b1 => ?_⟩
  refine mj_iconst (v := 1) dX10_shareOf_4 (by decide) ?_
  refine mj_aload_n dX10_shareOf_5 rfl rfl ?_
  obtain ⟨b2, eb2, h⟩ := h
  refine mj_getP dX10_shareOf_6 fl_X10_51_9 hk_a0 rfl ⟨b2, eb2, fun hk_b2 => ?_⟩
  obtain ⟨b3, eb3, h⟩ := h
  refine mj_getP dX10_shareOf_9 fl_X10_211_7 hk_b2 rfl ⟨b3, eb3, fun hk_b3 => ?_⟩
  refine mj_iload_n dX10_shareOf_12 rfl rfl ?_
  refine mj_iald dX10_shareOf_13 (Or.inl hk_b3) ⟨h.1, ?_⟩
  replace h := h.2
  refine mj_ishl dX10_shareOf_14 ?_
  refine mj_callVi (as := [.int ((1 : Int32) <<< ((m_gi S b3 (x1).toNatClampNeg) &&& 31))]) (st := []) dX10_shareOf_15 cal_X0_reach lk_X10_238 im_X0_reach se_X0_reach (ci := 0) rfl (by decide) hk_b1 h rfl (Nat.le_of_ble_eq_true rfl) (by decide) ⟨Nat.le_of_ble_eq_true rfl, Nat.le_of_ble_eq_true rfl⟩ (fun S4 r5 h hn_r5 hp => ?_)
  have hk_a0 : m_kd S4 a0 = 9 := m_kd_pre hp hk_a0 (by decide)
  have hk_b1 : m_kd S4 b1 = 0 := m_kd_pre hp hk_b1 (by decide)
  have hk_b2 : m_kd S4 b2 = 7 := m_kd_pre hp hk_b2 (by decide)
  have hk_b3 : m_kd S4 b3 = 100 := m_kd_pre hp hk_b3 (by decide)
  refine mj_istore_n dX10_shareOf_18 rfl (by decide) rfl rfl ?_
  refine mj_iload_n dX10_shareOf_19 rfl rfl ?_
  refine mj_callSi (as := [.int r5]) (st := []) dX10_shareOf_20 cal_J6_bitCount_0f7a4 lk_X10_344 sm_J6_bitCount_0f7a4 h rfl (Nat.le_of_ble_eq_true rfl) (by decide) ⟨Nat.le_of_ble_eq_true rfl, Nat.le_of_ble_eq_true rfl⟩ (fun S6 r7 h hn_r7 hp => ?_)
  have hk_a0 : m_kd S6 a0 = 9 := m_kd_pre hp hk_a0 (by decide)
  have hk_b1 : m_kd S6 b1 = 0 := m_kd_pre hp hk_b1 (by decide)
  have hk_b2 : m_kd S6 b2 = 7 := m_kd_pre hp hk_b2 (by decide)
  have hk_b3 : m_kd S6 b3 = 100 := m_kd_pre hp hk_b3 (by decide)
  refine mj_istore_n dX10_shareOf_23 rfl (by decide) rfl rfl ?_
  refine mj_aload_n dX10_shareOf_24 rfl rfl ?_
  refine mj_iload_n dX10_shareOf_25 rfl rfl ?_
  refine mj_callVi (as := [.int r5]) (st := []) dX10_shareOf_26 cal_X10_lordIn lk_X10_223 im_X10_lordIn se_X10_lordIn (ci := 9) rfl (by decide) hk_a0 h rfl (Nat.le_of_ble_eq_true rfl) (by decide) ⟨Nat.le_of_ble_eq_true rfl, Nat.le_of_ble_eq_true rfl⟩ (fun S8 r9 h hn_r9 hp => ?_)
  have hk_a0 : m_kd S8 a0 = 9 := m_kd_pre hp hk_a0 (by decide)
  have hk_b1 : m_kd S8 b1 = 0 := m_kd_pre hp hk_b1 (by decide)
  have hk_b2 : m_kd S8 b2 = 7 := m_kd_pre hp hk_b2 (by decide)
  have hk_b3 : m_kd S8 b3 = 100 := m_kd_pre hp hk_b3 (by decide)
  refine mj_iload_n dX10_shareOf_29 rfl rfl ?_
  refine mj_icmp_ne (tgt := 39) dX10_shareOf_30 (by decide) ⟨fun hc => ?_, fun hc => ?_⟩
  · replace h := h.1 hc
    refine mj_iload_n dX10_shareOf_39 rfl rfl ?_
    exact mj_reti dX10_shareOf_40 rfl ⟨Nat.le_of_ble_eq_true rfl, Nat.le_of_ble_eq_true rfl⟩ h
  · replace h := h.2 hc
    refine mj_iconst (v := 2) dX10_shareOf_33 (by decide) ?_
    refine mj_iload_n dX10_shareOf_34 rfl rfl ?_
    refine mj_imul dX10_shareOf_35 ?_
    refine mj_goto (tgt := 40) dX10_shareOf_36 (by decide) ?_
    exact mj_reti dX10_shareOf_40 rfl ⟨Nat.le_of_ble_eq_true rfl, Nat.le_of_ble_eq_true rfl⟩ h
abbrev V_X10_game_0 (l : Launch) (G : mj_G) (a0 : Nat) (x1 : Int32) (x2 : Int32) (x3 : Int32) (x4 : Int32) (x5 : Int32) (S : mj_S) (Q : mj_S → Int32 → Prop) : Prop := mj_V l G (mj_room 5 0 0) RX10 cX10_game 8 (some .int) false 0 [some (.ref a0), some (.int x1), some (.int x2), some (.int x3), some (.int x4), some (.int x5), none, none] [] S 0 0 (mj_std G (some .int) (mj_room 5 0 0) (mj_qi Q))
abbrev V_X10_game_122 (l : Launch) (G : mj_G) (c0 : Nat) (s1 : Int32) (S : mj_S) (Q : mj_S → Int32 → Prop) : Prop := mj_V l G (mj_room 5 0 0) RX10 cX10_game 8 (some .int) false 122 [none, none, none, none, none, none, none, none] [.int s1, .ref c0] S 0 0 (mj_std G (some .int) (mj_room 5 0 0) (mj_qi Q))
theorem e_X10_game {l : Launch} {G : mj_G} {a0 : Nat} {x1 : Int32} {x2 : Int32} {x3 : Int32} {x4 : Int32} {x5 : Int32} {S : mj_S} {Q : mj_S → Int32 → Prop} (h : V_X10_game_0 l G a0 x1 x2 x3 x4 x5 S Q) : M_X10_game l G a0 x1 x2 x3 x4 x5 S Q := mj_enter (r := 2) (ini := false) (by decide +kernel) (fun h => by cases h) (fun _ => Nat.le_of_ble_eq_true rfl) rfl h
set_option maxRecDepth 20000 in
set_option maxHeartbeats 1000000 in
theorem b_X10_game_0 {l : Launch} {G : mj_G} {a0 : Nat} {x1 : Int32} {x2 : Int32} {x3 : Int32} {x4 : Int32} {x5 : Int32} {S : mj_S} {Q : mj_S → Int32 → Prop} (hk_a0 : m_kd S a0 = 9) (h : M_X10_arePlayers l G a0 x1 x2 S (fun S1 r2 => ((r2 = 0) → Q S1 (-1000000 : Int32)) ∧ ((¬ (r2 = 0)) → M_X10_within l G x5 (0 : Int32) (1 : Int32) S1 (fun S3 r4 => ((r4 = 0) → Q S3 (-1000000 : Int32)) ∧ ((¬ (r4 = 0)) → ∃ b5, m_gp S3 a0 5 = some b5 ∧ (M_X10_within l G x3 (0 : Int32) (m_gi S3 b5 7) S3 (fun S6 r7 => ((r7 = 0) → Q S6 (-1000000 : Int32)) ∧ ((¬ (r7 = 0)) → ∃ b8, m_gp S6 a0 5 = some b8 ∧ (M_X10_within l G x4 (0 : Int32) (m_gi S6 b8 7) S6 (fun S9 r10 => ((¬ r10 = 0) → ∃ b11, m_gp S9 a0 7 = some b11 ∧ (M_X8_fallen l G b11 S9 (fun S12 r13 => M_X10_rightsOf l G a0 x1 S12 (fun S14 r15 => M_X10_rightsOf l G a0 x2 S14 (fun S16 r17 => ∀ v18 : Int32, v18 = ((((1 : Int32) <<< (x3 &&& 31)) &&& r15) ||| (((1 : Int32) <<< (x4 &&& 31)) &&& r17)) → ∃ b19, m_gp S16 a0 10 = some b19 ∧ (∃ b20, m_gp S16 a0 5 = some b20 ∧ (∃ b21, m_gp S16 a0 7 = some b21 ∧ (M_X8_hung l G b21 S16 (fun S22 r23 => M_X0_part l G b19 b20 (r23 ^^^ (v18 &&& (r13 ^^^ (-1 : Int32)))) S22 (fun S24 => ((¬ x5 = 0) → V_X10_game_122 l G a0 x2 S24 Q) ∧ ((x5 = 0) → V_X10_game_122 l G a0 x1 S24 Q))))))))))) ∧ ((r10 = 0) → Q S9 (-1000000 : Int32)))))))))))) : V_X10_game_0 l G a0 x1 x2 x3 x4 x5 S Q := by
  refine mj_aload_n dX10_game_0 rfl rfl ?_
  refine mj_iload_n dX10_game_1 rfl rfl ?_
  refine mj_iload_n dX10_game_2 rfl rfl ?_
  refine mj_callVi (as := [.int x1, .int x2]) (st := []) dX10_game_3 cal_X10_arePlayers lk_X10_369 im_X10_arePlayers se_X10_arePlayers (ci := 9) rfl (by decide) hk_a0 h rfl (Nat.le_of_ble_eq_true rfl) (by decide) ⟨Nat.le_of_ble_eq_true rfl, Nat.le_of_ble_eq_true rfl⟩ (fun S1 r2 h hn_r2 hp => ?_)
  have hk_a0 : m_kd S1 a0 = 9 := m_kd_pre hp hk_a0 (by decide)
  refine mj_if_eq (tgt := 50) dX10_game_6 (by decide) ⟨fun hc => ?_, fun hc => ?_⟩
  · replace h := h.1 hc
    refine mj_ldcw dX10_game_50 co_X10_372 ?_
    exact mj_reti dX10_game_53 rfl ⟨Nat.le_of_ble_eq_true rfl, Nat.le_of_ble_eq_true rfl⟩ h
  · replace h := h.2 hc
    refine mj_iload dX10_game_9 rfl ?_
    refine mj_iconst (v := 0) dX10_game_11 (by decide) ?_
    refine mj_iconst (v := 1) dX10_game_12 (by decide) ?_
    refine mj_callSi (as := [.int x5, .int (0 : Int32), .int (1 : Int32)]) (st := []) dX10_game_13 cal_X10_within lk_X10_204 sm_X10_within h rfl (Nat.le_of_ble_eq_true rfl) (by decide) ⟨Nat.le_of_ble_eq_true rfl, Nat.le_of_ble_eq_true rfl⟩ (fun S3 r4 h hn_r4 hp => ?_)
    have hk_a0 : m_kd S3 a0 = 9 := m_kd_pre hp hk_a0 (by decide)
    refine mj_if_eq (tgt := 50) dX10_game_16 (by decide) ⟨fun hc => ?_, fun hc => ?_⟩
    · replace h := h.1 hc
      refine mj_ldcw dX10_game_50 co_X10_372 ?_
      exact mj_reti dX10_game_53 rfl ⟨Nat.le_of_ble_eq_true rfl, Nat.le_of_ble_eq_true rfl⟩ h
    · replace h := h.2 hc
      refine mj_iload_n dX10_game_19 rfl rfl ?_
      refine mj_iconst (v := 0) dX10_game_20 (by decide) ?_
      refine mj_aload_n dX10_game_21 rfl rfl ?_
      obtain ⟨b5, eb5, h⟩ := h
      refine mj_getP dX10_game_22 fl_X10_41_9 hk_a0 rfl ⟨b5, eb5, fun hk_b5 => ?_⟩
      refine mj_getI dX10_game_25 fl_X10_146_5 hk_b5 rfl ?_
      refine mj_callSi (as := [.int x3, .int (0 : Int32), .int (m_gi S3 b5 7)]) (st := []) dX10_game_28 cal_X10_within lk_X10_204 sm_X10_within h rfl (Nat.le_of_ble_eq_true rfl) (by decide) ⟨Nat.le_of_ble_eq_true rfl, Nat.le_of_ble_eq_true rfl⟩ (fun S6 r7 h hn_r7 hp => ?_)
      have hk_a0 : m_kd S6 a0 = 9 := m_kd_pre hp hk_a0 (by decide)
      have hk_b5 : m_kd S6 b5 = 5 := m_kd_pre hp hk_b5 (by decide)
      refine mj_if_eq (tgt := 50) dX10_game_31 (by decide) ⟨fun hc => ?_, fun hc => ?_⟩
      · replace h := h.1 hc
        refine mj_ldcw dX10_game_50 co_X10_372 ?_
        exact mj_reti dX10_game_53 rfl ⟨Nat.le_of_ble_eq_true rfl, Nat.le_of_ble_eq_true rfl⟩ h
      · replace h := h.2 hc
        refine mj_iload dX10_game_34 rfl ?_
        refine mj_iconst (v := 0) dX10_game_36 (by decide) ?_
        refine mj_aload_n dX10_game_37 rfl rfl ?_
        obtain ⟨b8, eb8, h⟩ := h
        refine mj_getP dX10_game_38 fl_X10_41_9 hk_a0 rfl ⟨b8, eb8, fun hk_b8 => ?_⟩
        refine mj_getI dX10_game_41 fl_X10_146_5 hk_b8 rfl ?_
        refine mj_callSi (as := [.int x4, .int (0 : Int32), .int (m_gi S6 b8 7)]) (st := []) dX10_game_44 cal_X10_within lk_X10_204 sm_X10_within h rfl (Nat.le_of_ble_eq_true rfl) (by decide) ⟨Nat.le_of_ble_eq_true rfl, Nat.le_of_ble_eq_true rfl⟩ (fun S9 r10 h hn_r10 hp => ?_)
        have hk_a0 : m_kd S9 a0 = 9 := m_kd_pre hp hk_a0 (by decide)
        have hk_b5 : m_kd S9 b5 = 5 := m_kd_pre hp hk_b5 (by decide)
        have hk_b8 : m_kd S9 b8 = 5 := m_kd_pre hp hk_b8 (by decide)
        refine mj_if_ne (tgt := 54) dX10_game_47 (by decide) ⟨fun hc => ?_, fun hc => ?_⟩
        · replace h := h.1 hc
          refine mj_aload_n dX10_game_54 rfl rfl ?_
          obtain ⟨b11, eb11, h⟩ := h
          refine mj_getP dX10_game_55 fl_X10_51_9 hk_a0 rfl ⟨b11, eb11, fun hk_b11 => ?_⟩
          refine mj_callVi (as := []) (st := []) dX10_game_58 cal_X8_fallen lk_X10_320 im_X8_fallen se_X8_fallen (ci := 7) rfl (by decide) hk_b11 h rfl (Nat.le_of_ble_eq_true rfl) (by decide) ⟨Nat.le_of_ble_eq_true rfl, Nat.le_of_ble_eq_true rfl⟩ (fun S12 r13 h hn_r13 hp => ?_)
          have hk_a0 : m_kd S12 a0 = 9 := m_kd_pre hp hk_a0 (by decide)
          have hk_b5 : m_kd S12 b5 = 5 := m_kd_pre hp hk_b5 (by decide)
          have hk_b8 : m_kd S12 b8 = 5 := m_kd_pre hp hk_b8 (by decide)
          have hk_b11 : m_kd S12 b11 = 7 := m_kd_pre hp hk_b11 (by decide)
          refine mj_istore dX10_game_61 (by decide) rfl rfl ?_
          refine mj_iconst (v := 1) dX10_game_63 (by decide) ?_
          refine mj_iload_n dX10_game_64 rfl rfl ?_
          refine mj_ishl dX10_game_65 ?_
          refine mj_aload_n dX10_game_66 rfl rfl ?_
          refine mj_iload_n dX10_game_67 rfl rfl ?_
          refine mj_callVi (as := [.int x1]) (st := [.int ((1 : Int32) <<< (x3 &&& 31))]) dX10_game_68 cal_X10_rightsOf lk_X10_274 im_X10_rightsOf se_X10_rightsOf (ci := 9) rfl (by decide) hk_a0 h rfl (Nat.le_of_ble_eq_true rfl) (by decide) ⟨Nat.le_of_ble_eq_true rfl, Nat.le_of_ble_eq_true rfl⟩ (fun S14 r15 h hn_r15 hp => ?_)
          have hk_a0 : m_kd S14 a0 = 9 := m_kd_pre hp hk_a0 (by decide)
          have hk_b5 : m_kd S14 b5 = 5 := m_kd_pre hp hk_b5 (by decide)
          have hk_b8 : m_kd S14 b8 = 5 := m_kd_pre hp hk_b8 (by decide)
          have hk_b11 : m_kd S14 b11 = 7 := m_kd_pre hp hk_b11 (by decide)
          refine mj_iand dX10_game_71 ?_
          refine mj_iconst (v := 1) dX10_game_72 (by decide) ?_
          refine mj_iload dX10_game_73 rfl ?_
          refine mj_ishl dX10_game_75 ?_
          refine mj_aload_n dX10_game_76 rfl rfl ?_
          refine mj_iload_n dX10_game_77 rfl rfl ?_
          refine mj_callVi (as := [.int x2]) (st := [.int ((1 : Int32) <<< (x4 &&& 31)), .int (((1 : Int32) <<< (x3 &&& 31)) &&& r15)]) dX10_game_78 cal_X10_rightsOf lk_X10_274 im_X10_rightsOf se_X10_rightsOf (ci := 9) rfl (by decide) hk_a0 h rfl (Nat.le_of_ble_eq_true rfl) (by decide) ⟨Nat.le_of_ble_eq_true rfl, Nat.le_of_ble_eq_true rfl⟩ (fun S16 r17 h hn_r17 hp => ?_)
          have hk_a0 : m_kd S16 a0 = 9 := m_kd_pre hp hk_a0 (by decide)
          have hk_b5 : m_kd S16 b5 = 5 := m_kd_pre hp hk_b5 (by decide)
          have hk_b8 : m_kd S16 b8 = 5 := m_kd_pre hp hk_b8 (by decide)
          have hk_b11 : m_kd S16 b11 = 7 := m_kd_pre hp hk_b11 (by decide)
          refine mj_iand dX10_game_81 ?_
          refine mj_ior dX10_game_82 ?_
          refine mj_nmi (fun v18 ev18 => ?_)
          replace h := h v18 ev18
          refine mj_istore dX10_game_83 (by decide) rfl rfl ?_
          refine mj_aload_n dX10_game_85 rfl rfl ?_
          obtain ⟨b19, eb19, h⟩ := h
          refine mj_getP dX10_game_86 fl_X10_68_9 hk_a0 rfl ⟨b19, eb19, fun hk_b19 => ?_⟩
          refine mj_aload_n dX10_game_89 rfl rfl ?_
          obtain ⟨b20, eb20, h⟩ := h
          refine mj_getP dX10_game_90 fl_X10_41_9 hk_a0 rfl ⟨b20, eb20, fun hk_b20 => ?_⟩
          refine mj_aload_n dX10_game_93 rfl rfl ?_
          obtain ⟨b21, eb21, h⟩ := h
          refine mj_getP dX10_game_94 fl_X10_51_9 hk_a0 rfl ⟨b21, eb21, fun hk_b21 => ?_⟩
          refine mj_callVi (as := []) (st := [.ref b20, .ref b19]) dX10_game_97 cal_X8_hung lk_X10_194 im_X8_hung se_X8_hung (ci := 7) rfl (by decide) hk_b21 h rfl (Nat.le_of_ble_eq_true rfl) (by decide) ⟨Nat.le_of_ble_eq_true rfl, Nat.le_of_ble_eq_true rfl⟩ (fun S22 r23 h hn_r23 hp => ?_)
          have hk_a0 : m_kd S22 a0 = 9 := m_kd_pre hp hk_a0 (by decide)
          have hk_b5 : m_kd S22 b5 = 5 := m_kd_pre hp hk_b5 (by decide)
          have hk_b8 : m_kd S22 b8 = 5 := m_kd_pre hp hk_b8 (by decide)
          have hk_b11 : m_kd S22 b11 = 7 := m_kd_pre hp hk_b11 (by decide)
          have hk_b19 : m_kd S22 b19 = 0 := m_kd_pre hp hk_b19 (by decide)
          have hk_b20 : m_kd S22 b20 = 5 := m_kd_pre hp hk_b20 (by decide)
          have hk_b21 : m_kd S22 b21 = 7 := m_kd_pre hp hk_b21 (by decide)
          refine mj_iload dX10_game_100 rfl ?_
          refine mj_iload dX10_game_102 rfl ?_
          refine mj_iconst (v := (-1)) dX10_game_104 (by decide) ?_
          refine mj_ixor dX10_game_105 ?_
          refine mj_iand dX10_game_106 ?_
          refine mj_ixor dX10_game_107 ?_
          refine mj_callVv (as := [.ref b20, .int (r23 ^^^ (v18 &&& (r13 ^^^ (-1 : Int32))))]) (st := []) dX10_game_108 cal_X0_part lk_X10_234 im_X0_part se_X0_part (ci := 0) rfl (by decide) hk_b19 h rfl (Nat.le_of_ble_eq_true rfl) (by decide) ⟨Nat.le_of_ble_eq_true rfl, Nat.le_of_ble_eq_true rfl⟩ (fun S24 h hp => ?_)
          have hk_a0 : m_kd S24 a0 = 9 := m_kd_pre hp hk_a0 (by decide)
          have hk_b5 : m_kd S24 b5 = 5 := m_kd_pre hp hk_b5 (by decide)
          have hk_b8 : m_kd S24 b8 = 5 := m_kd_pre hp hk_b8 (by decide)
          have hk_b11 : m_kd S24 b11 = 7 := m_kd_pre hp hk_b11 (by decide)
          have hk_b19 : m_kd S24 b19 = 0 := m_kd_pre hp hk_b19 (by decide)
          have hk_b20 : m_kd S24 b20 = 5 := m_kd_pre hp hk_b20 (by decide)
          have hk_b21 : m_kd S24 b21 = 7 := m_kd_pre hp hk_b21 (by decide)
          refine mj_aload_n dX10_game_111 rfl rfl ?_
          refine mj_iload dX10_game_112 rfl ?_
          refine mj_if_ne (tgt := 121) dX10_game_114 (by decide) ⟨fun hc => ?_, fun hc => ?_⟩
          · replace h := h.1 hc
            refine mj_iload_n dX10_game_121 rfl rfl ?_
            exact mj_lessm [false, false, false, false, false, false, false, false] rfl h
          · replace h := h.2 hc
            refine mj_iload_n dX10_game_117 rfl rfl ?_
            refine mj_goto (tgt := 122) dX10_game_118 (by decide) ?_
            exact mj_lessm [false, false, false, false, false, false, false, false] rfl h
        · replace h := h.2 hc
          refine mj_ldcw dX10_game_50 co_X10_372 ?_
          exact mj_reti dX10_game_53 rfl ⟨Nat.le_of_ble_eq_true rfl, Nat.le_of_ble_eq_true rfl⟩ h
set_option maxRecDepth 20000 in
set_option maxHeartbeats 1000000 in
theorem b_X10_game_122 {l : Launch} {G : mj_G} {c0 : Nat} {s1 : Int32} {S : mj_S} {Q : mj_S → Int32 → Prop} (hk_c0 : m_kd S c0 = 9) (h : M_X10_shareOf l G c0 s1 S (fun S1 r2 => Q S1 r2)) : V_X10_game_122 l G c0 s1 S Q := by
  refine mj_callVi (as := [.int s1]) (st := []) dX10_game_122 cal_X10_shareOf lk_X10_373 im_X10_shareOf se_X10_shareOf (ci := 9) rfl (by decide) hk_c0 h rfl (Nat.le_of_ble_eq_true rfl) (by decide) ⟨Nat.le_of_ble_eq_true rfl, Nat.le_of_ble_eq_true rfl⟩ (fun S1 r2 h hn_r2 hp => ?_)
  have hk_c0 : m_kd S1 c0 = 9 := m_kd_pre hp hk_c0 (by decide)
  exact mj_reti dX10_game_125 rfl ⟨Nat.le_of_ble_eq_true rfl, Nat.le_of_ble_eq_true rfl⟩ h
abbrev V_X10_playAll_0 (l : Launch) (G : mj_G) (a0 : Nat) (x1 : Int32) (x2 : Int32) (S : mj_S) (Q : mj_S → Prop) : Prop := mj_V l G (mj_room 5 0 0) RX10 cX10_playAll 9 none false 0 [some (.ref a0), some (.int x1), some (.int x2), none, none, none, none, none, none] [] S 0 0 (mj_std G none (mj_room 5 0 0) (mj_qv Q))
abbrev V_X10_playAll_56 (l : Launch) (G : mj_G) (a0 : Nat) (x1 : Int32) (x2 : Int32) (x4 : Int32) (x5 : Int32) (x6 : Int32) (x7 : Int32) (S : mj_S) (Q : mj_S → Prop) : Prop := mj_V l G (mj_room 5 0 0) RX10 cX10_playAll 9 none false 56 [some (.ref a0), some (.int x1), some (.int x2), none, some (.int x4), some (.int x5), some (.int x6), some (.int x7), none] [] S 0 0 (mj_std G none (mj_room 5 0 0) (mj_qv Q))
abbrev V_X10_playAll_71 (l : Launch) (G : mj_G) (a0 : Nat) (x1 : Int32) (x2 : Int32) (x4 : Int32) (x5 : Int32) (x6 : Int32) (x7 : Int32) (x8 : Int32) (S : mj_S) (Q : mj_S → Prop) : Prop := mj_V l G (mj_room 5 0 0) RX10 cX10_playAll 9 none false 71 [some (.ref a0), some (.int x1), some (.int x2), none, some (.int x4), some (.int x5), some (.int x6), some (.int x7), some (.int x8)] [] S 0 0 (mj_std G none (mj_room 5 0 0) (mj_qv Q))
theorem e_X10_playAll {l : Launch} {G : mj_G} {a0 : Nat} {x1 : Int32} {x2 : Int32} {S : mj_S} {Q : mj_S → Prop} (h : V_X10_playAll_0 l G a0 x1 x2 S Q) : M_X10_playAll l G a0 x1 x2 S Q := mj_enter (r := 6) (ini := false) (by decide +kernel) (fun h => by cases h) (fun _ => Nat.le_of_ble_eq_true rfl) rfl h
set_option maxRecDepth 20000 in
set_option maxHeartbeats 1000000 in
theorem b_X10_playAll_0 {l : Launch} {G : mj_G} {a0 : Nat} {x1 : Int32} {x2 : Int32} {S : mj_S} {Q : mj_S → Prop} (hk_a0 : m_kd S a0 = 9) (h : ∃ b1, m_gp S a0 7 = some b1 ∧ (M_X8_fallen l G b1 S (fun S2 r3 => ∀ v4 : Int32, v4 = (r3 ^^^ (-1 : Int32)) → M_X10_rightsOf l G a0 x1 S2 (fun S5 r6 => ∀ v7 : Int32, v7 = (r6 &&& v4) → M_X10_rightsOf l G a0 x2 S5 (fun S8 r9 => ∀ v10 : Int32, v10 = (r9 &&& v4) → ∃ b11, m_gp S8 a0 7 = some b11 ∧ (M_X8_hung l G b11 S8 (fun S12 r13 => ∃ b14, m_gp S12 a0 12 = some b14 ∧ (∃ b15, m_gp S12 a0 5 = some b15 ∧ (M_X9_lay l G b14 ((m_gi S12 b15 7) + (1 : Int32)) S12 (fun S16 => V_X10_playAll_56 l G a0 x1 x2 v7 v10 r13 (0 : Int32) S16 Q)))))))))) : V_X10_playAll_0 l G a0 x1 x2 S Q := by
  refine mj_aload_n dX10_playAll_0 rfl rfl ?_
  obtain ⟨b1, eb1, h⟩ := h
  refine mj_getP dX10_playAll_1 fl_X10_51_9 hk_a0 rfl ⟨b1, eb1, fun hk_b1 => ?_⟩
  refine mj_callVi (as := []) (st := []) dX10_playAll_4 cal_X8_fallen lk_X10_320 im_X8_fallen se_X8_fallen (ci := 7) rfl (by decide) hk_b1 h rfl (Nat.le_of_ble_eq_true rfl) (by decide) ⟨Nat.le_of_ble_eq_true rfl, Nat.le_of_ble_eq_true rfl⟩ (fun S2 r3 h hn_r3 hp => ?_)
  have hk_a0 : m_kd S2 a0 = 9 := m_kd_pre hp hk_a0 (by decide)
  have hk_b1 : m_kd S2 b1 = 7 := m_kd_pre hp hk_b1 (by decide)
  refine mj_iconst (v := (-1)) dX10_playAll_7 (by decide) ?_
  refine mj_ixor dX10_playAll_8 ?_
  refine mj_nmi (fun v4 ev4 => ?_)
  replace h := h v4 ev4
  refine mj_istore_n dX10_playAll_9 rfl (by decide) rfl rfl ?_
  refine mj_aload_n dX10_playAll_10 rfl rfl ?_
  refine mj_iload_n dX10_playAll_11 rfl rfl ?_
  refine mj_callVi (as := [.int x1]) (st := []) dX10_playAll_12 cal_X10_rightsOf lk_X10_274 im_X10_rightsOf se_X10_rightsOf (ci := 9) rfl (by decide) hk_a0 h rfl (Nat.le_of_ble_eq_true rfl) (by decide) ⟨Nat.le_of_ble_eq_true rfl, Nat.le_of_ble_eq_true rfl⟩ (fun S5 r6 h hn_r6 hp => ?_)
  have hk_a0 : m_kd S5 a0 = 9 := m_kd_pre hp hk_a0 (by decide)
  have hk_b1 : m_kd S5 b1 = 7 := m_kd_pre hp hk_b1 (by decide)
  refine mj_iload_n dX10_playAll_15 rfl rfl ?_
  refine mj_iand dX10_playAll_16 ?_
  refine mj_nmi (fun v7 ev7 => ?_)
  replace h := h v7 ev7
  refine mj_istore dX10_playAll_17 (by decide) rfl rfl ?_
  refine mj_aload_n dX10_playAll_19 rfl rfl ?_
  refine mj_iload_n dX10_playAll_20 rfl rfl ?_
  refine mj_callVi (as := [.int x2]) (st := []) dX10_playAll_21 cal_X10_rightsOf lk_X10_274 im_X10_rightsOf se_X10_rightsOf (ci := 9) rfl (by decide) hk_a0 h rfl (Nat.le_of_ble_eq_true rfl) (by decide) ⟨Nat.le_of_ble_eq_true rfl, Nat.le_of_ble_eq_true rfl⟩ (fun S8 r9 h hn_r9 hp => ?_)
  have hk_a0 : m_kd S8 a0 = 9 := m_kd_pre hp hk_a0 (by decide)
  have hk_b1 : m_kd S8 b1 = 7 := m_kd_pre hp hk_b1 (by decide)
  refine mj_iload_n dX10_playAll_24 rfl rfl ?_
  refine mj_iand dX10_playAll_25 ?_
  refine mj_nmi (fun v10 ev10 => ?_)
  replace h := h v10 ev10
  refine mj_istore dX10_playAll_26 (by decide) rfl rfl ?_
  refine mj_aload_n dX10_playAll_28 rfl rfl ?_
  obtain ⟨b11, eb11, h⟩ := h
  refine mj_getP dX10_playAll_29 fl_X10_51_9 hk_a0 rfl ⟨b11, eb11, fun hk_b11 => ?_⟩
  refine mj_callVi (as := []) (st := []) dX10_playAll_32 cal_X8_hung lk_X10_194 im_X8_hung se_X8_hung (ci := 7) rfl (by decide) hk_b11 h rfl (Nat.le_of_ble_eq_true rfl) (by decide) ⟨Nat.le_of_ble_eq_true rfl, Nat.le_of_ble_eq_true rfl⟩ (fun S12 r13 h hn_r13 hp => ?_)
  have hk_a0 : m_kd S12 a0 = 9 := m_kd_pre hp hk_a0 (by decide)
  have hk_b1 : m_kd S12 b1 = 7 := m_kd_pre hp hk_b1 (by decide)
  have hk_b11 : m_kd S12 b11 = 7 := m_kd_pre hp hk_b11 (by decide)
  refine mj_istore dX10_playAll_35 (by decide) rfl rfl ?_
  refine mj_aload_n dX10_playAll_37 rfl rfl ?_
  obtain ⟨b14, eb14, h⟩ := h
  refine mj_getP dX10_playAll_38 fl_X10_82_9 hk_a0 rfl ⟨b14, eb14, fun hk_b14 => ?_⟩
  refine mj_aload_n dX10_playAll_41 rfl rfl ?_
  obtain ⟨b15, eb15, h⟩ := h
  refine mj_getP dX10_playAll_42 fl_X10_41_9 hk_a0 rfl ⟨b15, eb15, fun hk_b15 => ?_⟩
  refine mj_getI dX10_playAll_45 fl_X10_146_5 hk_b15 rfl ?_
  refine mj_iconst (v := 1) dX10_playAll_48 (by decide) ?_
  refine mj_iadd dX10_playAll_49 ?_
  refine mj_callVv (as := [.int ((m_gi S12 b15 7) + (1 : Int32))]) (st := []) dX10_playAll_50 cal_X9_lay lk_X10_376 im_X9_lay se_X9_lay (ci := 8) rfl (by decide) hk_b14 h rfl (Nat.le_of_ble_eq_true rfl) (by decide) ⟨Nat.le_of_ble_eq_true rfl, Nat.le_of_ble_eq_true rfl⟩ (fun S16 h hp => ?_)
  have hk_a0 : m_kd S16 a0 = 9 := m_kd_pre hp hk_a0 (by decide)
  have hk_b1 : m_kd S16 b1 = 7 := m_kd_pre hp hk_b1 (by decide)
  have hk_b11 : m_kd S16 b11 = 7 := m_kd_pre hp hk_b11 (by decide)
  have hk_b14 : m_kd S16 b14 = 8 := m_kd_pre hp hk_b14 (by decide)
  have hk_b15 : m_kd S16 b15 = 5 := m_kd_pre hp hk_b15 (by decide)
  refine mj_iconst (v := 0) dX10_playAll_53 (by decide) ?_
  refine mj_istore dX10_playAll_54 (by decide) rfl rfl ?_
  exact mj_lessm [true, true, true, false, true, true, true, true, false] rfl h
set_option maxRecDepth 20000 in
set_option maxHeartbeats 1000000 in
theorem b_X10_playAll_56 {l : Launch} {G : mj_G} {a0 : Nat} {x1 : Int32} {x2 : Int32} {x4 : Int32} {x5 : Int32} {x6 : Int32} {x7 : Int32} {S : mj_S} {Q : mj_S → Prop} (hk_a0 : m_kd S a0 = 9) (h : ∃ b1, m_gp S a0 5 = some b1 ∧ ((((m_gi S b1 7) < x7) → Q S) ∧ ((¬ ((m_gi S b1 7) < x7)) → V_X10_playAll_71 l G a0 x1 x2 x4 x5 x6 x7 (0 : Int32) S Q))) : V_X10_playAll_56 l G a0 x1 x2 x4 x5 x6 x7 S Q := by
  refine mj_iload dX10_playAll_56 rfl ?_
  refine mj_aload_n dX10_playAll_58 rfl rfl ?_
  obtain ⟨b1, eb1, h⟩ := h
  refine mj_getP dX10_playAll_59 fl_X10_41_9 hk_a0 rfl ⟨b1, eb1, fun hk_b1 => ?_⟩
  refine mj_getI dX10_playAll_62 fl_X10_146_5 hk_b1 rfl ?_
  refine mj_icmp_gt (tgt := 145) dX10_playAll_65 (by decide) ⟨fun hc => ?_, fun hc => ?_⟩
  · replace h := h.1 hc
    exact mj_retv dX10_playAll_145 rfl ⟨Nat.le_of_ble_eq_true rfl, Nat.le_of_ble_eq_true rfl⟩ h
  · replace h := h.2 hc
    refine mj_iconst (v := 0) dX10_playAll_68 (by decide) ?_
    refine mj_istore dX10_playAll_69 (by decide) rfl rfl ?_
    exact h
set_option maxRecDepth 20000 in
set_option maxHeartbeats 1000000 in
theorem b_X10_playAll_71 {l : Launch} {G : mj_G} {a0 : Nat} {x1 : Int32} {x2 : Int32} {x4 : Int32} {x5 : Int32} {x6 : Int32} {x7 : Int32} {x8 : Int32} {S : mj_S} {Q : mj_S → Prop} (hk_a0 : m_kd S a0 = 9) (h : ∃ b1, m_gp S a0 5 = some b1 ∧ ((((m_gi S b1 7) < x8) → ∀ v2 : Int32, v2 = x7 + (1 : Int32) → V_X10_playAll_56 l G a0 x1 x2 x4 x5 x6 v2 S Q) ∧ ((¬ ((m_gi S b1 7) < x8)) → ∃ b3, m_gp S a0 10 = some b3 ∧ (∃ b4, m_gp S a0 5 = some b4 ∧ (M_X0_part l G b3 b4 (x6 ^^^ ((((1 : Int32) <<< (x7 &&& 31)) &&& x4) ||| (((1 : Int32) <<< (x8 &&& 31)) &&& x5))) S (fun S5 => ∃ b6, m_gp S5 a0 12 = some b6 ∧ (M_X10_shareOf l G a0 x1 S5 (fun S7 r8 => M_X10_shareOf l G a0 x2 S7 (fun S9 r10 => M_X9_put l G b6 x7 x8 r8 r10 S9 (fun S11 => ∀ v12 : Int32, v12 = x8 + (1 : Int32) → V_X10_playAll_71 l G a0 x1 x2 x4 x5 x6 x7 v12 S11 Q)))))))))) : V_X10_playAll_71 l G a0 x1 x2 x4 x5 x6 x7 x8 S Q := by
  refine mj_iload dX10_playAll_71 rfl ?_
  refine mj_aload_n dX10_playAll_73 rfl rfl ?_
  obtain ⟨b1, eb1, h⟩ := h
  refine mj_getP dX10_playAll_74 fl_X10_41_9 hk_a0 rfl ⟨b1, eb1, fun hk_b1 => ?_⟩
  refine mj_getI dX10_playAll_77 fl_X10_146_5 hk_b1 rfl ?_
  refine mj_icmp_gt (tgt := 139) dX10_playAll_80 (by decide) ⟨fun hc => ?_, fun hc => ?_⟩
  · replace h := h.1 hc
    obtain ⟨v2, ev2⟩ : ∃ z : Int32, z = x7 + (1 : Int32) := ⟨_, rfl⟩
    refine mj_iinc (v := v2) dX10_playAll_139 rfl (by rw [ev2]; rfl) (by decide) rfl rfl ?_
    replace h := h v2 ev2
    refine mj_goto (tgt := 56) dX10_playAll_142 (by decide) ?_
    exact mj_lessm [true, true, true, false, true, true, true, true, false] rfl h
  · replace h := h.2 hc
    refine mj_aload_n dX10_playAll_83 rfl rfl ?_
    obtain ⟨b3, eb3, h⟩ := h
    refine mj_getP dX10_playAll_84 fl_X10_68_9 hk_a0 rfl ⟨b3, eb3, fun hk_b3 => ?_⟩
    refine mj_aload_n dX10_playAll_87 rfl rfl ?_
    obtain ⟨b4, eb4, h⟩ := h
    refine mj_getP dX10_playAll_88 fl_X10_41_9 hk_a0 rfl ⟨b4, eb4, fun hk_b4 => ?_⟩
    refine mj_iload dX10_playAll_91 rfl ?_
    refine mj_iconst (v := 1) dX10_playAll_93 (by decide) ?_
    refine mj_iload dX10_playAll_94 rfl ?_
    refine mj_ishl dX10_playAll_96 ?_
    refine mj_iload dX10_playAll_97 rfl ?_
    refine mj_iand dX10_playAll_99 ?_
    refine mj_iconst (v := 1) dX10_playAll_100 (by decide) ?_
    refine mj_iload dX10_playAll_101 rfl ?_
    refine mj_ishl dX10_playAll_103 ?_
    refine mj_iload dX10_playAll_104 rfl ?_
    refine mj_iand dX10_playAll_106 ?_
    refine mj_ior dX10_playAll_107 ?_
    refine mj_ixor dX10_playAll_108 ?_
    refine mj_callVv (as := [.ref b4, .int (x6 ^^^ ((((1 : Int32) <<< (x7 &&& 31)) &&& x4) ||| (((1 : Int32) <<< (x8 &&& 31)) &&& x5)))]) (st := []) dX10_playAll_109 cal_X0_part lk_X10_234 im_X0_part se_X0_part (ci := 0) rfl (by decide) hk_b3 h rfl (Nat.le_of_ble_eq_true rfl) (by decide) ⟨Nat.le_of_ble_eq_true rfl, Nat.le_of_ble_eq_true rfl⟩ (fun S5 h hp => ?_)
    have hk_a0 : m_kd S5 a0 = 9 := m_kd_pre hp hk_a0 (by decide)
    have hk_b1 : m_kd S5 b1 = 5 := m_kd_pre hp hk_b1 (by decide)
    have hk_b3 : m_kd S5 b3 = 0 := m_kd_pre hp hk_b3 (by decide)
    have hk_b4 : m_kd S5 b4 = 5 := m_kd_pre hp hk_b4 (by decide)
    refine mj_aload_n dX10_playAll_112 rfl rfl ?_
    obtain ⟨b6, eb6, h⟩ := h
    refine mj_getP dX10_playAll_113 fl_X10_82_9 hk_a0 rfl ⟨b6, eb6, fun hk_b6 => ?_⟩
    refine mj_iload dX10_playAll_116 rfl ?_
    refine mj_iload dX10_playAll_118 rfl ?_
    refine mj_aload_n dX10_playAll_120 rfl rfl ?_
    refine mj_iload_n dX10_playAll_121 rfl rfl ?_
    refine mj_callVi (as := [.int x1]) (st := [.int x8, .int x7, .ref b6]) dX10_playAll_122 cal_X10_shareOf lk_X10_373 im_X10_shareOf se_X10_shareOf (ci := 9) rfl (by decide) hk_a0 h rfl (Nat.le_of_ble_eq_true rfl) (by decide) ⟨Nat.le_of_ble_eq_true rfl, Nat.le_of_ble_eq_true rfl⟩ (fun S7 r8 h hn_r8 hp => ?_)
    have hk_a0 : m_kd S7 a0 = 9 := m_kd_pre hp hk_a0 (by decide)
    have hk_b1 : m_kd S7 b1 = 5 := m_kd_pre hp hk_b1 (by decide)
    have hk_b3 : m_kd S7 b3 = 0 := m_kd_pre hp hk_b3 (by decide)
    have hk_b4 : m_kd S7 b4 = 5 := m_kd_pre hp hk_b4 (by decide)
    have hk_b6 : m_kd S7 b6 = 8 := m_kd_pre hp hk_b6 (by decide)
    refine mj_aload_n dX10_playAll_125 rfl rfl ?_
    refine mj_iload_n dX10_playAll_126 rfl rfl ?_
    refine mj_callVi (as := [.int x2]) (st := [.int r8, .int x8, .int x7, .ref b6]) dX10_playAll_127 cal_X10_shareOf lk_X10_373 im_X10_shareOf se_X10_shareOf (ci := 9) rfl (by decide) hk_a0 h rfl (Nat.le_of_ble_eq_true rfl) (by decide) ⟨Nat.le_of_ble_eq_true rfl, Nat.le_of_ble_eq_true rfl⟩ (fun S9 r10 h hn_r10 hp => ?_)
    have hk_a0 : m_kd S9 a0 = 9 := m_kd_pre hp hk_a0 (by decide)
    have hk_b1 : m_kd S9 b1 = 5 := m_kd_pre hp hk_b1 (by decide)
    have hk_b3 : m_kd S9 b3 = 0 := m_kd_pre hp hk_b3 (by decide)
    have hk_b4 : m_kd S9 b4 = 5 := m_kd_pre hp hk_b4 (by decide)
    have hk_b6 : m_kd S9 b6 = 8 := m_kd_pre hp hk_b6 (by decide)
    refine mj_callVv (as := [.int x7, .int x8, .int r8, .int r10]) (st := []) dX10_playAll_130 cal_X9_put lk_X10_379 im_X9_put se_X9_put (ci := 8) rfl (by decide) hk_b6 h rfl (Nat.le_of_ble_eq_true rfl) (by decide) ⟨Nat.le_of_ble_eq_true rfl, Nat.le_of_ble_eq_true rfl⟩ (fun S11 h hp => ?_)
    have hk_a0 : m_kd S11 a0 = 9 := m_kd_pre hp hk_a0 (by decide)
    have hk_b1 : m_kd S11 b1 = 5 := m_kd_pre hp hk_b1 (by decide)
    have hk_b3 : m_kd S11 b3 = 0 := m_kd_pre hp hk_b3 (by decide)
    have hk_b4 : m_kd S11 b4 = 5 := m_kd_pre hp hk_b4 (by decide)
    have hk_b6 : m_kd S11 b6 = 8 := m_kd_pre hp hk_b6 (by decide)
    obtain ⟨v12, ev12⟩ : ∃ z : Int32, z = x8 + (1 : Int32) := ⟨_, rfl⟩
    refine mj_iinc (v := v12) dX10_playAll_133 rfl (by rw [ev12]; rfl) (by decide) rfl rfl ?_
    replace h := h v12 ev12
    refine mj_goto (tgt := 71) dX10_playAll_136 (by decide) ?_
    exact h
abbrev V_X10_rests_0 (l : Launch) (G : mj_G) (a0 : Nat) (x1 : Int32) (x2 : Int32) (x3 : Int32) (S : mj_S) (Q : mj_S → Int32 → Prop) : Prop := mj_V l G (mj_room 6 0 0) RX10 cX10_rests 7 (some .int) false 0 [some (.ref a0), some (.int x1), some (.int x2), some (.int x3), none, none, none] [] S 0 0 (mj_std G (some .int) (mj_room 6 0 0) (mj_qi Q))
abbrev V_X10_rests_28 (l : Launch) (G : mj_G) (a0 : Nat) (x3 : Int32) (x4 : Int32) (x5 : Int32) (S : mj_S) (Q : mj_S → Int32 → Prop) : Prop := mj_V l G (mj_room 6 0 0) RX10 cX10_rests 7 (some .int) false 28 [some (.ref a0), none, none, some (.int x3), some (.int x4), some (.int x5), none] [] S 0 0 (mj_std G (some .int) (mj_room 6 0 0) (mj_qi Q))
abbrev V_X10_rests_43 (l : Launch) (G : mj_G) (a0 : Nat) (x3 : Int32) (x4 : Int32) (x5 : Int32) (x6 : Int32) (S : mj_S) (Q : mj_S → Int32 → Prop) : Prop := mj_V l G (mj_room 6 0 0) RX10 cX10_rests 7 (some .int) false 43 [some (.ref a0), none, none, some (.int x3), some (.int x4), some (.int x5), some (.int x6)] [] S 0 0 (mj_std G (some .int) (mj_room 6 0 0) (mj_qi Q))
theorem e_X10_rests {l : Launch} {G : mj_G} {a0 : Nat} {x1 : Int32} {x2 : Int32} {x3 : Int32} {S : mj_S} {Q : mj_S → Int32 → Prop} (h : V_X10_rests_0 l G a0 x1 x2 x3 S Q) : M_X10_rests l G a0 x1 x2 x3 S Q := mj_enter (r := 3) (ini := false) (by decide +kernel) (fun h => by cases h) (fun _ => Nat.le_of_ble_eq_true rfl) rfl h
set_option maxRecDepth 20000 in
set_option maxHeartbeats 1000000 in
theorem b_X10_rests_0 {l : Launch} {G : mj_G} {a0 : Nat} {x1 : Int32} {x2 : Int32} {x3 : Int32} {S : mj_S} {Q : mj_S → Int32 → Prop} (hk_a0 : m_kd S a0 = 9) (h : M_X10_arePlayers l G a0 x1 x2 S (fun S1 r2 => ((r2 = 0) → Q S1 (-1 : Int32)) ∧ ((¬ (r2 = 0)) → (((-1 : Int32) ≤ x3) → M_X10_playAll l G a0 x1 x2 S1 (fun S3 => V_X10_rests_28 l G a0 x3 (0 : Int32) (0 : Int32) S3 Q)) ∧ ((¬ ((-1 : Int32) ≤ x3)) → Q S1 (-1 : Int32))))) : V_X10_rests_0 l G a0 x1 x2 x3 S Q := by
  refine mj_aload_n dX10_rests_0 rfl rfl ?_
  refine mj_iload_n dX10_rests_1 rfl rfl ?_
  refine mj_iload_n dX10_rests_2 rfl rfl ?_
  refine mj_callVi (as := [.int x1, .int x2]) (st := []) dX10_rests_3 cal_X10_arePlayers lk_X10_369 im_X10_arePlayers se_X10_arePlayers (ci := 9) rfl (by decide) hk_a0 h rfl (Nat.le_of_ble_eq_true rfl) (by decide) ⟨Nat.le_of_ble_eq_true rfl, Nat.le_of_ble_eq_true rfl⟩ (fun S1 r2 h hn_r2 hp => ?_)
  have hk_a0 : m_kd S1 a0 = 9 := m_kd_pre hp hk_a0 (by decide)
  refine mj_if_eq (tgt := 14) dX10_rests_6 (by decide) ⟨fun hc => ?_, fun hc => ?_⟩
  · replace h := h.1 hc
    refine mj_iconst (v := (-1)) dX10_rests_14 (by decide) ?_
    exact mj_reti dX10_rests_15 rfl ⟨Nat.le_of_ble_eq_true rfl, Nat.le_of_ble_eq_true rfl⟩ h
  · replace h := h.2 hc
    refine mj_iload_n dX10_rests_9 rfl rfl ?_
    refine mj_iconst (v := (-1)) dX10_rests_10 (by decide) ?_
    refine mj_icmp_ge (tgt := 16) dX10_rests_11 (by decide) ⟨fun hc => ?_, fun hc => ?_⟩
    · replace h := h.1 hc
      refine mj_aload_n dX10_rests_16 rfl rfl ?_
      refine mj_iload_n dX10_rests_17 rfl rfl ?_
      refine mj_iload_n dX10_rests_18 rfl rfl ?_
      refine mj_callVv (as := [.int x1, .int x2]) (st := []) dX10_rests_19 cal_X10_playAll lk_X10_381 im_X10_playAll se_X10_playAll (ci := 9) rfl (by decide) hk_a0 h rfl (Nat.le_of_ble_eq_true rfl) (by decide) ⟨Nat.le_of_ble_eq_true rfl, Nat.le_of_ble_eq_true rfl⟩ (fun S3 h hp => ?_)
      have hk_a0 : m_kd S3 a0 = 9 := m_kd_pre hp hk_a0 (by decide)
      refine mj_iconst (v := 0) dX10_rests_22 (by decide) ?_
      refine mj_istore dX10_rests_23 (by decide) rfl rfl ?_
      refine mj_iconst (v := 0) dX10_rests_25 (by decide) ?_
      refine mj_istore dX10_rests_26 (by decide) rfl rfl ?_
      exact mj_lessm [true, false, false, true, true, true, false] rfl h
    · replace h := h.2 hc
      refine mj_iconst (v := (-1)) dX10_rests_14 (by decide) ?_
      exact mj_reti dX10_rests_15 rfl ⟨Nat.le_of_ble_eq_true rfl, Nat.le_of_ble_eq_true rfl⟩ h
set_option maxRecDepth 20000 in
set_option maxHeartbeats 1000000 in
theorem b_X10_rests_28 {l : Launch} {G : mj_G} {a0 : Nat} {x3 : Int32} {x4 : Int32} {x5 : Int32} {S : mj_S} {Q : mj_S → Int32 → Prop} (hk_a0 : m_kd S a0 = 9) (h : ∃ b1, m_gp S a0 5 = some b1 ∧ ((((m_gi S b1 7) < x5) → ((¬ x3 = (-1 : Int32)) → Q S (-1 : Int32)) ∧ ((x3 = (-1 : Int32)) → Q S x4)) ∧ ((¬ ((m_gi S b1 7) < x5)) → V_X10_rests_43 l G a0 x3 x4 x5 (0 : Int32) S Q))) : V_X10_rests_28 l G a0 x3 x4 x5 S Q := by
  refine mj_iload dX10_rests_28 rfl ?_
  refine mj_aload_n dX10_rests_30 rfl rfl ?_
  obtain ⟨b1, eb1, h⟩ := h
  refine mj_getP dX10_rests_31 fl_X10_41_9 hk_a0 rfl ⟨b1, eb1, fun hk_b1 => ?_⟩
  refine mj_getI dX10_rests_34 fl_X10_146_5 hk_b1 rfl ?_
  refine mj_icmp_gt (tgt := 102) dX10_rests_37 (by decide) ⟨fun hc => ?_, fun hc => ?_⟩
  · replace h := h.1 hc
    refine mj_iload_n dX10_rests_102 rfl rfl ?_
    refine mj_iconst (v := (-1)) dX10_rests_103 (by decide) ?_
    refine mj_icmp_ne (tgt := 112) dX10_rests_104 (by decide) ⟨fun hc => ?_, fun hc => ?_⟩
    · replace h := h.1 hc
      refine mj_iconst (v := (-1)) dX10_rests_112 (by decide) ?_
      exact mj_reti dX10_rests_113 rfl ⟨Nat.le_of_ble_eq_true rfl, Nat.le_of_ble_eq_true rfl⟩ h
    · replace h := h.2 hc
      refine mj_iload dX10_rests_107 rfl ?_
      refine mj_goto (tgt := 113) dX10_rests_109 (by decide) ?_
      exact mj_reti dX10_rests_113 rfl ⟨Nat.le_of_ble_eq_true rfl, Nat.le_of_ble_eq_true rfl⟩ h
  · replace h := h.2 hc
    refine mj_iconst (v := 0) dX10_rests_40 (by decide) ?_
    refine mj_istore dX10_rests_41 (by decide) rfl rfl ?_
    exact h
set_option maxRecDepth 20000 in
set_option maxHeartbeats 1000000 in
theorem b_X10_rests_43 {l : Launch} {G : mj_G} {a0 : Nat} {x3 : Int32} {x4 : Int32} {x5 : Int32} {x6 : Int32} {S : mj_S} {Q : mj_S → Int32 → Prop} (hk_a0 : m_kd S a0 = 9) (h : ∃ b1, m_gp S a0 5 = some b1 ∧ ((((m_gi S b1 7) < x6) → ∀ v2 : Int32, v2 = x5 + (1 : Int32) → V_X10_rests_28 l G a0 x3 x4 v2 S Q) ∧ ((¬ ((m_gi S b1 7) < x6)) → ∃ b3, m_gp S a0 12 = some b3 ∧ (M_X9_restsAt l G b3 x5 x6 S (fun S4 r5 => ((¬ r5 = 0) → ((¬ x4 = x3) → ∀ v6 : Int32, v6 = x4 + (1 : Int32) → ∀ v7 : Int32, v7 = x6 + (1 : Int32) → V_X10_rests_43 l G a0 x3 v6 x5 v7 S4 Q) ∧ ((x4 = x3) → Q S4 (((10 : Int32) * x5) + x6))) ∧ ((r5 = 0) → ∀ v8 : Int32, v8 = x6 + (1 : Int32) → V_X10_rests_43 l G a0 x3 x4 x5 v8 S4 Q)))))) : V_X10_rests_43 l G a0 x3 x4 x5 x6 S Q := by
  refine mj_iload dX10_rests_43 rfl ?_
  refine mj_aload_n dX10_rests_45 rfl rfl ?_
  obtain ⟨b1, eb1, h⟩ := h
  refine mj_getP dX10_rests_46 fl_X10_41_9 hk_a0 rfl ⟨b1, eb1, fun hk_b1 => ?_⟩
  refine mj_getI dX10_rests_49 fl_X10_146_5 hk_b1 rfl ?_
  refine mj_icmp_gt (tgt := 96) dX10_rests_52 (by decide) ⟨fun hc => ?_, fun hc => ?_⟩
  · replace h := h.1 hc
    obtain ⟨v2, ev2⟩ : ∃ z : Int32, z = x5 + (1 : Int32) := ⟨_, rfl⟩
    refine mj_iinc (v := v2) dX10_rests_96 rfl (by rw [ev2]; rfl) (by decide) rfl rfl ?_
    replace h := h v2 ev2
    refine mj_goto (tgt := 28) dX10_rests_99 (by decide) ?_
    exact mj_lessm [true, false, false, true, true, true, false] rfl h
  · replace h := h.2 hc
    refine mj_aload_n dX10_rests_55 rfl rfl ?_
    obtain ⟨b3, eb3, h⟩ := h
    refine mj_getP dX10_rests_56 fl_X10_82_9 hk_a0 rfl ⟨b3, eb3, fun hk_b3 => ?_⟩
    refine mj_iload dX10_rests_59 rfl ?_
    refine mj_iload dX10_rests_61 rfl ?_
    refine mj_callVi (as := [.int x5, .int x6]) (st := []) dX10_rests_63 cal_X9_restsAt lk_X10_385 im_X9_restsAt se_X9_restsAt (ci := 8) rfl (by decide) hk_b3 h rfl (Nat.le_of_ble_eq_true rfl) (by decide) ⟨Nat.le_of_ble_eq_true rfl, Nat.le_of_ble_eq_true rfl⟩ (fun S4 r5 h hn_r5 hp => ?_)
    have hk_a0 : m_kd S4 a0 = 9 := m_kd_pre hp hk_a0 (by decide)
    have hk_b1 : m_kd S4 b1 = 5 := m_kd_pre hp hk_b1 (by decide)
    have hk_b3 : m_kd S4 b3 = 8 := m_kd_pre hp hk_b3 (by decide)
    refine mj_if_ne (tgt := 72) dX10_rests_66 (by decide) ⟨fun hc => ?_, fun hc => ?_⟩
    · replace h := h.1 hc
      refine mj_iload dX10_rests_72 rfl ?_
      refine mj_iload_n dX10_rests_74 rfl rfl ?_
      refine mj_icmp_ne (tgt := 87) dX10_rests_75 (by decide) ⟨fun hc => ?_, fun hc => ?_⟩
      · replace h := h.1 hc
        obtain ⟨v6, ev6⟩ : ∃ z : Int32, z = x4 + (1 : Int32) := ⟨_, rfl⟩
        refine mj_iinc (v := v6) dX10_rests_87 rfl (by rw [ev6]; rfl) (by decide) rfl rfl ?_
        replace h := h v6 ev6
        obtain ⟨v7, ev7⟩ : ∃ z : Int32, z = x6 + (1 : Int32) := ⟨_, rfl⟩
        refine mj_iinc (v := v7) dX10_rests_90 rfl (by rw [ev7]; rfl) (by decide) rfl rfl ?_
        replace h := h v7 ev7
        refine mj_goto (tgt := 43) dX10_rests_93 (by decide) ?_
        exact h
      · replace h := h.2 hc
        refine mj_bipush (v := 10) dX10_rests_78 (by decide) ?_
        refine mj_iload dX10_rests_80 rfl ?_
        refine mj_imul dX10_rests_82 ?_
        refine mj_iload dX10_rests_83 rfl ?_
        refine mj_iadd dX10_rests_85 ?_
        exact mj_reti dX10_rests_86 rfl ⟨Nat.le_of_ble_eq_true rfl, Nat.le_of_ble_eq_true rfl⟩ h
    · replace h := h.2 hc
      refine mj_goto (tgt := 90) dX10_rests_69 (by decide) ?_
      obtain ⟨v8, ev8⟩ : ∃ z : Int32, z = x6 + (1 : Int32) := ⟨_, rfl⟩
      refine mj_iinc (v := v8) dX10_rests_90 rfl (by rw [ev8]; rfl) (by decide) rfl rfl ?_
      replace h := h v8 ev8
      refine mj_goto (tgt := 43) dX10_rests_93 (by decide) ?_
      exact h
abbrev V_X10_treaty_0 (l : Launch) (G : mj_G) (a0 : Nat) (x1 : Int32) (x2 : Int32) (S : mj_S) (Q : mj_S → Int32 → Prop) : Prop := mj_V l G (mj_room 6 0 0) RX10 cX10_treaty 3 (some .int) false 0 [some (.ref a0), some (.int x1), some (.int x2)] [] S 0 0 (mj_std G (some .int) (mj_room 6 0 0) (mj_qi Q))
theorem e_X10_treaty {l : Launch} {G : mj_G} {a0 : Nat} {x1 : Int32} {x2 : Int32} {S : mj_S} {Q : mj_S → Int32 → Prop} (h : V_X10_treaty_0 l G a0 x1 x2 S Q) : M_X10_treaty l G a0 x1 x2 S Q := mj_enter (r := 0) (ini := false) (by decide +kernel) (fun h => by cases h) (fun _ => Nat.le_of_ble_eq_true rfl) rfl h
set_option maxRecDepth 20000 in
set_option maxHeartbeats 1000000 in
theorem b_X10_treaty_0 {l : Launch} {G : mj_G} {a0 : Nat} {x1 : Int32} {x2 : Int32} {S : mj_S} {Q : mj_S → Int32 → Prop} (hk_a0 : m_kd S a0 = 9) (h : M_X10_arePlayers l G a0 x1 x2 S (fun S1 r2 => ((¬ r2 = 0) → M_X10_playAll l G a0 x1 x2 S1 (fun S3 => ∃ b4, m_gp S3 a0 12 = some b4 ∧ (∃ b5, m_gp S3 a0 5 = some b5 ∧ (∃ b6, m_gp S3 a0 5 = some b6 ∧ (M_X9_restsAt l G b4 (m_gi S3 b5 7) (m_gi S3 b6 7) S3 (fun S7 r8 => ((r8 = 0) → Q S7 (0 : Int32)) ∧ ((¬ (r8 = 0)) → Q S7 (1 : Int32)))))))) ∧ ((r2 = 0) → Q S1 (-1 : Int32)))) : V_X10_treaty_0 l G a0 x1 x2 S Q := by
  refine mj_aload_n dX10_treaty_0 rfl rfl ?_
  refine mj_iload_n dX10_treaty_1 rfl rfl ?_
  refine mj_iload_n dX10_treaty_2 rfl rfl ?_
  refine mj_callVi (as := [.int x1, .int x2]) (st := []) dX10_treaty_3 cal_X10_arePlayers lk_X10_369 im_X10_arePlayers se_X10_arePlayers (ci := 9) rfl (by decide) hk_a0 h rfl (Nat.le_of_ble_eq_true rfl) (by decide) ⟨Nat.le_of_ble_eq_true rfl, Nat.le_of_ble_eq_true rfl⟩ (fun S1 r2 h hn_r2 hp => ?_)
  have hk_a0 : m_kd S1 a0 = 9 := m_kd_pre hp hk_a0 (by decide)
  refine mj_if_ne (tgt := 11) dX10_treaty_6 (by decide) ⟨fun hc => ?_, fun hc => ?_⟩
  · replace h := h.1 hc
    refine mj_aload_n dX10_treaty_11 rfl rfl ?_
    refine mj_iload_n dX10_treaty_12 rfl rfl ?_
    refine mj_iload_n dX10_treaty_13 rfl rfl ?_
    refine mj_callVv (as := [.int x1, .int x2]) (st := []) dX10_treaty_14 cal_X10_playAll lk_X10_381 im_X10_playAll se_X10_playAll (ci := 9) rfl (by decide) hk_a0 h rfl (Nat.le_of_ble_eq_true rfl) (by decide) ⟨Nat.le_of_ble_eq_true rfl, Nat.le_of_ble_eq_true rfl⟩ (fun S3 h hp => ?_)
    have hk_a0 : m_kd S3 a0 = 9 := m_kd_pre hp hk_a0 (by decide)
    refine mj_aload_n dX10_treaty_17 rfl rfl ?_
    obtain ⟨b4, eb4, h⟩ := h
    refine mj_getP dX10_treaty_18 fl_X10_82_9 hk_a0 rfl ⟨b4, eb4, fun hk_b4 => ?_⟩
    refine mj_aload_n dX10_treaty_21 rfl rfl ?_
    obtain ⟨b5, eb5, h⟩ := h
    refine mj_getP dX10_treaty_22 fl_X10_41_9 hk_a0 rfl ⟨b5, eb5, fun hk_b5 => ?_⟩
    refine mj_getI dX10_treaty_25 fl_X10_146_5 hk_b5 rfl ?_
    refine mj_aload_n dX10_treaty_28 rfl rfl ?_
    obtain ⟨b6, eb6, h⟩ := h
    refine mj_getP dX10_treaty_29 fl_X10_41_9 hk_a0 rfl ⟨b6, eb6, fun hk_b6 => ?_⟩
    refine mj_getI dX10_treaty_32 fl_X10_146_5 hk_b6 rfl ?_
    refine mj_callVi (as := [.int (m_gi S3 b5 7), .int (m_gi S3 b6 7)]) (st := []) dX10_treaty_35 cal_X9_restsAt lk_X10_385 im_X9_restsAt se_X9_restsAt (ci := 8) rfl (by decide) hk_b4 h rfl (Nat.le_of_ble_eq_true rfl) (by decide) ⟨Nat.le_of_ble_eq_true rfl, Nat.le_of_ble_eq_true rfl⟩ (fun S7 r8 h hn_r8 hp => ?_)
    have hk_a0 : m_kd S7 a0 = 9 := m_kd_pre hp hk_a0 (by decide)
    have hk_b4 : m_kd S7 b4 = 8 := m_kd_pre hp hk_b4 (by decide)
    have hk_b5 : m_kd S7 b5 = 5 := m_kd_pre hp hk_b5 (by decide)
    have hk_b6 : m_kd S7 b6 = 5 := m_kd_pre hp hk_b6 (by decide)
    refine mj_if_eq (tgt := 45) dX10_treaty_38 (by decide) ⟨fun hc => ?_, fun hc => ?_⟩
    · replace h := h.1 hc
      refine mj_iconst (v := 0) dX10_treaty_45 (by decide) ?_
      exact mj_reti dX10_treaty_46 rfl ⟨Nat.le_of_ble_eq_true rfl, Nat.le_of_ble_eq_true rfl⟩ h
    · replace h := h.2 hc
      refine mj_iconst (v := 1) dX10_treaty_41 (by decide) ?_
      refine mj_goto (tgt := 46) dX10_treaty_42 (by decide) ?_
      exact mj_reti dX10_treaty_46 rfl ⟨Nat.le_of_ble_eq_true rfl, Nat.le_of_ble_eq_true rfl⟩ h
  · replace h := h.2 hc
    refine mj_iconst (v := (-1)) dX10_treaty_9 (by decide) ?_
    exact mj_reti dX10_treaty_10 rfl ⟨Nat.le_of_ble_eq_true rfl, Nat.le_of_ble_eq_true rfl⟩ h
abbrev V_X10_air_0 (l : Launch) (G : mj_G) (a0 : Nat) (x1 : Int32) (S : mj_S) (Q : mj_S → Int32 → Prop) : Prop := mj_V l G (mj_room 4 0 0) RX10 cX10_air 5 (some .int) false 0 [some (.ref a0), some (.int x1), none, none, none] [] S 0 0 (mj_std G (some .int) (mj_room 4 0 0) (mj_qi Q))
abbrev V_X10_air_29 (l : Launch) (G : mj_G) (a0 : Nat) (x2 : Int32) (x3 : Int32) (x4 : Int32) (S : mj_S) (Q : mj_S → Int32 → Prop) : Prop := mj_V l G (mj_room 4 0 0) RX10 cX10_air 5 (some .int) false 29 [some (.ref a0), none, some (.int x2), some (.int x3), some (.int x4)] [] S 0 0 (mj_std G (some .int) (mj_room 4 0 0) (mj_qi Q))
theorem e_X10_air {l : Launch} {G : mj_G} {a0 : Nat} {x1 : Int32} {S : mj_S} {Q : mj_S → Int32 → Prop} (h : V_X10_air_0 l G a0 x1 S Q) : M_X10_air l G a0 x1 S Q := mj_enter (r := 3) (ini := false) (by decide +kernel) (fun h => by cases h) (fun _ => Nat.le_of_ble_eq_true rfl) rfl h
set_option maxRecDepth 20000 in
set_option maxHeartbeats 1000000 in
theorem b_X10_air_0 {l : Launch} {G : mj_G} {a0 : Nat} {x1 : Int32} {S : mj_S} {Q : mj_S → Int32 → Prop} (hk_a0 : m_kd S a0 = 9) (h : M_X10_isPerson l G a0 x1 S (fun S1 r2 => ((¬ r2 = 0) → ∃ b3, m_gp S1 a0 7 = some b3 ∧ (∃ b4, m_gp S1 b3 2 = some b4 ∧ (vp_in x1 (m_ln S1 b4) ∧ (M_X10_stateAround l G a0 (m_gi S1 b4 (x1).toNatClampNeg) S1 (fun S5 r6 => V_X10_air_29 l G a0 r6 (0 : Int32) (0 : Int32) S5 Q))))) ∧ ((r2 = 0) → Q S1 (-1 : Int32)))) : V_X10_air_0 l G a0 x1 S Q := by
  refine mj_aload_n dX10_air_0 rfl rfl ?_
  refine mj_iload_n dX10_air_1 rfl rfl ?_
  refine mj_callVi (as := [.int x1]) (st := []) dX10_air_2 cal_X10_isPerson lk_X10_201 im_X10_isPerson se_X10_isPerson (ci := 9) rfl (by decide) hk_a0 h rfl (Nat.le_of_ble_eq_true rfl) (by decide) ⟨Nat.le_of_ble_eq_true rfl, Nat.le_of_ble_eq_true rfl⟩ (fun S1 r2 h hn_r2 hp => ?_)
  have hk_a0 : m_kd S1 a0 = 9 := m_kd_pre hp hk_a0 (by decide)
  refine mj_if_ne (tgt := 10) dX10_air_5 (by decide) ⟨fun hc => ?_, fun hc => ?_⟩
  · replace h := h.1 hc
    refine mj_aload_n dX10_air_10 rfl rfl ?_
    refine mj_aload_n dX10_air_11 rfl rfl ?_
    obtain ⟨b3, eb3, h⟩ := h
    refine mj_getP dX10_air_12 fl_X10_51_9 hk_a0 rfl ⟨b3, eb3, fun hk_b3 => ?_⟩
    obtain ⟨b4, eb4, h⟩ := h
    refine mj_getP dX10_air_15 fl_X10_211_7 hk_b3 rfl ⟨b4, eb4, fun hk_b4 => ?_⟩
    refine mj_iload_n dX10_air_18 rfl rfl ?_
    refine mj_iald dX10_air_19 (Or.inl hk_b4) ⟨h.1, ?_⟩
    replace h := h.2
    refine mj_callVi (as := [.int (m_gi S1 b4 (x1).toNatClampNeg)]) (st := []) dX10_air_20 cal_X10_stateAround lk_X10_217 im_X10_stateAround se_X10_stateAround (ci := 9) rfl (by decide) hk_a0 h rfl (Nat.le_of_ble_eq_true rfl) (by decide) ⟨Nat.le_of_ble_eq_true rfl, Nat.le_of_ble_eq_true rfl⟩ (fun S5 r6 h hn_r6 hp => ?_)
    have hk_a0 : m_kd S5 a0 = 9 := m_kd_pre hp hk_a0 (by decide)
    have hk_b3 : m_kd S5 b3 = 7 := m_kd_pre hp hk_b3 (by decide)
    have hk_b4 : m_kd S5 b4 = 100 := m_kd_pre hp hk_b4 (by decide)
    refine mj_istore_n dX10_air_23 rfl (by decide) rfl rfl ?_
    refine mj_iconst (v := 0) dX10_air_24 (by decide) ?_
    refine mj_istore_n dX10_air_25 rfl (by decide) rfl rfl ?_
    refine mj_iconst (v := 0) dX10_air_26 (by decide) ?_
    refine mj_istore dX10_air_27 (by decide) rfl rfl ?_
    exact mj_lessm [true, false, true, true, true] rfl h
  · replace h := h.2 hc
    refine mj_iconst (v := (-1)) dX10_air_8 (by decide) ?_
    exact mj_reti dX10_air_9 rfl ⟨Nat.le_of_ble_eq_true rfl, Nat.le_of_ble_eq_true rfl⟩ h
set_option maxRecDepth 20000 in
set_option maxHeartbeats 1000000 in
theorem b_X10_air_29 {l : Launch} {G : mj_G} {a0 : Nat} {x2 : Int32} {x3 : Int32} {x4 : Int32} {S : mj_S} {Q : mj_S → Int32 → Prop} (hk_a0 : m_kd S a0 = 9) (h : ∃ b1, m_gp S a0 5 = some b1 ∧ ((((m_gi S b1 15) ≤ x4) → ((x3 ≤ 0) → Q S (-1 : Int32)) ∧ ((¬ (x3 ≤ 0)) → M_J6_bitCount_0f7a4 l G x2 S (fun S2 r3 => ¬ x3 = 0 ∧ (Q S2 (r3 / x3))))) ∧ ((¬ ((m_gi S b1 15) ≤ x4)) → ∃ b4, m_gp S a0 7 = some b4 ∧ (∃ b5, m_gp S b4 2 = some b5 ∧ (vp_in x4 (m_ln S b5) ∧ (M_X10_has l G x2 (m_gi S b5 (x4).toNatClampNeg) S (fun S6 r7 => ((r7 = 0) → ∀ v8 : Int32, v8 = x4 + (1 : Int32) → V_X10_air_29 l G a0 x2 x3 v8 S6 Q) ∧ ((¬ (r7 = 0)) → ∀ v9 : Int32, v9 = x3 + (1 : Int32) → ∀ v10 : Int32, v10 = x4 + (1 : Int32) → V_X10_air_29 l G a0 x2 v9 v10 S6 Q)))))))) : V_X10_air_29 l G a0 x2 x3 x4 S Q := by
  refine mj_iload dX10_air_29 rfl ?_
  refine mj_aload_n dX10_air_31 rfl rfl ?_
  obtain ⟨b1, eb1, h⟩ := h
  refine mj_getP dX10_air_32 fl_X10_41_9 hk_a0 rfl ⟨b1, eb1, fun hk_b1 => ?_⟩
  refine mj_getI dX10_air_35 fl_X10_149_5 hk_b1 rfl ?_
  refine mj_icmp_ge (tgt := 67) dX10_air_38 (by decide) ⟨fun hc => ?_, fun hc => ?_⟩
  · replace h := h.1 hc
    refine mj_iload_n dX10_air_67 rfl rfl ?_
    refine mj_if_le (tgt := 80) dX10_air_68 (by decide) ⟨fun hc => ?_, fun hc => ?_⟩
    · replace h := h.1 hc
      refine mj_iconst (v := (-1)) dX10_air_80 (by decide) ?_
      exact mj_reti dX10_air_81 rfl ⟨Nat.le_of_ble_eq_true rfl, Nat.le_of_ble_eq_true rfl⟩ h
    · replace h := h.2 hc
      refine mj_iload_n dX10_air_71 rfl rfl ?_
      refine mj_callSi (as := [.int x2]) (st := []) dX10_air_72 cal_J6_bitCount_0f7a4 lk_X10_344 sm_J6_bitCount_0f7a4 h rfl (Nat.le_of_ble_eq_true rfl) (by decide) ⟨Nat.le_of_ble_eq_true rfl, Nat.le_of_ble_eq_true rfl⟩ (fun S2 r3 h hn_r3 hp => ?_)
      have hk_a0 : m_kd S2 a0 = 9 := m_kd_pre hp hk_a0 (by decide)
      have hk_b1 : m_kd S2 b1 = 5 := m_kd_pre hp hk_b1 (by decide)
      refine mj_iload_n dX10_air_75 rfl rfl ?_
      refine mj_idiv dX10_air_76 h.1 ?_
      replace h := h.2
      refine mj_goto (tgt := 81) dX10_air_77 (by decide) ?_
      exact mj_reti dX10_air_81 rfl ⟨Nat.le_of_ble_eq_true rfl, Nat.le_of_ble_eq_true rfl⟩ h
  · replace h := h.2 hc
    refine mj_iload_n dX10_air_41 rfl rfl ?_
    refine mj_aload_n dX10_air_42 rfl rfl ?_
    obtain ⟨b4, eb4, h⟩ := h
    refine mj_getP dX10_air_43 fl_X10_51_9 hk_a0 rfl ⟨b4, eb4, fun hk_b4 => ?_⟩
    obtain ⟨b5, eb5, h⟩ := h
    refine mj_getP dX10_air_46 fl_X10_211_7 hk_b4 rfl ⟨b5, eb5, fun hk_b5 => ?_⟩
    refine mj_iload dX10_air_49 rfl ?_
    refine mj_iald dX10_air_51 (Or.inl hk_b5) ⟨h.1, ?_⟩
    replace h := h.2
    refine mj_callSi (as := [.int x2, .int (m_gi S b5 (x4).toNatClampNeg)]) (st := []) dX10_air_52 cal_X10_has lk_X10_190 sm_X10_has h rfl (Nat.le_of_ble_eq_true rfl) (by decide) ⟨Nat.le_of_ble_eq_true rfl, Nat.le_of_ble_eq_true rfl⟩ (fun S6 r7 h hn_r7 hp => ?_)
    have hk_a0 : m_kd S6 a0 = 9 := m_kd_pre hp hk_a0 (by decide)
    have hk_b1 : m_kd S6 b1 = 5 := m_kd_pre hp hk_b1 (by decide)
    have hk_b4 : m_kd S6 b4 = 7 := m_kd_pre hp hk_b4 (by decide)
    have hk_b5 : m_kd S6 b5 = 100 := m_kd_pre hp hk_b5 (by decide)
    refine mj_if_eq (tgt := 61) dX10_air_55 (by decide) ⟨fun hc => ?_, fun hc => ?_⟩
    · replace h := h.1 hc
      obtain ⟨v8, ev8⟩ : ∃ z : Int32, z = x4 + (1 : Int32) := ⟨_, rfl⟩
      refine mj_iinc (v := v8) dX10_air_61 rfl (by rw [ev8]; rfl) (by decide) rfl rfl ?_
      replace h := h v8 ev8
      refine mj_goto (tgt := 29) dX10_air_64 (by decide) ?_
      exact h
    · replace h := h.2 hc
      obtain ⟨v9, ev9⟩ : ∃ z : Int32, z = x3 + (1 : Int32) := ⟨_, rfl⟩
      refine mj_iinc (v := v9) dX10_air_58 rfl (by rw [ev9]; rfl) (by decide) rfl rfl ?_
      replace h := h v9 ev9
      obtain ⟨v10, ev10⟩ : ∃ z : Int32, z = x4 + (1 : Int32) := ⟨_, rfl⟩
      refine mj_iinc (v := v10) dX10_air_61 rfl (by rw [ev10]; rfl) (by decide) rfl rfl ?_
      replace h := h v10 ev10
      refine mj_goto (tgt := 29) dX10_air_64 (by decide) ?_
      exact h
abbrev V_X10_faded_0 (l : Launch) (G : mj_G) (a0 : Nat) (x1 : Int32) (x2 : Int32) (S : mj_S) (Q : mj_S → Int32 → Prop) : Prop := mj_V l G (mj_room 2 0 0) RX10 cX10_faded 3 (some .int) false 0 [some (.ref a0), some (.int x1), some (.int x2)] [] S 0 0 (mj_std G (some .int) (mj_room 2 0 0) (mj_qi Q))
theorem e_X10_faded {l : Launch} {G : mj_G} {a0 : Nat} {x1 : Int32} {x2 : Int32} {S : mj_S} {Q : mj_S → Int32 → Prop} (h : V_X10_faded_0 l G a0 x1 x2 S Q) : M_X10_faded l G a0 x1 x2 S Q := mj_enter (r := 0) (ini := false) (by decide +kernel) (fun h => by cases h) (fun _ => Nat.le_of_ble_eq_true rfl) rfl h
set_option maxRecDepth 20000 in
set_option maxHeartbeats 1000000 in
theorem b_X10_faded_0 {l : Launch} {G : mj_G} {a0 : Nat} {x1 : Int32} {x2 : Int32} {S : mj_S} {Q : mj_S → Int32 → Prop} (hk_a0 : m_kd S a0 = 9) (h : M_X10_isCurtain l G a0 x1 S (fun S1 r2 => ((r2 = 0) → Q S1 (-1 : Int32)) ∧ ((¬ (r2 = 0)) → (((m_gi S1 a0 16) < (10 : Int32)) → ((x2 = 0) → ∀ S3 : mj_S, S3 = m_si S1 a0 18 ((m_gi S1 a0 18) ||| ((1 : Int32) <<< (x1 &&& 31))) → ∀ S4 : mj_S, S4 = m_si S3 a0 16 ((m_gi S3 a0 16) + (1 : Int32)) → Q S4 (m_gi S4 a0 16)) ∧ ((¬ (x2 = 0)) → ∀ S5 : mj_S, S5 = m_si S1 a0 17 ((m_gi S1 a0 17) ||| ((1 : Int32) <<< (x1 &&& 31))) → ∀ S6 : mj_S, S6 = m_si S5 a0 16 ((m_gi S5 a0 16) + (1 : Int32)) → Q S6 (m_gi S6 a0 16))) ∧ ((¬ ((m_gi S1 a0 16) < (10 : Int32))) → Q S1 (-1 : Int32))))) : V_X10_faded_0 l G a0 x1 x2 S Q := by
  refine mj_aload_n dX10_faded_0 rfl rfl ?_
  refine mj_iload_n dX10_faded_1 rfl rfl ?_
  refine mj_callVi (as := [.int x1]) (st := []) dX10_faded_2 cal_X10_isCurtain lk_X10_168 im_X10_isCurtain se_X10_isCurtain (ci := 9) rfl (by decide) hk_a0 h rfl (Nat.le_of_ble_eq_true rfl) (by decide) ⟨Nat.le_of_ble_eq_true rfl, Nat.le_of_ble_eq_true rfl⟩ (fun S1 r2 h hn_r2 hp => ?_)
  have hk_a0 : m_kd S1 a0 = 9 := m_kd_pre hp hk_a0 (by decide)
  refine mj_if_eq (tgt := 17) dX10_faded_5 (by decide) ⟨fun hc => ?_, fun hc => ?_⟩
  · replace h := h.1 hc
    refine mj_iconst (v := (-1)) dX10_faded_17 (by decide) ?_
    exact mj_reti dX10_faded_18 rfl ⟨Nat.le_of_ble_eq_true rfl, Nat.le_of_ble_eq_true rfl⟩ h
  · replace h := h.2 hc
    refine mj_aload_n dX10_faded_8 rfl rfl ?_
    refine mj_getI dX10_faded_9 fl_X10_96_9 hk_a0 rfl ?_
    refine mj_bipush (v := 10) dX10_faded_12 (by decide) ?_
    refine mj_icmp_lt (tgt := 19) dX10_faded_14 (by decide) ⟨fun hc => ?_, fun hc => ?_⟩
    · replace h := h.1 hc
      refine mj_iload_n dX10_faded_19 rfl rfl ?_
      refine mj_if_eq (tgt := 38) dX10_faded_20 (by decide) ⟨fun hc => ?_, fun hc => ?_⟩
      · replace h := h.1 hc
        refine mj_aload_n dX10_faded_38 rfl rfl ?_
        refine mj_dup dX10_faded_39 rfl ?_
        refine mj_getI dX10_faded_40 fl_X10_102_9 hk_a0 rfl ?_
        refine mj_iconst (v := 1) dX10_faded_43 (by decide) ?_
        refine mj_iload_n dX10_faded_44 rfl rfl ?_
        refine mj_ishl dX10_faded_45 ?_
        refine mj_ior dX10_faded_46 ?_
        refine mj_putI dX10_faded_47 fl_X10_102_9 hk_a0 (Or.inl rfl) rfl rfl rfl ?_
        obtain ⟨S3, eS3⟩ : ∃ z, z = m_si S1 a0 18 ((m_gi S1 a0 18) ||| ((1 : Int32) <<< (x1 &&& 31))) := ⟨_, rfl⟩
        rw [← eS3]
        replace h := h S3 eS3
        have hk_a0 : m_kd S3 a0 = 9 := by rw [eS3]; exact hk_a0
        refine mj_aload_n dX10_faded_50 rfl rfl ?_
        refine mj_dup dX10_faded_51 rfl ?_
        refine mj_getI dX10_faded_52 fl_X10_96_9 hk_a0 rfl ?_
        refine mj_iconst (v := 1) dX10_faded_55 (by decide) ?_
        refine mj_iadd dX10_faded_56 ?_
        refine mj_putI dX10_faded_57 fl_X10_96_9 hk_a0 (Or.inl rfl) rfl rfl rfl ?_
        obtain ⟨S4, eS4⟩ : ∃ z, z = m_si S3 a0 16 ((m_gi S3 a0 16) + (1 : Int32)) := ⟨_, rfl⟩
        rw [← eS4]
        replace h := h S4 eS4
        have hk_a0 : m_kd S4 a0 = 9 := by rw [eS4]; exact hk_a0
        refine mj_aload_n dX10_faded_60 rfl rfl ?_
        refine mj_getI dX10_faded_61 fl_X10_96_9 hk_a0 rfl ?_
        exact mj_reti dX10_faded_64 rfl ⟨Nat.le_of_ble_eq_true rfl, Nat.le_of_ble_eq_true rfl⟩ h
      · replace h := h.2 hc
        refine mj_aload_n dX10_faded_23 rfl rfl ?_
        refine mj_dup dX10_faded_24 rfl ?_
        refine mj_getI dX10_faded_25 fl_X10_99_9 hk_a0 rfl ?_
        refine mj_iconst (v := 1) dX10_faded_28 (by decide) ?_
        refine mj_iload_n dX10_faded_29 rfl rfl ?_
        refine mj_ishl dX10_faded_30 ?_
        refine mj_ior dX10_faded_31 ?_
        refine mj_putI dX10_faded_32 fl_X10_99_9 hk_a0 (Or.inl rfl) rfl rfl rfl ?_
        obtain ⟨S5, eS5⟩ : ∃ z, z = m_si S1 a0 17 ((m_gi S1 a0 17) ||| ((1 : Int32) <<< (x1 &&& 31))) := ⟨_, rfl⟩
        rw [← eS5]
        replace h := h S5 eS5
        have hk_a0 : m_kd S5 a0 = 9 := by rw [eS5]; exact hk_a0
        refine mj_goto (tgt := 50) dX10_faded_35 (by decide) ?_
        refine mj_aload_n dX10_faded_50 rfl rfl ?_
        refine mj_dup dX10_faded_51 rfl ?_
        refine mj_getI dX10_faded_52 fl_X10_96_9 hk_a0 rfl ?_
        refine mj_iconst (v := 1) dX10_faded_55 (by decide) ?_
        refine mj_iadd dX10_faded_56 ?_
        refine mj_putI dX10_faded_57 fl_X10_96_9 hk_a0 (Or.inl rfl) rfl rfl rfl ?_
        obtain ⟨S6, eS6⟩ : ∃ z, z = m_si S5 a0 16 ((m_gi S5 a0 16) + (1 : Int32)) := ⟨_, rfl⟩
        rw [← eS6]
        replace h := h S6 eS6
        have hk_a0 : m_kd S6 a0 = 9 := by rw [eS6]; exact hk_a0
        refine mj_aload_n dX10_faded_60 rfl rfl ?_
        refine mj_getI dX10_faded_61 fl_X10_96_9 hk_a0 rfl ?_
        exact mj_reti dX10_faded_64 rfl ⟨Nat.le_of_ble_eq_true rfl, Nat.le_of_ble_eq_true rfl⟩ h
    · replace h := h.2 hc
      refine mj_iconst (v := (-1)) dX10_faded_17 (by decide) ?_
      exact mj_reti dX10_faded_18 rfl ⟨Nat.le_of_ble_eq_true rfl, Nat.le_of_ble_eq_true rfl⟩ h
abbrev V_X10_leanedOnBy_0 (l : Launch) (G : mj_G) (a0 : Nat) (x1 : Int32) (S : mj_S) (Q : mj_S → Int32 → Prop) : Prop := mj_V l G (mj_room 2 0 0) RX10 cX10_leanedOnBy 4 (some .int) false 0 [some (.ref a0), some (.int x1), none, none] [] S 0 0 (mj_std G (some .int) (mj_room 2 0 0) (mj_qi Q))
abbrev V_X10_leanedOnBy_4 (l : Launch) (G : mj_G) (a0 : Nat) (x1 : Int32) (x2 : Int32) (x3 : Int32) (S : mj_S) (Q : mj_S → Int32 → Prop) : Prop := mj_V l G (mj_room 2 0 0) RX10 cX10_leanedOnBy 4 (some .int) false 4 [some (.ref a0), some (.int x1), some (.int x2), some (.int x3)] [] S 0 0 (mj_std G (some .int) (mj_room 2 0 0) (mj_qi Q))
theorem e_X10_leanedOnBy {l : Launch} {G : mj_G} {a0 : Nat} {x1 : Int32} {S : mj_S} {Q : mj_S → Int32 → Prop} (h : V_X10_leanedOnBy_0 l G a0 x1 S Q) : M_X10_leanedOnBy l G a0 x1 S Q := mj_enter (r := 2) (ini := false) (by decide +kernel) (fun h => by cases h) (fun _ => Nat.le_of_ble_eq_true rfl) rfl h
set_option maxRecDepth 20000 in
set_option maxHeartbeats 1000000 in
theorem b_X10_leanedOnBy_0 {l : Launch} {G : mj_G} {a0 : Nat} {x1 : Int32} {S : mj_S} {Q : mj_S → Int32 → Prop} (hk_a0 : m_kd S a0 = 9) (h : V_X10_leanedOnBy_4 l G a0 x1 (0 : Int32) (0 : Int32) S Q) : V_X10_leanedOnBy_0 l G a0 x1 S Q := by
  refine mj_iconst (v := 0) dX10_leanedOnBy_0 (by decide) ?_
  refine mj_istore_n dX10_leanedOnBy_1 rfl (by decide) rfl rfl ?_
  refine mj_iconst (v := 0) dX10_leanedOnBy_2 (by decide) ?_
  refine mj_istore_n dX10_leanedOnBy_3 rfl (by decide) rfl rfl ?_
  exact h
set_option maxRecDepth 20000 in
set_option maxHeartbeats 1000000 in
theorem b_X10_leanedOnBy_4 {l : Launch} {G : mj_G} {a0 : Nat} {x1 : Int32} {x2 : Int32} {x3 : Int32} {S : mj_S} {Q : mj_S → Int32 → Prop} (hk_a0 : m_kd S a0 = 9) (h : ∃ b1, m_gp S a0 5 = some b1 ∧ ((((m_gi S b1 15) ≤ x3) → Q S x2) ∧ ((¬ ((m_gi S b1 15) ≤ x3)) → M_X10_has l G x1 x3 S (fun S2 r3 => ((r3 = 0) → ∀ v4 : Int32, v4 = x3 + (1 : Int32) → V_X10_leanedOnBy_4 l G a0 x1 x2 v4 S2 Q) ∧ ((¬ (r3 = 0)) → ∃ b5, m_gp S2 a0 7 = some b5 ∧ (∃ b6, m_gp S2 b5 2 = some b6 ∧ (vp_in x3 (m_ln S2 b6) ∧ (M_X10_besides l G a0 (m_gi S2 b6 (x3).toNatClampNeg) S2 (fun S7 r8 => ∀ v9 : Int32, v9 = (x2 ||| r8) → ∀ v10 : Int32, v10 = x3 + (1 : Int32) → V_X10_leanedOnBy_4 l G a0 x1 v9 v10 S7 Q))))))))) : V_X10_leanedOnBy_4 l G a0 x1 x2 x3 S Q := by
  refine mj_iload_n dX10_leanedOnBy_4 rfl rfl ?_
  refine mj_aload_n dX10_leanedOnBy_5 rfl rfl ?_
  obtain ⟨b1, eb1, h⟩ := h
  refine mj_getP dX10_leanedOnBy_6 fl_X10_41_9 hk_a0 rfl ⟨b1, eb1, fun hk_b1 => ?_⟩
  refine mj_getI dX10_leanedOnBy_9 fl_X10_149_5 hk_b1 rfl ?_
  refine mj_icmp_ge (tgt := 45) dX10_leanedOnBy_12 (by decide) ⟨fun hc => ?_, fun hc => ?_⟩
  · replace h := h.1 hc
    refine mj_iload_n dX10_leanedOnBy_45 rfl rfl ?_
    exact mj_reti dX10_leanedOnBy_46 rfl ⟨Nat.le_of_ble_eq_true rfl, Nat.le_of_ble_eq_true rfl⟩ h
  · replace h := h.2 hc
    refine mj_iload_n dX10_leanedOnBy_15 rfl rfl ?_
    refine mj_iload_n dX10_leanedOnBy_16 rfl rfl ?_
    refine mj_callSi (as := [.int x1, .int x3]) (st := []) dX10_leanedOnBy_17 cal_X10_has lk_X10_190 sm_X10_has h rfl (Nat.le_of_ble_eq_true rfl) (by decide) ⟨Nat.le_of_ble_eq_true rfl, Nat.le_of_ble_eq_true rfl⟩ (fun S2 r3 h hn_r3 hp => ?_)
    have hk_a0 : m_kd S2 a0 = 9 := m_kd_pre hp hk_a0 (by decide)
    have hk_b1 : m_kd S2 b1 = 5 := m_kd_pre hp hk_b1 (by decide)
    refine mj_if_eq (tgt := 39) dX10_leanedOnBy_20 (by decide) ⟨fun hc => ?_, fun hc => ?_⟩
    · replace h := h.1 hc
      obtain ⟨v4, ev4⟩ : ∃ z : Int32, z = x3 + (1 : Int32) := ⟨_, rfl⟩
      refine mj_iinc (v := v4) dX10_leanedOnBy_39 rfl (by rw [ev4]; rfl) (by decide) rfl rfl ?_
      replace h := h v4 ev4
      refine mj_goto (tgt := 4) dX10_leanedOnBy_42 (by decide) ?_
      exact h
    · replace h := h.2 hc
      refine mj_iload_n dX10_leanedOnBy_23 rfl rfl ?_
      refine mj_aload_n dX10_leanedOnBy_24 rfl rfl ?_
      refine mj_aload_n dX10_leanedOnBy_25 rfl rfl ?_
      obtain ⟨b5, eb5, h⟩ := h
      refine mj_getP dX10_leanedOnBy_26 fl_X10_51_9 hk_a0 rfl ⟨b5, eb5, fun hk_b5 => ?_⟩
      obtain ⟨b6, eb6, h⟩ := h
      refine mj_getP dX10_leanedOnBy_29 fl_X10_211_7 hk_b5 rfl ⟨b6, eb6, fun hk_b6 => ?_⟩
      refine mj_iload_n dX10_leanedOnBy_32 rfl rfl ?_
      refine mj_iald dX10_leanedOnBy_33 (Or.inl hk_b6) ⟨h.1, ?_⟩
      replace h := h.2
      refine mj_callVi (as := [.int (m_gi S2 b6 (x3).toNatClampNeg)]) (st := [.int x2]) dX10_leanedOnBy_34 cal_X10_besides lk_X10_284 im_X10_besides se_X10_besides (ci := 9) rfl (by decide) hk_a0 h rfl (Nat.le_of_ble_eq_true rfl) (by decide) ⟨Nat.le_of_ble_eq_true rfl, Nat.le_of_ble_eq_true rfl⟩ (fun S7 r8 h hn_r8 hp => ?_)
      have hk_a0 : m_kd S7 a0 = 9 := m_kd_pre hp hk_a0 (by decide)
      have hk_b1 : m_kd S7 b1 = 5 := m_kd_pre hp hk_b1 (by decide)
      have hk_b5 : m_kd S7 b5 = 7 := m_kd_pre hp hk_b5 (by decide)
      have hk_b6 : m_kd S7 b6 = 100 := m_kd_pre hp hk_b6 (by decide)
      refine mj_ior dX10_leanedOnBy_37 ?_
      refine mj_nmi (fun v9 ev9 => ?_)
      replace h := h v9 ev9
      refine mj_istore_n dX10_leanedOnBy_38 rfl (by decide) rfl rfl ?_
      obtain ⟨v10, ev10⟩ : ∃ z : Int32, z = x3 + (1 : Int32) := ⟨_, rfl⟩
      refine mj_iinc (v := v10) dX10_leanedOnBy_39 rfl (by rw [ev10]; rfl) (by decide) rfl rfl ?_
      replace h := h v10 ev10
      refine mj_goto (tgt := 4) dX10_leanedOnBy_42 (by decide) ?_
      exact h
abbrev V_X10_fits_0 (l : Launch) (G : mj_G) (a0 : Nat) (x1 : Int32) (x2 : Int32) (S : mj_S) (Q : mj_S → Int32 → Prop) : Prop := mj_V l G (mj_room 3 0 0) RX10 cX10_fits 4 (some .boolean) false 0 [some (.ref a0), some (.int x1), some (.int x2), none] [] S 0 0 (mj_std G (some .boolean) (mj_room 3 0 0) (mj_qi Q))
theorem e_X10_fits {l : Launch} {G : mj_G} {a0 : Nat} {x1 : Int32} {x2 : Int32} {S : mj_S} {Q : mj_S → Int32 → Prop} (h : V_X10_fits_0 l G a0 x1 x2 S Q) : M_X10_fits l G a0 x1 x2 S Q := mj_enter (r := 1) (ini := false) (by decide +kernel) (fun h => by cases h) (fun _ => Nat.le_of_ble_eq_true rfl) rfl h
set_option maxRecDepth 20000 in
set_option maxHeartbeats 1000000 in
theorem b_X10_fits_0 {l : Launch} {G : mj_G} {a0 : Nat} {x1 : Int32} {x2 : Int32} {S : mj_S} {Q : mj_S → Int32 → Prop} (hk_a0 : m_kd S a0 = 9) (h : M_J6_bitCount_0f7a4 l G x1 S (fun S1 r2 => ((r2 = x2) → M_X10_leanedOnBy l G a0 x1 S1 (fun S3 r4 => ((¬ ((m_gi S3 a0 17) &&& (r4 ^^^ (-1 : Int32))) = 0) → Q S3 (0 : Int32)) ∧ ((((m_gi S3 a0 17) &&& (r4 ^^^ (-1 : Int32))) = 0) → ((¬ ((m_gi S3 a0 18) &&& r4) = 0) → Q S3 (0 : Int32)) ∧ ((((m_gi S3 a0 18) &&& r4) = 0) → Q S3 (1 : Int32))))) ∧ ((¬ (r2 = x2)) → Q S1 (0 : Int32)))) : V_X10_fits_0 l G a0 x1 x2 S Q := by
  refine mj_iload_n dX10_fits_0 rfl rfl ?_
  refine mj_callSi (as := [.int x1]) (st := []) dX10_fits_1 cal_J6_bitCount_0f7a4 lk_X10_344 sm_J6_bitCount_0f7a4 h rfl (Nat.le_of_ble_eq_true rfl) (by decide) ⟨Nat.le_of_ble_eq_true rfl, Nat.le_of_ble_eq_true rfl⟩ (fun S1 r2 h hn_r2 hp => ?_)
  have hk_a0 : m_kd S1 a0 = 9 := m_kd_pre hp hk_a0 (by decide)
  refine mj_iload_n dX10_fits_4 rfl rfl ?_
  refine mj_icmp_eq (tgt := 10) dX10_fits_5 (by decide) ⟨fun hc => ?_, fun hc => ?_⟩
  · replace h := h.1 hc
    refine mj_aload_n dX10_fits_10 rfl rfl ?_
    refine mj_iload_n dX10_fits_11 rfl rfl ?_
    refine mj_callVi (as := [.int x1]) (st := []) dX10_fits_12 cal_X10_leanedOnBy lk_X10_388 im_X10_leanedOnBy se_X10_leanedOnBy (ci := 9) rfl (by decide) hk_a0 h rfl (Nat.le_of_ble_eq_true rfl) (by decide) ⟨Nat.le_of_ble_eq_true rfl, Nat.le_of_ble_eq_true rfl⟩ (fun S3 r4 h hn_r4 hp => ?_)
    have hk_a0 : m_kd S3 a0 = 9 := m_kd_pre hp hk_a0 (by decide)
    refine mj_istore_n dX10_fits_15 rfl (by decide) rfl rfl ?_
    refine mj_aload_n dX10_fits_16 rfl rfl ?_
    refine mj_getI dX10_fits_17 fl_X10_99_9 hk_a0 rfl ?_
    refine mj_iload_n dX10_fits_20 rfl rfl ?_
    refine mj_iconst (v := (-1)) dX10_fits_21 (by decide) ?_
    refine mj_ixor dX10_fits_22 ?_
    refine mj_iand dX10_fits_23 ?_
    refine mj_if_ne (tgt := 40) dX10_fits_24 (by decide) ⟨fun hc => ?_, fun hc => ?_⟩
    · replace h := h.1 hc
      refine mj_iconst (v := 0) dX10_fits_40 (by decide) ?_
      exact mj_retz dX10_fits_41 rfl (rfl) ⟨Nat.le_of_ble_eq_true rfl, Nat.le_of_ble_eq_true rfl⟩ h
    · replace h := h.2 hc
      refine mj_aload_n dX10_fits_27 rfl rfl ?_
      refine mj_getI dX10_fits_28 fl_X10_102_9 hk_a0 rfl ?_
      refine mj_iload_n dX10_fits_31 rfl rfl ?_
      refine mj_iand dX10_fits_32 ?_
      refine mj_if_ne (tgt := 40) dX10_fits_33 (by decide) ⟨fun hc => ?_, fun hc => ?_⟩
      · replace h := h.1 hc
        refine mj_iconst (v := 0) dX10_fits_40 (by decide) ?_
        exact mj_retz dX10_fits_41 rfl (rfl) ⟨Nat.le_of_ble_eq_true rfl, Nat.le_of_ble_eq_true rfl⟩ h
      · replace h := h.2 hc
        refine mj_iconst (v := 1) dX10_fits_36 (by decide) ?_
        refine mj_goto (tgt := 41) dX10_fits_37 (by decide) ?_
        exact mj_retz dX10_fits_41 rfl (rfl) ⟨Nat.le_of_ble_eq_true rfl, Nat.le_of_ble_eq_true rfl⟩ h
  · replace h := h.2 hc
    refine mj_iconst (v := 0) dX10_fits_8 (by decide) ?_
    exact mj_retz dX10_fits_9 rfl (rfl) ⟨Nat.le_of_ble_eq_true rfl, Nat.le_of_ble_eq_true rfl⟩ h
abbrev V_X10_canLean_0 (l : Launch) (G : mj_G) (a0 : Nat) (x1 : Int32) (S : mj_S) (Q : mj_S → Int32 → Prop) : Prop := mj_V l G (mj_room 2 0 0) RX10 cX10_canLean 2 (some .boolean) false 0 [some (.ref a0), some (.int x1)] [] S 0 0 (mj_std G (some .boolean) (mj_room 2 0 0) (mj_qi Q))
theorem e_X10_canLean {l : Launch} {G : mj_G} {a0 : Nat} {x1 : Int32} {S : mj_S} {Q : mj_S → Int32 → Prop} (h : V_X10_canLean_0 l G a0 x1 S Q) : M_X10_canLean l G a0 x1 S Q := mj_enter (r := 0) (ini := false) (by decide +kernel) (fun h => by cases h) (fun _ => Nat.le_of_ble_eq_true rfl) rfl h
set_option maxRecDepth 20000 in
set_option maxHeartbeats 1000000 in
theorem b_X10_canLean_0 {l : Launch} {G : mj_G} {a0 : Nat} {x1 : Int32} {S : mj_S} {Q : mj_S → Int32 → Prop} (hk_a0 : m_kd S a0 = 9) (h : M_X10_hasRoom l G a0 S (fun S1 r2 => ((r2 = 0) → Q S1 (0 : Int32)) ∧ ((¬ (r2 = 0)) → M_X10_within l G x1 (1 : Int32) (3 : Int32) S1 (fun S3 r4 => ((r4 = 0) → Q S3 (0 : Int32)) ∧ ((¬ (r4 = 0)) → Q S3 (1 : Int32)))))) : V_X10_canLean_0 l G a0 x1 S Q := by
  refine mj_aload_n dX10_canLean_0 rfl rfl ?_
  refine mj_callVi (as := []) (st := []) dX10_canLean_1 cal_X10_hasRoom lk_X10_152 im_X10_hasRoom se_X10_hasRoom (ci := 9) rfl (by decide) hk_a0 h rfl (Nat.le_of_ble_eq_true rfl) (by decide) ⟨Nat.le_of_ble_eq_true rfl, Nat.le_of_ble_eq_true rfl⟩ (fun S1 r2 h hn_r2 hp => ?_)
  have hk_a0 : m_kd S1 a0 = 9 := m_kd_pre hp hk_a0 (by decide)
  refine mj_if_eq (tgt := 20) dX10_canLean_4 (by decide) ⟨fun hc => ?_, fun hc => ?_⟩
  · replace h := h.1 hc
    refine mj_iconst (v := 0) dX10_canLean_20 (by decide) ?_
    exact mj_retz dX10_canLean_21 rfl (rfl) ⟨Nat.le_of_ble_eq_true rfl, Nat.le_of_ble_eq_true rfl⟩ h
  · replace h := h.2 hc
    refine mj_iload_n dX10_canLean_7 rfl rfl ?_
    refine mj_iconst (v := 1) dX10_canLean_8 (by decide) ?_
    refine mj_iconst (v := 3) dX10_canLean_9 (by decide) ?_
    refine mj_callSi (as := [.int x1, .int (1 : Int32), .int (3 : Int32)]) (st := []) dX10_canLean_10 cal_X10_within lk_X10_204 sm_X10_within h rfl (Nat.le_of_ble_eq_true rfl) (by decide) ⟨Nat.le_of_ble_eq_true rfl, Nat.le_of_ble_eq_true rfl⟩ (fun S3 r4 h hn_r4 hp => ?_)
    have hk_a0 : m_kd S3 a0 = 9 := m_kd_pre hp hk_a0 (by decide)
    refine mj_if_eq (tgt := 20) dX10_canLean_13 (by decide) ⟨fun hc => ?_, fun hc => ?_⟩
    · replace h := h.1 hc
      refine mj_iconst (v := 0) dX10_canLean_20 (by decide) ?_
      exact mj_retz dX10_canLean_21 rfl (rfl) ⟨Nat.le_of_ble_eq_true rfl, Nat.le_of_ble_eq_true rfl⟩ h
    · replace h := h.2 hc
      refine mj_iconst (v := 1) dX10_canLean_16 (by decide) ?_
      refine mj_goto (tgt := 21) dX10_canLean_17 (by decide) ?_
      exact mj_retz dX10_canLean_21 rfl (rfl) ⟨Nat.le_of_ble_eq_true rfl, Nat.le_of_ble_eq_true rfl⟩ h
abbrev V_X10_leant_0 (l : Launch) (G : mj_G) (a0 : Nat) (x1 : Int32) (x2 : Int32) (S : mj_S) (Q : mj_S → Int32 → Prop) : Prop := mj_V l G (mj_room 4 0 0) RX10 cX10_leant 5 (some .int) false 0 [some (.ref a0), some (.int x1), some (.int x2), none, none] [] S 0 0 (mj_std G (some .int) (mj_room 4 0 0) (mj_qi Q))
abbrev V_X10_leant_20 (l : Launch) (G : mj_G) (a0 : Nat) (x1 : Int32) (x2 : Int32) (x3 : Int32) (x4 : Int32) (S : mj_S) (Q : mj_S → Int32 → Prop) : Prop := mj_V l G (mj_room 4 0 0) RX10 cX10_leant 5 (some .int) false 20 [some (.ref a0), some (.int x1), some (.int x2), some (.int x3), some (.int x4)] [] S 0 0 (mj_std G (some .int) (mj_room 4 0 0) (mj_qi Q))
theorem e_X10_leant {l : Launch} {G : mj_G} {a0 : Nat} {x1 : Int32} {x2 : Int32} {S : mj_S} {Q : mj_S → Int32 → Prop} (h : V_X10_leant_0 l G a0 x1 x2 S Q) : M_X10_leant l G a0 x1 x2 S Q := mj_enter (r := 2) (ini := false) (by decide +kernel) (fun h => by cases h) (fun _ => Nat.le_of_ble_eq_true rfl) rfl h
set_option maxRecDepth 20000 in
set_option maxHeartbeats 1000000 in
theorem b_X10_leant_0 {l : Launch} {G : mj_G} {a0 : Nat} {x1 : Int32} {x2 : Int32} {S : mj_S} {Q : mj_S → Int32 → Prop} (hk_a0 : m_kd S a0 = 9) (h : M_X10_canLean l G a0 x1 S (fun S1 r2 => ((r2 = 0) → Q S1 (-1 : Int32)) ∧ ((¬ (r2 = 0)) → (((-1 : Int32) ≤ x2) → V_X10_leant_20 l G a0 x1 x2 (0 : Int32) (1 : Int32) S1 Q) ∧ ((¬ ((-1 : Int32) ≤ x2)) → Q S1 (-1 : Int32))))) : V_X10_leant_0 l G a0 x1 x2 S Q := by
  refine mj_aload_n dX10_leant_0 rfl rfl ?_
  refine mj_iload_n dX10_leant_1 rfl rfl ?_
  refine mj_callVi (as := [.int x1]) (st := []) dX10_leant_2 cal_X10_canLean lk_X10_391 im_X10_canLean se_X10_canLean (ci := 9) rfl (by decide) hk_a0 h rfl (Nat.le_of_ble_eq_true rfl) (by decide) ⟨Nat.le_of_ble_eq_true rfl, Nat.le_of_ble_eq_true rfl⟩ (fun S1 r2 h hn_r2 hp => ?_)
  have hk_a0 : m_kd S1 a0 = 9 := m_kd_pre hp hk_a0 (by decide)
  refine mj_if_eq (tgt := 13) dX10_leant_5 (by decide) ⟨fun hc => ?_, fun hc => ?_⟩
  · replace h := h.1 hc
    refine mj_iconst (v := (-1)) dX10_leant_13 (by decide) ?_
    exact mj_reti dX10_leant_14 rfl ⟨Nat.le_of_ble_eq_true rfl, Nat.le_of_ble_eq_true rfl⟩ h
  · replace h := h.2 hc
    refine mj_iload_n dX10_leant_8 rfl rfl ?_
    refine mj_iconst (v := (-1)) dX10_leant_9 (by decide) ?_
    refine mj_icmp_ge (tgt := 15) dX10_leant_10 (by decide) ⟨fun hc => ?_, fun hc => ?_⟩
    · replace h := h.1 hc
      refine mj_iconst (v := 0) dX10_leant_15 (by decide) ?_
      refine mj_istore_n dX10_leant_16 rfl (by decide) rfl rfl ?_
      refine mj_iconst (v := 1) dX10_leant_17 (by decide) ?_
      refine mj_istore dX10_leant_18 (by decide) rfl rfl ?_
      exact h
    · replace h := h.2 hc
      refine mj_iconst (v := (-1)) dX10_leant_13 (by decide) ?_
      exact mj_reti dX10_leant_14 rfl ⟨Nat.le_of_ble_eq_true rfl, Nat.le_of_ble_eq_true rfl⟩ h
set_option maxRecDepth 20000 in
set_option maxHeartbeats 1000000 in
theorem b_X10_leant_20 {l : Launch} {G : mj_G} {a0 : Nat} {x1 : Int32} {x2 : Int32} {x3 : Int32} {x4 : Int32} {S : mj_S} {Q : mj_S → Int32 → Prop} (hk_a0 : m_kd S a0 = 9) (h : ∃ b1, m_gp S a0 5 = some b1 ∧ (M_X6_allPersons l G b1 S (fun S2 r3 => ((r3 < x4) → ((¬ x2 = (-1 : Int32)) → Q S2 (-1 : Int32)) ∧ ((x2 = (-1 : Int32)) → Q S2 x3)) ∧ ((¬ (r3 < x4)) → M_X10_fits l G a0 x4 x1 S2 (fun S4 r5 => ((¬ r5 = 0) → ((¬ x3 = x2) → ∀ v6 : Int32, v6 = x3 + (1 : Int32) → ∀ v7 : Int32, v7 = x4 + (1 : Int32) → V_X10_leant_20 l G a0 x1 x2 v6 v7 S4 Q) ∧ ((x3 = x2) → Q S4 x4)) ∧ ((r5 = 0) → ∀ v8 : Int32, v8 = x4 + (1 : Int32) → V_X10_leant_20 l G a0 x1 x2 x3 v8 S4 Q)))))) : V_X10_leant_20 l G a0 x1 x2 x3 x4 S Q := by
  refine mj_iload dX10_leant_20 rfl ?_
  refine mj_aload_n dX10_leant_22 rfl rfl ?_
  obtain ⟨b1, eb1, h⟩ := h
  refine mj_getP dX10_leant_23 fl_X10_41_9 hk_a0 rfl ⟨b1, eb1, fun hk_b1 => ?_⟩
  refine mj_callVi (as := []) (st := [.int x4]) dX10_leant_26 cal_X6_allPersons lk_X10_394 im_X6_allPersons se_X6_allPersons (ci := 5) rfl (by decide) hk_b1 h rfl (Nat.le_of_ble_eq_true rfl) (by decide) ⟨Nat.le_of_ble_eq_true rfl, Nat.le_of_ble_eq_true rfl⟩ (fun S2 r3 h hn_r3 hp => ?_)
  have hk_a0 : m_kd S2 a0 = 9 := m_kd_pre hp hk_a0 (by decide)
  have hk_b1 : m_kd S2 b1 = 5 := m_kd_pre hp hk_b1 (by decide)
  refine mj_icmp_gt (tgt := 62) dX10_leant_29 (by decide) ⟨fun hc => ?_, fun hc => ?_⟩
  · replace h := h.1 hc
    refine mj_iload_n dX10_leant_62 rfl rfl ?_
    refine mj_iconst (v := (-1)) dX10_leant_63 (by decide) ?_
    refine mj_icmp_ne (tgt := 71) dX10_leant_64 (by decide) ⟨fun hc => ?_, fun hc => ?_⟩
    · replace h := h.1 hc
      refine mj_iconst (v := (-1)) dX10_leant_71 (by decide) ?_
      exact mj_reti dX10_leant_72 rfl ⟨Nat.le_of_ble_eq_true rfl, Nat.le_of_ble_eq_true rfl⟩ h
    · replace h := h.2 hc
      refine mj_iload_n dX10_leant_67 rfl rfl ?_
      refine mj_goto (tgt := 72) dX10_leant_68 (by decide) ?_
      exact mj_reti dX10_leant_72 rfl ⟨Nat.le_of_ble_eq_true rfl, Nat.le_of_ble_eq_true rfl⟩ h
  · replace h := h.2 hc
    refine mj_aload_n dX10_leant_32 rfl rfl ?_
    refine mj_iload dX10_leant_33 rfl ?_
    refine mj_iload_n dX10_leant_35 rfl rfl ?_
    refine mj_callVi (as := [.int x4, .int x1]) (st := []) dX10_leant_36 cal_X10_fits lk_X10_397 im_X10_fits se_X10_fits (ci := 9) rfl (by decide) hk_a0 h rfl (Nat.le_of_ble_eq_true rfl) (by decide) ⟨Nat.le_of_ble_eq_true rfl, Nat.le_of_ble_eq_true rfl⟩ (fun S4 r5 h hn_r5 hp => ?_)
    have hk_a0 : m_kd S4 a0 = 9 := m_kd_pre hp hk_a0 (by decide)
    have hk_b1 : m_kd S4 b1 = 5 := m_kd_pre hp hk_b1 (by decide)
    refine mj_if_ne (tgt := 45) dX10_leant_39 (by decide) ⟨fun hc => ?_, fun hc => ?_⟩
    · replace h := h.1 hc
      refine mj_iload_n dX10_leant_45 rfl rfl ?_
      refine mj_iload_n dX10_leant_46 rfl rfl ?_
      refine mj_icmp_ne (tgt := 53) dX10_leant_47 (by decide) ⟨fun hc => ?_, fun hc => ?_⟩
      · replace h := h.1 hc
        obtain ⟨v6, ev6⟩ : ∃ z : Int32, z = x3 + (1 : Int32) := ⟨_, rfl⟩
        refine mj_iinc (v := v6) dX10_leant_53 rfl (by rw [ev6]; rfl) (by decide) rfl rfl ?_
        replace h := h v6 ev6
        obtain ⟨v7, ev7⟩ : ∃ z : Int32, z = x4 + (1 : Int32) := ⟨_, rfl⟩
        refine mj_iinc (v := v7) dX10_leant_56 rfl (by rw [ev7]; rfl) (by decide) rfl rfl ?_
        replace h := h v7 ev7
        refine mj_goto (tgt := 20) dX10_leant_59 (by decide) ?_
        exact h
      · replace h := h.2 hc
        refine mj_iload dX10_leant_50 rfl ?_
        exact mj_reti dX10_leant_52 rfl ⟨Nat.le_of_ble_eq_true rfl, Nat.le_of_ble_eq_true rfl⟩ h
    · replace h := h.2 hc
      refine mj_goto (tgt := 56) dX10_leant_42 (by decide) ?_
      obtain ⟨v8, ev8⟩ : ∃ z : Int32, z = x4 + (1 : Int32) := ⟨_, rfl⟩
      refine mj_iinc (v := v8) dX10_leant_56 rfl (by rw [ev8]; rfl) (by decide) rfl rfl ?_
      replace h := h v8 ev8
      refine mj_goto (tgt := 20) dX10_leant_59 (by decide) ?_
      exact h
abbrev V_X10_sure_0 (l : Launch) (G : mj_G) (a0 : Nat) (x1 : Int32) (S : mj_S) (Q : mj_S → Int32 → Prop) : Prop := mj_V l G (mj_room 4 0 0) RX10 cX10_sure 4 (some .int) false 0 [some (.ref a0), some (.int x1), none, none] [] S 0 0 (mj_std G (some .int) (mj_room 4 0 0) (mj_qi Q))
abbrev V_X10_sure_14 (l : Launch) (G : mj_G) (a0 : Nat) (x1 : Int32) (x2 : Int32) (x3 : Int32) (S : mj_S) (Q : mj_S → Int32 → Prop) : Prop := mj_V l G (mj_room 4 0 0) RX10 cX10_sure 4 (some .int) false 14 [some (.ref a0), some (.int x1), some (.int x2), some (.int x3)] [] S 0 0 (mj_std G (some .int) (mj_room 4 0 0) (mj_qi Q))
theorem e_X10_sure {l : Launch} {G : mj_G} {a0 : Nat} {x1 : Int32} {S : mj_S} {Q : mj_S → Int32 → Prop} (h : V_X10_sure_0 l G a0 x1 S Q) : M_X10_sure l G a0 x1 S Q := mj_enter (r := 2) (ini := false) (by decide +kernel) (fun h => by cases h) (fun _ => Nat.le_of_ble_eq_true rfl) rfl h
set_option maxRecDepth 20000 in
set_option maxHeartbeats 1000000 in
theorem b_X10_sure_0 {l : Launch} {G : mj_G} {a0 : Nat} {x1 : Int32} {S : mj_S} {Q : mj_S → Int32 → Prop} (hk_a0 : m_kd S a0 = 9) (h : M_X10_canLean l G a0 x1 S (fun S1 r2 => ((¬ r2 = 0) → V_X10_sure_14 l G a0 x1 (-1 : Int32) (1 : Int32) S1 Q) ∧ ((r2 = 0) → Q S1 (-1 : Int32)))) : V_X10_sure_0 l G a0 x1 S Q := by
  refine mj_aload_n dX10_sure_0 rfl rfl ?_
  refine mj_iload_n dX10_sure_1 rfl rfl ?_
  refine mj_callVi (as := [.int x1]) (st := []) dX10_sure_2 cal_X10_canLean lk_X10_391 im_X10_canLean se_X10_canLean (ci := 9) rfl (by decide) hk_a0 h rfl (Nat.le_of_ble_eq_true rfl) (by decide) ⟨Nat.le_of_ble_eq_true rfl, Nat.le_of_ble_eq_true rfl⟩ (fun S1 r2 h hn_r2 hp => ?_)
  have hk_a0 : m_kd S1 a0 = 9 := m_kd_pre hp hk_a0 (by decide)
  refine mj_if_ne (tgt := 10) dX10_sure_5 (by decide) ⟨fun hc => ?_, fun hc => ?_⟩
  · replace h := h.1 hc
    refine mj_iconst (v := (-1)) dX10_sure_10 (by decide) ?_
    refine mj_istore_n dX10_sure_11 rfl (by decide) rfl rfl ?_
    refine mj_iconst (v := 1) dX10_sure_12 (by decide) ?_
    refine mj_istore_n dX10_sure_13 rfl (by decide) rfl rfl ?_
    exact h
  · replace h := h.2 hc
    refine mj_iconst (v := (-1)) dX10_sure_8 (by decide) ?_
    exact mj_reti dX10_sure_9 rfl ⟨Nat.le_of_ble_eq_true rfl, Nat.le_of_ble_eq_true rfl⟩ h
set_option maxRecDepth 20000 in
set_option maxHeartbeats 1000000 in
theorem b_X10_sure_14 {l : Launch} {G : mj_G} {a0 : Nat} {x1 : Int32} {x2 : Int32} {x3 : Int32} {S : mj_S} {Q : mj_S → Int32 → Prop} (hk_a0 : m_kd S a0 = 9) (h : ∃ b1, m_gp S a0 5 = some b1 ∧ (M_X6_allPersons l G b1 S (fun S2 r3 => ((r3 < x3) → Q S2 x2) ∧ ((¬ (r3 < x3)) → M_X10_fits l G a0 x3 x1 S2 (fun S4 r5 => ((r5 = 0) → ∀ v6 : Int32, v6 = x3 + (1 : Int32) → V_X10_sure_14 l G a0 x1 x2 v6 S4 Q) ∧ ((¬ (r5 = 0)) → ∀ v7 : Int32, v7 = (x2 &&& x3) → ∀ v8 : Int32, v8 = x3 + (1 : Int32) → V_X10_sure_14 l G a0 x1 v7 v8 S4 Q)))))) : V_X10_sure_14 l G a0 x1 x2 x3 S Q := by
  refine mj_iload_n dX10_sure_14 rfl rfl ?_
  refine mj_aload_n dX10_sure_15 rfl rfl ?_
  obtain ⟨b1, eb1, h⟩ := h
  refine mj_getP dX10_sure_16 fl_X10_41_9 hk_a0 rfl ⟨b1, eb1, fun hk_b1 => ?_⟩
  refine mj_callVi (as := []) (st := [.int x3]) dX10_sure_19 cal_X6_allPersons lk_X10_394 im_X6_allPersons se_X6_allPersons (ci := 5) rfl (by decide) hk_b1 h rfl (Nat.le_of_ble_eq_true rfl) (by decide) ⟨Nat.le_of_ble_eq_true rfl, Nat.le_of_ble_eq_true rfl⟩ (fun S2 r3 h hn_r3 hp => ?_)
  have hk_a0 : m_kd S2 a0 = 9 := m_kd_pre hp hk_a0 (by decide)
  have hk_b1 : m_kd S2 b1 = 5 := m_kd_pre hp hk_b1 (by decide)
  refine mj_icmp_gt (tgt := 44) dX10_sure_22 (by decide) ⟨fun hc => ?_, fun hc => ?_⟩
  · replace h := h.1 hc
    refine mj_iload_n dX10_sure_44 rfl rfl ?_
    exact mj_reti dX10_sure_45 rfl ⟨Nat.le_of_ble_eq_true rfl, Nat.le_of_ble_eq_true rfl⟩ h
  · replace h := h.2 hc
    refine mj_aload_n dX10_sure_25 rfl rfl ?_
    refine mj_iload_n dX10_sure_26 rfl rfl ?_
    refine mj_iload_n dX10_sure_27 rfl rfl ?_
    refine mj_callVi (as := [.int x3, .int x1]) (st := []) dX10_sure_28 cal_X10_fits lk_X10_397 im_X10_fits se_X10_fits (ci := 9) rfl (by decide) hk_a0 h rfl (Nat.le_of_ble_eq_true rfl) (by decide) ⟨Nat.le_of_ble_eq_true rfl, Nat.le_of_ble_eq_true rfl⟩ (fun S4 r5 h hn_r5 hp => ?_)
    have hk_a0 : m_kd S4 a0 = 9 := m_kd_pre hp hk_a0 (by decide)
    have hk_b1 : m_kd S4 b1 = 5 := m_kd_pre hp hk_b1 (by decide)
    refine mj_if_eq (tgt := 38) dX10_sure_31 (by decide) ⟨fun hc => ?_, fun hc => ?_⟩
    · replace h := h.1 hc
      obtain ⟨v6, ev6⟩ : ∃ z : Int32, z = x3 + (1 : Int32) := ⟨_, rfl⟩
      refine mj_iinc (v := v6) dX10_sure_38 rfl (by rw [ev6]; rfl) (by decide) rfl rfl ?_
      replace h := h v6 ev6
      refine mj_goto (tgt := 14) dX10_sure_41 (by decide) ?_
      exact h
    · replace h := h.2 hc
      refine mj_iload_n dX10_sure_34 rfl rfl ?_
      refine mj_iload_n dX10_sure_35 rfl rfl ?_
      refine mj_iand dX10_sure_36 ?_
      refine mj_nmi (fun v7 ev7 => ?_)
      replace h := h v7 ev7
      refine mj_istore_n dX10_sure_37 rfl (by decide) rfl rfl ?_
      obtain ⟨v8, ev8⟩ : ∃ z : Int32, z = x3 + (1 : Int32) := ⟨_, rfl⟩
      refine mj_iinc (v := v8) dX10_sure_38 rfl (by rw [ev8]; rfl) (by decide) rfl rfl ?_
      replace h := h v8 ev8
      refine mj_goto (tgt := 14) dX10_sure_41 (by decide) ?_
      exact h
abbrev V_X10_best_0 (l : Launch) (G : mj_G) (a0 : Nat) (x1 : Int32) (S : mj_S) (Q : mj_S → Int32 → Prop) : Prop := mj_V l G (mj_room 5 0 0) RX10 cX10_best 6 (some .int) false 0 [some (.ref a0), some (.int x1), none, none, none, none] [] S 0 0 (mj_std G (some .int) (mj_room 5 0 0) (mj_qi Q))
abbrev V_X10_best_26 (l : Launch) (G : mj_G) (a0 : Nat) (x1 : Int32) (x2 : Int32) (x3 : Int32) (x4 : Int32) (S : mj_S) (Q : mj_S → Int32 → Prop) : Prop := mj_V l G (mj_room 5 0 0) RX10 cX10_best 6 (some .int) false 26 [some (.ref a0), some (.int x1), some (.int x2), some (.int x3), some (.int x4), none] [] S 0 0 (mj_std G (some .int) (mj_room 5 0 0) (mj_qi Q))
theorem e_X10_best {l : Launch} {G : mj_G} {a0 : Nat} {x1 : Int32} {S : mj_S} {Q : mj_S → Int32 → Prop} (h : V_X10_best_0 l G a0 x1 S Q) : M_X10_best l G a0 x1 S Q := mj_enter (r := 4) (ini := false) (by decide +kernel) (fun h => by cases h) (fun _ => Nat.le_of_ble_eq_true rfl) rfl h
set_option maxRecDepth 20000 in
set_option maxHeartbeats 1000000 in
theorem b_X10_best_0 {l : Launch} {G : mj_G} {a0 : Nat} {x1 : Int32} {S : mj_S} {Q : mj_S → Int32 → Prop} (hk_a0 : m_kd S a0 = 9) (h : M_X10_canLean l G a0 x1 S (fun S1 r2 => ((r2 = 0) → Q S1 (-1 : Int32)) ∧ ((¬ (r2 = 0)) → M_X10_leant l G a0 x1 (-1 : Int32) S1 (fun S3 r4 => ((¬ r4 = 0) → V_X10_best_26 l G a0 x1 (-1 : Int32) (0 : Int32) (0 : Int32) S3 Q) ∧ ((r4 = 0) → Q S3 (-1 : Int32)))))) : V_X10_best_0 l G a0 x1 S Q := by
  refine mj_aload_n dX10_best_0 rfl rfl ?_
  refine mj_iload_n dX10_best_1 rfl rfl ?_
  refine mj_callVi (as := [.int x1]) (st := []) dX10_best_2 cal_X10_canLean lk_X10_391 im_X10_canLean se_X10_canLean (ci := 9) rfl (by decide) hk_a0 h rfl (Nat.le_of_ble_eq_true rfl) (by decide) ⟨Nat.le_of_ble_eq_true rfl, Nat.le_of_ble_eq_true rfl⟩ (fun S1 r2 h hn_r2 hp => ?_)
  have hk_a0 : m_kd S1 a0 = 9 := m_kd_pre hp hk_a0 (by decide)
  refine mj_if_eq (tgt := 17) dX10_best_5 (by decide) ⟨fun hc => ?_, fun hc => ?_⟩
  · replace h := h.1 hc
    refine mj_iconst (v := (-1)) dX10_best_17 (by decide) ?_
    exact mj_reti dX10_best_18 rfl ⟨Nat.le_of_ble_eq_true rfl, Nat.le_of_ble_eq_true rfl⟩ h
  · replace h := h.2 hc
    refine mj_aload_n dX10_best_8 rfl rfl ?_
    refine mj_iload_n dX10_best_9 rfl rfl ?_
    refine mj_iconst (v := (-1)) dX10_best_10 (by decide) ?_
    refine mj_callVi (as := [.int x1, .int (-1 : Int32)]) (st := []) dX10_best_11 cal_X10_leant lk_X10_400 im_X10_leant se_X10_leant (ci := 9) rfl (by decide) hk_a0 h rfl (Nat.le_of_ble_eq_true rfl) (by decide) ⟨Nat.le_of_ble_eq_true rfl, Nat.le_of_ble_eq_true rfl⟩ (fun S3 r4 h hn_r4 hp => ?_)
    have hk_a0 : m_kd S3 a0 = 9 := m_kd_pre hp hk_a0 (by decide)
    refine mj_if_ne (tgt := 19) dX10_best_14 (by decide) ⟨fun hc => ?_, fun hc => ?_⟩
    · replace h := h.1 hc
      refine mj_iconst (v := (-1)) dX10_best_19 (by decide) ?_
      refine mj_istore_n dX10_best_20 rfl (by decide) rfl rfl ?_
      refine mj_iconst (v := 0) dX10_best_21 (by decide) ?_
      refine mj_istore_n dX10_best_22 rfl (by decide) rfl rfl ?_
      refine mj_iconst (v := 0) dX10_best_23 (by decide) ?_
      refine mj_istore dX10_best_24 (by decide) rfl rfl ?_
      exact h
    · replace h := h.2 hc
      refine mj_iconst (v := (-1)) dX10_best_17 (by decide) ?_
      exact mj_reti dX10_best_18 rfl ⟨Nat.le_of_ble_eq_true rfl, Nat.le_of_ble_eq_true rfl⟩ h
set_option maxRecDepth 20000 in
set_option maxHeartbeats 1000000 in
theorem b_X10_best_26 {l : Launch} {G : mj_G} {a0 : Nat} {x1 : Int32} {x2 : Int32} {x3 : Int32} {x4 : Int32} {S : mj_S} {Q : mj_S → Int32 → Prop} (hk_a0 : m_kd S a0 = 9) (h : ∃ b1, m_gp S a0 5 = some b1 ∧ ((((m_gi S b1 7) ≤ x4) → Q S x2) ∧ ((¬ ((m_gi S b1 7) ≤ x4)) → M_X10_apartBy l G a0 x4 x1 S (fun S2 r3 => ((x2 = (-1 : Int32)) → ∀ v4 : Int32, v4 = x4 + (1 : Int32) → V_X10_best_26 l G a0 x1 x4 r3 v4 S2 Q) ∧ ((¬ (x2 = (-1 : Int32))) → ((x3 ≤ r3) → ∀ v5 : Int32, v5 = x4 + (1 : Int32) → V_X10_best_26 l G a0 x1 x2 x3 v5 S2 Q) ∧ ((¬ (x3 ≤ r3)) → ∀ v6 : Int32, v6 = x4 + (1 : Int32) → V_X10_best_26 l G a0 x1 x4 r3 v6 S2 Q)))))) : V_X10_best_26 l G a0 x1 x2 x3 x4 S Q := by
  refine mj_iload dX10_best_26 rfl ?_
  refine mj_aload_n dX10_best_28 rfl rfl ?_
  obtain ⟨b1, eb1, h⟩ := h
  refine mj_getP dX10_best_29 fl_X10_41_9 hk_a0 rfl ⟨b1, eb1, fun hk_b1 => ?_⟩
  refine mj_getI dX10_best_32 fl_X10_146_5 hk_b1 rfl ?_
  refine mj_icmp_ge (tgt := 70) dX10_best_35 (by decide) ⟨fun hc => ?_, fun hc => ?_⟩
  · replace h := h.1 hc
    refine mj_iload_n dX10_best_70 rfl rfl ?_
    exact mj_reti dX10_best_71 rfl ⟨Nat.le_of_ble_eq_true rfl, Nat.le_of_ble_eq_true rfl⟩ h
  · replace h := h.2 hc
    refine mj_aload_n dX10_best_38 rfl rfl ?_
    refine mj_iload dX10_best_39 rfl ?_
    refine mj_iload_n dX10_best_41 rfl rfl ?_
    refine mj_callVi (as := [.int x4, .int x1]) (st := []) dX10_best_42 cal_X10_apartBy lk_X10_403 im_X10_apartBy se_X10_apartBy (ci := 9) rfl (by decide) hk_a0 h rfl (Nat.le_of_ble_eq_true rfl) (by decide) ⟨Nat.le_of_ble_eq_true rfl, Nat.le_of_ble_eq_true rfl⟩ (fun S2 r3 h hn_r3 hp => ?_)
    have hk_a0 : m_kd S2 a0 = 9 := m_kd_pre hp hk_a0 (by decide)
    have hk_b1 : m_kd S2 b1 = 5 := m_kd_pre hp hk_b1 (by decide)
    refine mj_istore dX10_best_45 (by decide) rfl rfl ?_
    refine mj_iload_n dX10_best_47 rfl rfl ?_
    refine mj_iconst (v := (-1)) dX10_best_48 (by decide) ?_
    refine mj_icmp_eq (tgt := 58) dX10_best_49 (by decide) ⟨fun hc => ?_, fun hc => ?_⟩
    · replace h := h.1 hc
      refine mj_iload dX10_best_58 rfl ?_
      refine mj_istore_n dX10_best_60 rfl (by decide) rfl rfl ?_
      refine mj_iload dX10_best_61 rfl ?_
      refine mj_istore_n dX10_best_63 rfl (by decide) rfl rfl ?_
      obtain ⟨v4, ev4⟩ : ∃ z : Int32, z = x4 + (1 : Int32) := ⟨_, rfl⟩
      refine mj_iinc (v := v4) dX10_best_64 rfl (by rw [ev4]; rfl) (by decide) rfl rfl ?_
      replace h := h v4 ev4
      refine mj_goto (tgt := 26) dX10_best_67 (by decide) ?_
      exact mj_lessm [true, true, true, true, true, false] rfl h
    · replace h := h.2 hc
      refine mj_iload dX10_best_52 rfl ?_
      refine mj_iload_n dX10_best_54 rfl rfl ?_
      refine mj_icmp_ge (tgt := 64) dX10_best_55 (by decide) ⟨fun hc => ?_, fun hc => ?_⟩
      · replace h := h.1 hc
        obtain ⟨v5, ev5⟩ : ∃ z : Int32, z = x4 + (1 : Int32) := ⟨_, rfl⟩
        refine mj_iinc (v := v5) dX10_best_64 rfl (by rw [ev5]; rfl) (by decide) rfl rfl ?_
        replace h := h v5 ev5
        refine mj_goto (tgt := 26) dX10_best_67 (by decide) ?_
        exact mj_lessm [true, true, true, true, true, false] rfl h
      · replace h := h.2 hc
        refine mj_iload dX10_best_58 rfl ?_
        refine mj_istore_n dX10_best_60 rfl (by decide) rfl rfl ?_
        refine mj_iload dX10_best_61 rfl ?_
        refine mj_istore_n dX10_best_63 rfl (by decide) rfl rfl ?_
        obtain ⟨v6, ev6⟩ : ∃ z : Int32, z = x4 + (1 : Int32) := ⟨_, rfl⟩
        refine mj_iinc (v := v6) dX10_best_64 rfl (by rw [ev6]; rfl) (by decide) rfl rfl ?_
        replace h := h v6 ev6
        refine mj_goto (tgt := 26) dX10_best_67 (by decide) ?_
        exact mj_lessm [true, true, true, true, true, false] rfl h
abbrev V_X10_apartBy_0 (l : Launch) (G : mj_G) (a0 : Nat) (x1 : Int32) (x2 : Int32) (S : mj_S) (Q : mj_S → Int32 → Prop) : Prop := mj_V l G (mj_room 4 0 0) RX10 cX10_apartBy 5 (some .int) false 0 [some (.ref a0), some (.int x1), some (.int x2), none, none] [] S 0 0 (mj_std G (some .int) (mj_room 4 0 0) (mj_qi Q))
abbrev V_X10_apartBy_5 (l : Launch) (G : mj_G) (a0 : Nat) (x1 : Int32) (x2 : Int32) (x3 : Int32) (x4 : Int32) (S : mj_S) (Q : mj_S → Int32 → Prop) : Prop := mj_V l G (mj_room 4 0 0) RX10 cX10_apartBy 5 (some .int) false 5 [some (.ref a0), some (.int x1), some (.int x2), some (.int x3), some (.int x4)] [] S 0 0 (mj_std G (some .int) (mj_room 4 0 0) (mj_qi Q))
theorem e_X10_apartBy {l : Launch} {G : mj_G} {a0 : Nat} {x1 : Int32} {x2 : Int32} {S : mj_S} {Q : mj_S → Int32 → Prop} (h : V_X10_apartBy_0 l G a0 x1 x2 S Q) : M_X10_apartBy l G a0 x1 x2 S Q := mj_enter (r := 2) (ini := false) (by decide +kernel) (fun h => by cases h) (fun _ => Nat.le_of_ble_eq_true rfl) rfl h
set_option maxRecDepth 20000 in
set_option maxHeartbeats 1000000 in
theorem b_X10_apartBy_0 {l : Launch} {G : mj_G} {a0 : Nat} {x1 : Int32} {x2 : Int32} {S : mj_S} {Q : mj_S → Int32 → Prop} (hk_a0 : m_kd S a0 = 9) (h : V_X10_apartBy_5 l G a0 x1 x2 (0 : Int32) (1 : Int32) S Q) : V_X10_apartBy_0 l G a0 x1 x2 S Q := by
  refine mj_iconst (v := 0) dX10_apartBy_0 (by decide) ?_
  refine mj_istore_n dX10_apartBy_1 rfl (by decide) rfl rfl ?_
  refine mj_iconst (v := 1) dX10_apartBy_2 (by decide) ?_
  refine mj_istore dX10_apartBy_3 (by decide) rfl rfl ?_
  exact h
set_option maxRecDepth 20000 in
set_option maxHeartbeats 1000000 in
theorem b_X10_apartBy_5 {l : Launch} {G : mj_G} {a0 : Nat} {x1 : Int32} {x2 : Int32} {x3 : Int32} {x4 : Int32} {S : mj_S} {Q : mj_S → Int32 → Prop} (hk_a0 : m_kd S a0 = 9) (h : ∃ b1, m_gp S a0 5 = some b1 ∧ (M_X6_allPersons l G b1 S (fun S2 r3 => ((r3 < x4) → M_J9_abs_0f7a4 l G x3 S2 (fun S4 r5 => Q S4 r5)) ∧ ((¬ (r3 < x4)) → M_X10_fits l G a0 x4 x2 S2 (fun S6 r7 => ((r7 = 0) → ∀ v8 : Int32, v8 = x4 + (1 : Int32) → V_X10_apartBy_5 l G a0 x1 x2 x3 v8 S6 Q) ∧ ((¬ (r7 = 0)) → M_X10_leanedOnBy l G a0 x4 S6 (fun S9 r10 => M_X10_has l G r10 x1 S9 (fun S11 r12 => ((r12 = 0) → ∀ v13 : Int32, v13 = (x3 + (-1 : Int32)) → ∀ v14 : Int32, v14 = x4 + (1 : Int32) → V_X10_apartBy_5 l G a0 x1 x2 v13 v14 S11 Q) ∧ ((¬ (r12 = 0)) → ∀ v15 : Int32, v15 = (x3 + (1 : Int32)) → ∀ v16 : Int32, v16 = x4 + (1 : Int32) → V_X10_apartBy_5 l G a0 x1 x2 v15 v16 S11 Q))))))))) : V_X10_apartBy_5 l G a0 x1 x2 x3 x4 S Q := by
  refine mj_iload dX10_apartBy_5 rfl ?_
  refine mj_aload_n dX10_apartBy_7 rfl rfl ?_
  obtain ⟨b1, eb1, h⟩ := h
  refine mj_getP dX10_apartBy_8 fl_X10_41_9 hk_a0 rfl ⟨b1, eb1, fun hk_b1 => ?_⟩
  refine mj_callVi (as := []) (st := [.int x4]) dX10_apartBy_11 cal_X6_allPersons lk_X10_394 im_X6_allPersons se_X6_allPersons (ci := 5) rfl (by decide) hk_b1 h rfl (Nat.le_of_ble_eq_true rfl) (by decide) ⟨Nat.le_of_ble_eq_true rfl, Nat.le_of_ble_eq_true rfl⟩ (fun S2 r3 h hn_r3 hp => ?_)
  have hk_a0 : m_kd S2 a0 = 9 := m_kd_pre hp hk_a0 (by decide)
  have hk_b1 : m_kd S2 b1 = 5 := m_kd_pre hp hk_b1 (by decide)
  refine mj_icmp_gt (tgt := 54) dX10_apartBy_14 (by decide) ⟨fun hc => ?_, fun hc => ?_⟩
  · replace h := h.1 hc
    refine mj_iload_n dX10_apartBy_54 rfl rfl ?_
    refine mj_callSi (as := [.int x3]) (st := []) dX10_apartBy_55 cal_J9_abs_0f7a4 lk_X10_406 sm_J9_abs_0f7a4 h rfl (Nat.le_of_ble_eq_true rfl) (by decide) ⟨Nat.le_of_ble_eq_true rfl, Nat.le_of_ble_eq_true rfl⟩ (fun S4 r5 h hn_r5 hp => ?_)
    have hk_a0 : m_kd S4 a0 = 9 := m_kd_pre hp hk_a0 (by decide)
    have hk_b1 : m_kd S4 b1 = 5 := m_kd_pre hp hk_b1 (by decide)
    exact mj_reti dX10_apartBy_58 rfl ⟨Nat.le_of_ble_eq_true rfl, Nat.le_of_ble_eq_true rfl⟩ h
  · replace h := h.2 hc
    refine mj_aload_n dX10_apartBy_17 rfl rfl ?_
    refine mj_iload dX10_apartBy_18 rfl ?_
    refine mj_iload_n dX10_apartBy_20 rfl rfl ?_
    refine mj_callVi (as := [.int x4, .int x2]) (st := []) dX10_apartBy_21 cal_X10_fits lk_X10_397 im_X10_fits se_X10_fits (ci := 9) rfl (by decide) hk_a0 h rfl (Nat.le_of_ble_eq_true rfl) (by decide) ⟨Nat.le_of_ble_eq_true rfl, Nat.le_of_ble_eq_true rfl⟩ (fun S6 r7 h hn_r7 hp => ?_)
    have hk_a0 : m_kd S6 a0 = 9 := m_kd_pre hp hk_a0 (by decide)
    have hk_b1 : m_kd S6 b1 = 5 := m_kd_pre hp hk_b1 (by decide)
    refine mj_if_eq (tgt := 48) dX10_apartBy_24 (by decide) ⟨fun hc => ?_, fun hc => ?_⟩
    · replace h := h.1 hc
      obtain ⟨v8, ev8⟩ : ∃ z : Int32, z = x4 + (1 : Int32) := ⟨_, rfl⟩
      refine mj_iinc (v := v8) dX10_apartBy_48 rfl (by rw [ev8]; rfl) (by decide) rfl rfl ?_
      replace h := h v8 ev8
      refine mj_goto (tgt := 5) dX10_apartBy_51 (by decide) ?_
      exact h
    · replace h := h.2 hc
      refine mj_iload_n dX10_apartBy_27 rfl rfl ?_
      refine mj_aload_n dX10_apartBy_28 rfl rfl ?_
      refine mj_iload dX10_apartBy_29 rfl ?_
      refine mj_callVi (as := [.int x4]) (st := [.int x3]) dX10_apartBy_31 cal_X10_leanedOnBy lk_X10_388 im_X10_leanedOnBy se_X10_leanedOnBy (ci := 9) rfl (by decide) hk_a0 h rfl (Nat.le_of_ble_eq_true rfl) (by decide) ⟨Nat.le_of_ble_eq_true rfl, Nat.le_of_ble_eq_true rfl⟩ (fun S9 r10 h hn_r10 hp => ?_)
      have hk_a0 : m_kd S9 a0 = 9 := m_kd_pre hp hk_a0 (by decide)
      have hk_b1 : m_kd S9 b1 = 5 := m_kd_pre hp hk_b1 (by decide)
      refine mj_iload_n dX10_apartBy_34 rfl rfl ?_
      refine mj_callSi (as := [.int r10, .int x1]) (st := [.int x3]) dX10_apartBy_35 cal_X10_has lk_X10_190 sm_X10_has h rfl (Nat.le_of_ble_eq_true rfl) (by decide) ⟨Nat.le_of_ble_eq_true rfl, Nat.le_of_ble_eq_true rfl⟩ (fun S11 r12 h hn_r12 hp => ?_)
      have hk_a0 : m_kd S11 a0 = 9 := m_kd_pre hp hk_a0 (by decide)
      have hk_b1 : m_kd S11 b1 = 5 := m_kd_pre hp hk_b1 (by decide)
      refine mj_if_eq (tgt := 45) dX10_apartBy_38 (by decide) ⟨fun hc => ?_, fun hc => ?_⟩
      · replace h := h.1 hc
        refine mj_iconst (v := (-1)) dX10_apartBy_45 (by decide) ?_
        refine mj_iadd dX10_apartBy_46 ?_
        refine mj_nmi (fun v13 ev13 => ?_)
        replace h := h v13 ev13
        refine mj_istore_n dX10_apartBy_47 rfl (by decide) rfl rfl ?_
        obtain ⟨v14, ev14⟩ : ∃ z : Int32, z = x4 + (1 : Int32) := ⟨_, rfl⟩
        refine mj_iinc (v := v14) dX10_apartBy_48 rfl (by rw [ev14]; rfl) (by decide) rfl rfl ?_
        replace h := h v14 ev14
        refine mj_goto (tgt := 5) dX10_apartBy_51 (by decide) ?_
        exact h
      · replace h := h.2 hc
        refine mj_iconst (v := 1) dX10_apartBy_41 (by decide) ?_
        refine mj_goto (tgt := 46) dX10_apartBy_42 (by decide) ?_
        refine mj_iadd dX10_apartBy_46 ?_
        refine mj_nmi (fun v15 ev15 => ?_)
        replace h := h v15 ev15
        refine mj_istore_n dX10_apartBy_47 rfl (by decide) rfl rfl ?_
        obtain ⟨v16, ev16⟩ : ∃ z : Int32, z = x4 + (1 : Int32) := ⟨_, rfl⟩
        refine mj_iinc (v := v16) dX10_apartBy_48 rfl (by rw [ev16]; rfl) (by decide) rfl rfl ?_
        replace h := h v16 ev16
        refine mj_goto (tgt := 5) dX10_apartBy_51 (by decide) ?_
        exact h
abbrev V_X10_cross_0 (l : Launch) (G : mj_G) (a0 : Nat) (S : mj_S) (Q : mj_S → Int32 → Prop) : Prop := mj_V l G (mj_room 3 0 0) RX10 cX10_cross 4 (some .int) false 0 [some (.ref a0), none, none, none] [] S 0 0 (mj_std G (some .int) (mj_room 3 0 0) (mj_qi Q))
abbrev V_X10_cross_21 (l : Launch) (G : mj_G) (a0 : Nat) (x1 : Int32) (x2 : Int32) (x3 : Int32) (S : mj_S) (Q : mj_S → Int32 → Prop) : Prop := mj_V l G (mj_room 3 0 0) RX10 cX10_cross 4 (some .int) false 21 [some (.ref a0), some (.int x1), some (.int x2), some (.int x3)] [] S 0 0 (mj_std G (some .int) (mj_room 3 0 0) (mj_qi Q))
theorem e_X10_cross {l : Launch} {G : mj_G} {a0 : Nat} {S : mj_S} {Q : mj_S → Int32 → Prop} (h : V_X10_cross_0 l G a0 S Q) : M_X10_cross l G a0 S Q := mj_enter (r := 3) (ini := false) (by decide +kernel) (fun h => by cases h) (fun _ => Nat.le_of_ble_eq_true rfl) rfl h
set_option maxRecDepth 20000 in
set_option maxHeartbeats 1000000 in
theorem b_X10_cross_0 {l : Launch} {G : mj_G} {a0 : Nat} {S : mj_S} {Q : mj_S → Int32 → Prop} (hk_a0 : m_kd S a0 = 9) (h : M_X10_hasRoom l G a0 S (fun S1 r2 => ((¬ r2 = 0) → ∃ b3, m_gp S1 a0 7 = some b3 ∧ (M_X8_hung l G b3 S1 (fun S4 r5 => V_X10_cross_21 l G a0 r5 (0 : Int32) (0 : Int32) S4 Q))) ∧ ((r2 = 0) → Q S1 (-1 : Int32)))) : V_X10_cross_0 l G a0 S Q := by
  refine mj_aload_n dX10_cross_0 rfl rfl ?_
  refine mj_callVi (as := []) (st := []) dX10_cross_1 cal_X10_hasRoom lk_X10_152 im_X10_hasRoom se_X10_hasRoom (ci := 9) rfl (by decide) hk_a0 h rfl (Nat.le_of_ble_eq_true rfl) (by decide) ⟨Nat.le_of_ble_eq_true rfl, Nat.le_of_ble_eq_true rfl⟩ (fun S1 r2 h hn_r2 hp => ?_)
  have hk_a0 : m_kd S1 a0 = 9 := m_kd_pre hp hk_a0 (by decide)
  refine mj_if_ne (tgt := 9) dX10_cross_4 (by decide) ⟨fun hc => ?_, fun hc => ?_⟩
  · replace h := h.1 hc
    refine mj_aload_n dX10_cross_9 rfl rfl ?_
    obtain ⟨b3, eb3, h⟩ := h
    refine mj_getP dX10_cross_10 fl_X10_51_9 hk_a0 rfl ⟨b3, eb3, fun hk_b3 => ?_⟩
    refine mj_callVi (as := []) (st := []) dX10_cross_13 cal_X8_hung lk_X10_194 im_X8_hung se_X8_hung (ci := 7) rfl (by decide) hk_b3 h rfl (Nat.le_of_ble_eq_true rfl) (by decide) ⟨Nat.le_of_ble_eq_true rfl, Nat.le_of_ble_eq_true rfl⟩ (fun S4 r5 h hn_r5 hp => ?_)
    have hk_a0 : m_kd S4 a0 = 9 := m_kd_pre hp hk_a0 (by decide)
    have hk_b3 : m_kd S4 b3 = 7 := m_kd_pre hp hk_b3 (by decide)
    refine mj_istore_n dX10_cross_16 rfl (by decide) rfl rfl ?_
    refine mj_iconst (v := 0) dX10_cross_17 (by decide) ?_
    refine mj_istore_n dX10_cross_18 rfl (by decide) rfl rfl ?_
    refine mj_iconst (v := 0) dX10_cross_19 (by decide) ?_
    refine mj_istore_n dX10_cross_20 rfl (by decide) rfl rfl ?_
    exact h
  · replace h := h.2 hc
    refine mj_iconst (v := (-1)) dX10_cross_7 (by decide) ?_
    exact mj_reti dX10_cross_8 rfl ⟨Nat.le_of_ble_eq_true rfl, Nat.le_of_ble_eq_true rfl⟩ h
set_option maxRecDepth 20000 in
set_option maxHeartbeats 1000000 in
theorem b_X10_cross_21 {l : Launch} {G : mj_G} {a0 : Nat} {x1 : Int32} {x2 : Int32} {x3 : Int32} {S : mj_S} {Q : mj_S → Int32 → Prop} (hk_a0 : m_kd S a0 = 9) (h : ∃ b1, m_gp S a0 5 = some b1 ∧ ((((m_gi S b1 4) ≤ x3) → Q S x2) ∧ ((¬ ((m_gi S b1 4) ≤ x3)) → M_X10_besides l G a0 x3 S (fun S2 r3 => M_J6_bitCount_0f7a4 l G (x1 &&& r3) S2 (fun S4 r5 => ((r5 < (3 : Int32)) → ∀ v6 : Int32, v6 = x3 + (1 : Int32) → V_X10_cross_21 l G a0 x1 x2 v6 S4 Q) ∧ ((¬ (r5 < (3 : Int32))) → ∀ v7 : Int32, v7 = (x2 ||| ((1 : Int32) <<< (x3 &&& 31))) → ∀ v8 : Int32, v8 = x3 + (1 : Int32) → V_X10_cross_21 l G a0 x1 v7 v8 S4 Q)))))) : V_X10_cross_21 l G a0 x1 x2 x3 S Q := by
  refine mj_iload_n dX10_cross_21 rfl rfl ?_
  refine mj_aload_n dX10_cross_22 rfl rfl ?_
  obtain ⟨b1, eb1, h⟩ := h
  refine mj_getP dX10_cross_23 fl_X10_41_9 hk_a0 rfl ⟨b1, eb1, fun hk_b1 => ?_⟩
  refine mj_getI dX10_cross_26 fl_X10_143_5 hk_b1 rfl ?_
  refine mj_icmp_ge (tgt := 58) dX10_cross_29 (by decide) ⟨fun hc => ?_, fun hc => ?_⟩
  · replace h := h.1 hc
    refine mj_iload_n dX10_cross_58 rfl rfl ?_
    exact mj_reti dX10_cross_59 rfl ⟨Nat.le_of_ble_eq_true rfl, Nat.le_of_ble_eq_true rfl⟩ h
  · replace h := h.2 hc
    refine mj_iload_n dX10_cross_32 rfl rfl ?_
    refine mj_aload_n dX10_cross_33 rfl rfl ?_
    refine mj_iload_n dX10_cross_34 rfl rfl ?_
    refine mj_callVi (as := [.int x3]) (st := [.int x1]) dX10_cross_35 cal_X10_besides lk_X10_284 im_X10_besides se_X10_besides (ci := 9) rfl (by decide) hk_a0 h rfl (Nat.le_of_ble_eq_true rfl) (by decide) ⟨Nat.le_of_ble_eq_true rfl, Nat.le_of_ble_eq_true rfl⟩ (fun S2 r3 h hn_r3 hp => ?_)
    have hk_a0 : m_kd S2 a0 = 9 := m_kd_pre hp hk_a0 (by decide)
    have hk_b1 : m_kd S2 b1 = 5 := m_kd_pre hp hk_b1 (by decide)
    refine mj_iand dX10_cross_38 ?_
    refine mj_callSi (as := [.int (x1 &&& r3)]) (st := []) dX10_cross_39 cal_J6_bitCount_0f7a4 lk_X10_344 sm_J6_bitCount_0f7a4 h rfl (Nat.le_of_ble_eq_true rfl) (by decide) ⟨Nat.le_of_ble_eq_true rfl, Nat.le_of_ble_eq_true rfl⟩ (fun S4 r5 h hn_r5 hp => ?_)
    have hk_a0 : m_kd S4 a0 = 9 := m_kd_pre hp hk_a0 (by decide)
    have hk_b1 : m_kd S4 b1 = 5 := m_kd_pre hp hk_b1 (by decide)
    refine mj_iconst (v := 3) dX10_cross_42 (by decide) ?_
    refine mj_icmp_lt (tgt := 52) dX10_cross_43 (by decide) ⟨fun hc => ?_, fun hc => ?_⟩
    · replace h := h.1 hc
      obtain ⟨v6, ev6⟩ : ∃ z : Int32, z = x3 + (1 : Int32) := ⟨_, rfl⟩
      refine mj_iinc (v := v6) dX10_cross_52 rfl (by rw [ev6]; rfl) (by decide) rfl rfl ?_
      replace h := h v6 ev6
      refine mj_goto (tgt := 21) dX10_cross_55 (by decide) ?_
      exact h
    · replace h := h.2 hc
      refine mj_iload_n dX10_cross_46 rfl rfl ?_
      refine mj_iconst (v := 1) dX10_cross_47 (by decide) ?_
      refine mj_iload_n dX10_cross_48 rfl rfl ?_
      refine mj_ishl dX10_cross_49 ?_
      refine mj_ior dX10_cross_50 ?_
      refine mj_nmi (fun v7 ev7 => ?_)
      replace h := h v7 ev7
      refine mj_istore_n dX10_cross_51 rfl (by decide) rfl rfl ?_
      obtain ⟨v8, ev8⟩ : ∃ z : Int32, z = x3 + (1 : Int32) := ⟨_, rfl⟩
      refine mj_iinc (v := v8) dX10_cross_52 rfl (by rw [ev8]; rfl) (by decide) rfl rfl ?_
      replace h := h v8 ev8
      refine mj_goto (tgt := 21) dX10_cross_55 (by decide) ?_
      exact h
abbrev V_X10_realm_0 (l : Launch) (G : mj_G) (a0 : Nat) (S : mj_S) (Q : mj_S → Int32 → Prop) : Prop := mj_V l G (mj_room 3 0 0) RX10 cX10_realm 5 (some .int) false 0 [some (.ref a0), none, none, none, none] [] S 0 0 (mj_std G (some .int) (mj_room 3 0 0) (mj_qi Q))
abbrev V_X10_realm_33 (l : Launch) (G : mj_G) (a0 : Nat) (x1 : Int32) (x2 : Int32) (x3 : Int32) (S : mj_S) (Q : mj_S → Int32 → Prop) : Prop := mj_V l G (mj_room 3 0 0) RX10 cX10_realm 5 (some .int) false 33 [some (.ref a0), some (.int x1), some (.int x2), some (.int x3), none] [] S 0 0 (mj_std G (some .int) (mj_room 3 0 0) (mj_qi Q))
theorem e_X10_realm {l : Launch} {G : mj_G} {a0 : Nat} {S : mj_S} {Q : mj_S → Int32 → Prop} (h : V_X10_realm_0 l G a0 S Q) : M_X10_realm l G a0 S Q := mj_enter (r := 4) (ini := false) (by decide +kernel) (fun h => by cases h) (fun _ => Nat.le_of_ble_eq_true rfl) rfl h
set_option maxRecDepth 20000 in
set_option maxHeartbeats 1000000 in
theorem b_X10_realm_0 {l : Launch} {G : mj_G} {a0 : Nat} {S : mj_S} {Q : mj_S → Int32 → Prop} (hk_a0 : m_kd S a0 = 9) (h : M_X10_hasRoom l G a0 S (fun S1 r2 => ((¬ r2 = 0) → ∃ b3, m_gp S1 a0 10 = some b3 ∧ (∃ b4, m_gp S1 a0 5 = some b4 ∧ (∃ b5, m_gp S1 a0 7 = some b5 ∧ (M_X8_hung l G b5 S1 (fun S6 r7 => M_X0_part l G b3 b4 r7 S6 (fun S8 => V_X10_realm_33 l G a0 (-1 : Int32) (0 : Int32) (0 : Int32) S8 Q)))))) ∧ ((r2 = 0) → Q S1 (-1 : Int32)))) : V_X10_realm_0 l G a0 S Q := by
  refine mj_aload_n dX10_realm_0 rfl rfl ?_
  refine mj_callVi (as := []) (st := []) dX10_realm_1 cal_X10_hasRoom lk_X10_152 im_X10_hasRoom se_X10_hasRoom (ci := 9) rfl (by decide) hk_a0 h rfl (Nat.le_of_ble_eq_true rfl) (by decide) ⟨Nat.le_of_ble_eq_true rfl, Nat.le_of_ble_eq_true rfl⟩ (fun S1 r2 h hn_r2 hp => ?_)
  have hk_a0 : m_kd S1 a0 = 9 := m_kd_pre hp hk_a0 (by decide)
  refine mj_if_ne (tgt := 9) dX10_realm_4 (by decide) ⟨fun hc => ?_, fun hc => ?_⟩
  · replace h := h.1 hc
    refine mj_aload_n dX10_realm_9 rfl rfl ?_
    obtain ⟨b3, eb3, h⟩ := h
    refine mj_getP dX10_realm_10 fl_X10_68_9 hk_a0 rfl ⟨b3, eb3, fun hk_b3 => ?_⟩
    refine mj_aload_n dX10_realm_13 rfl rfl ?_
    obtain ⟨b4, eb4, h⟩ := h
    refine mj_getP dX10_realm_14 fl_X10_41_9 hk_a0 rfl ⟨b4, eb4, fun hk_b4 => ?_⟩
    refine mj_aload_n dX10_realm_17 rfl rfl ?_
    obtain ⟨b5, eb5, h⟩ := h
    refine mj_getP dX10_realm_18 fl_X10_51_9 hk_a0 rfl ⟨b5, eb5, fun hk_b5 => ?_⟩
    refine mj_callVi (as := []) (st := [.ref b4, .ref b3]) dX10_realm_21 cal_X8_hung lk_X10_194 im_X8_hung se_X8_hung (ci := 7) rfl (by decide) hk_b5 h rfl (Nat.le_of_ble_eq_true rfl) (by decide) ⟨Nat.le_of_ble_eq_true rfl, Nat.le_of_ble_eq_true rfl⟩ (fun S6 r7 h hn_r7 hp => ?_)
    have hk_a0 : m_kd S6 a0 = 9 := m_kd_pre hp hk_a0 (by decide)
    have hk_b3 : m_kd S6 b3 = 0 := m_kd_pre hp hk_b3 (by decide)
    have hk_b4 : m_kd S6 b4 = 5 := m_kd_pre hp hk_b4 (by decide)
    have hk_b5 : m_kd S6 b5 = 7 := m_kd_pre hp hk_b5 (by decide)
    refine mj_callVv (as := [.ref b4, .int r7]) (st := []) dX10_realm_24 cal_X0_part lk_X10_234 im_X0_part se_X0_part (ci := 0) rfl (by decide) hk_b3 h rfl (Nat.le_of_ble_eq_true rfl) (by decide) ⟨Nat.le_of_ble_eq_true rfl, Nat.le_of_ble_eq_true rfl⟩ (fun S8 h hp => ?_)
    have hk_a0 : m_kd S8 a0 = 9 := m_kd_pre hp hk_a0 (by decide)
    have hk_b3 : m_kd S8 b3 = 0 := m_kd_pre hp hk_b3 (by decide)
    have hk_b4 : m_kd S8 b4 = 5 := m_kd_pre hp hk_b4 (by decide)
    have hk_b5 : m_kd S8 b5 = 7 := m_kd_pre hp hk_b5 (by decide)
    refine mj_iconst (v := (-1)) dX10_realm_27 (by decide) ?_
    refine mj_istore_n dX10_realm_28 rfl (by decide) rfl rfl ?_
    refine mj_iconst (v := 0) dX10_realm_29 (by decide) ?_
    refine mj_istore_n dX10_realm_30 rfl (by decide) rfl rfl ?_
    refine mj_iconst (v := 0) dX10_realm_31 (by decide) ?_
    refine mj_istore_n dX10_realm_32 rfl (by decide) rfl rfl ?_
    exact h
  · replace h := h.2 hc
    refine mj_iconst (v := (-1)) dX10_realm_7 (by decide) ?_
    exact mj_reti dX10_realm_8 rfl ⟨Nat.le_of_ble_eq_true rfl, Nat.le_of_ble_eq_true rfl⟩ h
set_option maxRecDepth 20000 in
set_option maxHeartbeats 1000000 in
theorem b_X10_realm_33 {l : Launch} {G : mj_G} {a0 : Nat} {x1 : Int32} {x2 : Int32} {x3 : Int32} {S : mj_S} {Q : mj_S → Int32 → Prop} (hk_a0 : m_kd S a0 = 9) (h : ∃ b1, m_gp S a0 5 = some b1 ∧ ((((m_gi S b1 4) ≤ x3) → Q S x1) ∧ ((¬ ((m_gi S b1 4) ≤ x3)) → ∃ b2, m_gp S a0 10 = some b2 ∧ (M_X0_reach l G b2 ((1 : Int32) <<< (x3 &&& 31)) S (fun S3 r4 => M_J6_bitCount_0f7a4 l G r4 S3 (fun S5 r6 => ((r6 ≤ x2) → ∀ v7 : Int32, v7 = x3 + (1 : Int32) → V_X10_realm_33 l G a0 x1 x2 v7 S5 Q) ∧ ((¬ (r6 ≤ x2)) → ∀ v8 : Int32, v8 = x3 + (1 : Int32) → V_X10_realm_33 l G a0 x3 r6 v8 S5 Q))))))) : V_X10_realm_33 l G a0 x1 x2 x3 S Q := by
  refine mj_iload_n dX10_realm_33 rfl rfl ?_
  refine mj_aload_n dX10_realm_34 rfl rfl ?_
  obtain ⟨b1, eb1, h⟩ := h
  refine mj_getP dX10_realm_35 fl_X10_41_9 hk_a0 rfl ⟨b1, eb1, fun hk_b1 => ?_⟩
  refine mj_getI dX10_realm_38 fl_X10_143_5 hk_b1 rfl ?_
  refine mj_icmp_ge (tgt := 76) dX10_realm_41 (by decide) ⟨fun hc => ?_, fun hc => ?_⟩
  · replace h := h.1 hc
    refine mj_iload_n dX10_realm_76 rfl rfl ?_
    exact mj_reti dX10_realm_77 rfl ⟨Nat.le_of_ble_eq_true rfl, Nat.le_of_ble_eq_true rfl⟩ h
  · replace h := h.2 hc
    refine mj_aload_n dX10_realm_44 rfl rfl ?_
    obtain ⟨b2, eb2, h⟩ := h
    refine mj_getP dX10_realm_45 fl_X10_68_9 hk_a0 rfl ⟨b2, eb2, fun hk_b2 => ?_⟩
    refine mj_iconst (v := 1) dX10_realm_48 (by decide) ?_
    refine mj_iload_n dX10_realm_49 rfl rfl ?_
    refine mj_ishl dX10_realm_50 ?_
    refine mj_callVi (as := [.int ((1 : Int32) <<< (x3 &&& 31))]) (st := []) dX10_realm_51 cal_X0_reach lk_X10_238 im_X0_reach se_X0_reach (ci := 0) rfl (by decide) hk_b2 h rfl (Nat.le_of_ble_eq_true rfl) (by decide) ⟨Nat.le_of_ble_eq_true rfl, Nat.le_of_ble_eq_true rfl⟩ (fun S3 r4 h hn_r4 hp => ?_)
    have hk_a0 : m_kd S3 a0 = 9 := m_kd_pre hp hk_a0 (by decide)
    have hk_b1 : m_kd S3 b1 = 5 := m_kd_pre hp hk_b1 (by decide)
    have hk_b2 : m_kd S3 b2 = 0 := m_kd_pre hp hk_b2 (by decide)
    refine mj_callSi (as := [.int r4]) (st := []) dX10_realm_54 cal_J6_bitCount_0f7a4 lk_X10_344 sm_J6_bitCount_0f7a4 h rfl (Nat.le_of_ble_eq_true rfl) (by decide) ⟨Nat.le_of_ble_eq_true rfl, Nat.le_of_ble_eq_true rfl⟩ (fun S5 r6 h hn_r6 hp => ?_)
    have hk_a0 : m_kd S5 a0 = 9 := m_kd_pre hp hk_a0 (by decide)
    have hk_b1 : m_kd S5 b1 = 5 := m_kd_pre hp hk_b1 (by decide)
    have hk_b2 : m_kd S5 b2 = 0 := m_kd_pre hp hk_b2 (by decide)
    refine mj_istore dX10_realm_57 (by decide) rfl rfl ?_
    refine mj_iload dX10_realm_59 rfl ?_
    refine mj_iload_n dX10_realm_61 rfl rfl ?_
    refine mj_icmp_le (tgt := 70) dX10_realm_62 (by decide) ⟨fun hc => ?_, fun hc => ?_⟩
    · replace h := h.1 hc
      obtain ⟨v7, ev7⟩ : ∃ z : Int32, z = x3 + (1 : Int32) := ⟨_, rfl⟩
      refine mj_iinc (v := v7) dX10_realm_70 rfl (by rw [ev7]; rfl) (by decide) rfl rfl ?_
      replace h := h v7 ev7
      refine mj_goto (tgt := 33) dX10_realm_73 (by decide) ?_
      exact mj_lessm [true, true, true, true, false] rfl h
    · replace h := h.2 hc
      refine mj_iload dX10_realm_65 rfl ?_
      refine mj_istore_n dX10_realm_67 rfl (by decide) rfl rfl ?_
      refine mj_iload_n dX10_realm_68 rfl rfl ?_
      refine mj_istore_n dX10_realm_69 rfl (by decide) rfl rfl ?_
      obtain ⟨v8, ev8⟩ : ∃ z : Int32, z = x3 + (1 : Int32) := ⟨_, rfl⟩
      refine mj_iinc (v := v8) dX10_realm_70 rfl (by rw [ev8]; rfl) (by decide) rfl rfl ?_
      replace h := h v8 ev8
      refine mj_goto (tgt := 33) dX10_realm_73 (by decide) ?_
      exact mj_lessm [true, true, true, true, false] rfl h
abbrev V_X10_gathered_0 (l : Launch) (G : mj_G) (a0 : Nat) (S : mj_S) (Q : mj_S → Int32 → Prop) : Prop := mj_V l G (mj_room 3 0 0) RX10 cX10_gathered 1 (some .int) false 0 [some (.ref a0)] [] S 0 0 (mj_std G (some .int) (mj_room 3 0 0) (mj_qi Q))
theorem e_X10_gathered {l : Launch} {G : mj_G} {a0 : Nat} {S : mj_S} {Q : mj_S → Int32 → Prop} (h : V_X10_gathered_0 l G a0 S Q) : M_X10_gathered l G a0 S Q := mj_enter (r := 0) (ini := false) (by decide +kernel) (fun h => by cases h) (fun _ => Nat.le_of_ble_eq_true rfl) rfl h
set_option maxRecDepth 20000 in
set_option maxHeartbeats 1000000 in
theorem b_X10_gathered_0 {l : Launch} {G : mj_G} {a0 : Nat} {S : mj_S} {Q : mj_S → Int32 → Prop} (hk_a0 : m_kd S a0 = 9) (h : M_X10_hasRoom l G a0 S (fun S1 r2 => ((r2 = 0) → Q S1 (-1 : Int32)) ∧ ((¬ (r2 = 0)) → ∃ b3, m_gp S1 a0 7 = some b3 ∧ (M_X8_drawnBack l G b3 S1 (fun S4 r5 => Q S4 r5))))) : V_X10_gathered_0 l G a0 S Q := by
  refine mj_aload_n dX10_gathered_0 rfl rfl ?_
  refine mj_callVi (as := []) (st := []) dX10_gathered_1 cal_X10_hasRoom lk_X10_152 im_X10_hasRoom se_X10_hasRoom (ci := 9) rfl (by decide) hk_a0 h rfl (Nat.le_of_ble_eq_true rfl) (by decide) ⟨Nat.le_of_ble_eq_true rfl, Nat.le_of_ble_eq_true rfl⟩ (fun S1 r2 h hn_r2 hp => ?_)
  have hk_a0 : m_kd S1 a0 = 9 := m_kd_pre hp hk_a0 (by decide)
  refine mj_if_eq (tgt := 17) dX10_gathered_4 (by decide) ⟨fun hc => ?_, fun hc => ?_⟩
  · replace h := h.1 hc
    refine mj_iconst (v := (-1)) dX10_gathered_17 (by decide) ?_
    exact mj_reti dX10_gathered_18 rfl ⟨Nat.le_of_ble_eq_true rfl, Nat.le_of_ble_eq_true rfl⟩ h
  · replace h := h.2 hc
    refine mj_aload_n dX10_gathered_7 rfl rfl ?_
    obtain ⟨b3, eb3, h⟩ := h
    refine mj_getP dX10_gathered_8 fl_X10_51_9 hk_a0 rfl ⟨b3, eb3, fun hk_b3 => ?_⟩
    refine mj_callVi (as := []) (st := []) dX10_gathered_11 cal_X8_drawnBack lk_X10_347 im_X8_drawnBack se_X8_drawnBack (ci := 7) rfl (by decide) hk_b3 h rfl (Nat.le_of_ble_eq_true rfl) (by decide) ⟨Nat.le_of_ble_eq_true rfl, Nat.le_of_ble_eq_true rfl⟩ (fun S4 r5 h hn_r5 hp => ?_)
    have hk_a0 : m_kd S4 a0 = 9 := m_kd_pre hp hk_a0 (by decide)
    have hk_b3 : m_kd S4 b3 = 7 := m_kd_pre hp hk_b3 (by decide)
    refine mj_goto (tgt := 18) dX10_gathered_14 (by decide) ?_
    exact mj_reti dX10_gathered_18 rfl ⟨Nat.le_of_ble_eq_true rfl, Nat.le_of_ble_eq_true rfl⟩ h
abbrev V_X10_dark_0 (l : Launch) (G : mj_G) (a0 : Nat) (S : mj_S) (Q : mj_S → Int32 → Prop) : Prop := mj_V l G (mj_room 7 0 0) RX10 cX10_dark 1 (some .int) false 0 [some (.ref a0)] [] S 0 0 (mj_std G (some .int) (mj_room 7 0 0) (mj_qi Q))
theorem e_X10_dark {l : Launch} {G : mj_G} {a0 : Nat} {S : mj_S} {Q : mj_S → Int32 → Prop} (h : V_X10_dark_0 l G a0 S Q) : M_X10_dark l G a0 S Q := mj_enter (r := 0) (ini := false) (by decide +kernel) (fun h => by cases h) (fun _ => Nat.le_of_ble_eq_true rfl) rfl h
set_option maxRecDepth 20000 in
set_option maxHeartbeats 1000000 in
theorem b_X10_dark_0 {l : Launch} {G : mj_G} {a0 : Nat} {S : mj_S} {Q : mj_S → Int32 → Prop} (hk_a0 : m_kd S a0 = 9) (h : M_X10_hasRoom l G a0 S (fun S1 r2 => ((¬ r2 = 0) → ∃ b3, m_gp S1 a0 7 = some b3 ∧ (M_X10_shine l G a0 b3 S1 (fun S4 => ∃ b5, m_gp S4 a0 11 = some b5 ∧ (∃ b6, m_gp S4 a0 5 = some b6 ∧ (M_X3_darkness l G b5 (m_gi S4 b6 4) S4 (fun S7 r8 => Q S7 r8)))))) ∧ ((r2 = 0) → Q S1 (-1 : Int32)))) : V_X10_dark_0 l G a0 S Q := by
  refine mj_aload_n dX10_dark_0 rfl rfl ?_
  refine mj_callVi (as := []) (st := []) dX10_dark_1 cal_X10_hasRoom lk_X10_152 im_X10_hasRoom se_X10_hasRoom (ci := 9) rfl (by decide) hk_a0 h rfl (Nat.le_of_ble_eq_true rfl) (by decide) ⟨Nat.le_of_ble_eq_true rfl, Nat.le_of_ble_eq_true rfl⟩ (fun S1 r2 h hn_r2 hp => ?_)
  have hk_a0 : m_kd S1 a0 = 9 := m_kd_pre hp hk_a0 (by decide)
  refine mj_if_ne (tgt := 9) dX10_dark_4 (by decide) ⟨fun hc => ?_, fun hc => ?_⟩
  · replace h := h.1 hc
    refine mj_aload_n dX10_dark_9 rfl rfl ?_
    refine mj_aload_n dX10_dark_10 rfl rfl ?_
    obtain ⟨b3, eb3, h⟩ := h
    refine mj_getP dX10_dark_11 fl_X10_51_9 hk_a0 rfl ⟨b3, eb3, fun hk_b3 => ?_⟩
    refine mj_callVv (as := [.ref b3]) (st := []) dX10_dark_14 cal_X10_shine lk_X10_261 im_X10_shine se_X10_shine (ci := 9) rfl (by decide) hk_a0 h rfl (Nat.le_of_ble_eq_true rfl) (by decide) ⟨Nat.le_of_ble_eq_true rfl, Nat.le_of_ble_eq_true rfl⟩ (fun S4 h hp => ?_)
    have hk_a0 : m_kd S4 a0 = 9 := m_kd_pre hp hk_a0 (by decide)
    have hk_b3 : m_kd S4 b3 = 7 := m_kd_pre hp hk_b3 (by decide)
    refine mj_aload_n dX10_dark_17 rfl rfl ?_
    obtain ⟨b5, eb5, h⟩ := h
    refine mj_getP dX10_dark_18 fl_X10_75_9 hk_a0 rfl ⟨b5, eb5, fun hk_b5 => ?_⟩
    refine mj_aload_n dX10_dark_21 rfl rfl ?_
    obtain ⟨b6, eb6, h⟩ := h
    refine mj_getP dX10_dark_22 fl_X10_41_9 hk_a0 rfl ⟨b6, eb6, fun hk_b6 => ?_⟩
    refine mj_getI dX10_dark_25 fl_X10_143_5 hk_b6 rfl ?_
    refine mj_callVi (as := [.int (m_gi S4 b6 4)]) (st := []) dX10_dark_28 cal_X3_darkness lk_X10_354 im_X3_darkness se_X3_darkness (ci := 3) rfl (by decide) hk_b5 h rfl (Nat.le_of_ble_eq_true rfl) (by decide) ⟨Nat.le_of_ble_eq_true rfl, Nat.le_of_ble_eq_true rfl⟩ (fun S7 r8 h hn_r8 hp => ?_)
    have hk_a0 : m_kd S7 a0 = 9 := m_kd_pre hp hk_a0 (by decide)
    have hk_b3 : m_kd S7 b3 = 7 := m_kd_pre hp hk_b3 (by decide)
    have hk_b5 : m_kd S7 b5 = 3 := m_kd_pre hp hk_b5 (by decide)
    have hk_b6 : m_kd S7 b6 = 5 := m_kd_pre hp hk_b6 (by decide)
    exact mj_reti dX10_dark_31 rfl ⟨Nat.le_of_ble_eq_true rfl, Nat.le_of_ble_eq_true rfl⟩ h
  · replace h := h.2 hc
    refine mj_iconst (v := (-1)) dX10_dark_7 (by decide) ?_
    exact mj_reti dX10_dark_8 rfl ⟨Nat.le_of_ble_eq_true rfl, Nat.le_of_ble_eq_true rfl⟩ h
abbrev V_X10_borders_0 (l : Launch) (G : mj_G) (a0 : Nat) (x1 : Int32) (S : mj_S) (Q : mj_S → Int32 → Prop) : Prop := mj_V l G (mj_room 4 0 0) RX10 cX10_borders 2 (some .int) false 0 [some (.ref a0), some (.int x1)] [] S 0 0 (mj_std G (some .int) (mj_room 4 0 0) (mj_qi Q))
theorem e_X10_borders {l : Launch} {G : mj_G} {a0 : Nat} {x1 : Int32} {S : mj_S} {Q : mj_S → Int32 → Prop} (h : V_X10_borders_0 l G a0 x1 S Q) : M_X10_borders l G a0 x1 S Q := mj_enter (r := 0) (ini := false) (by decide +kernel) (fun h => by cases h) (fun _ => Nat.le_of_ble_eq_true rfl) rfl h
set_option maxRecDepth 20000 in
set_option maxHeartbeats 1000000 in
theorem b_X10_borders_0 {l : Launch} {G : mj_G} {a0 : Nat} {x1 : Int32} {S : mj_S} {Q : mj_S → Int32 → Prop} (hk_a0 : m_kd S a0 = 9) (h : M_X10_isSquare l G a0 x1 S (fun S1 r2 => ((r2 = 0) → Q S1 (-1 : Int32)) ∧ ((¬ (r2 = 0)) → M_X10_stateAround l G a0 x1 S1 (fun S3 r4 => M_X10_bordersOf l G a0 r4 S3 (fun S5 r6 => Q S5 r6))))) : V_X10_borders_0 l G a0 x1 S Q := by
  refine mj_aload_n dX10_borders_0 rfl rfl ?_
  refine mj_iload_n dX10_borders_1 rfl rfl ?_
  refine mj_callVi (as := [.int x1]) (st := []) dX10_borders_2 cal_X10_isSquare lk_X10_258 im_X10_isSquare se_X10_isSquare (ci := 9) rfl (by decide) hk_a0 h rfl (Nat.le_of_ble_eq_true rfl) (by decide) ⟨Nat.le_of_ble_eq_true rfl, Nat.le_of_ble_eq_true rfl⟩ (fun S1 r2 h hn_r2 hp => ?_)
  have hk_a0 : m_kd S1 a0 = 9 := m_kd_pre hp hk_a0 (by decide)
  refine mj_if_eq (tgt := 20) dX10_borders_5 (by decide) ⟨fun hc => ?_, fun hc => ?_⟩
  · replace h := h.1 hc
    refine mj_iconst (v := (-1)) dX10_borders_20 (by decide) ?_
    exact mj_reti dX10_borders_21 rfl ⟨Nat.le_of_ble_eq_true rfl, Nat.le_of_ble_eq_true rfl⟩ h
  · replace h := h.2 hc
    refine mj_aload_n dX10_borders_8 rfl rfl ?_
    refine mj_aload_n dX10_borders_9 rfl rfl ?_
    refine mj_iload_n dX10_borders_10 rfl rfl ?_
    refine mj_callVi (as := [.int x1]) (st := [.ref a0]) dX10_borders_11 cal_X10_stateAround lk_X10_217 im_X10_stateAround se_X10_stateAround (ci := 9) rfl (by decide) hk_a0 h rfl (Nat.le_of_ble_eq_true rfl) (by decide) ⟨Nat.le_of_ble_eq_true rfl, Nat.le_of_ble_eq_true rfl⟩ (fun S3 r4 h hn_r4 hp => ?_)
    have hk_a0 : m_kd S3 a0 = 9 := m_kd_pre hp hk_a0 (by decide)
    refine mj_callVi (as := [.int r4]) (st := []) dX10_borders_14 cal_X10_bordersOf lk_X10_268 im_X10_bordersOf se_X10_bordersOf (ci := 9) rfl (by decide) hk_a0 h rfl (Nat.le_of_ble_eq_true rfl) (by decide) ⟨Nat.le_of_ble_eq_true rfl, Nat.le_of_ble_eq_true rfl⟩ (fun S5 r6 h hn_r6 hp => ?_)
    have hk_a0 : m_kd S5 a0 = 9 := m_kd_pre hp hk_a0 (by decide)
    refine mj_goto (tgt := 21) dX10_borders_17 (by decide) ?_
    exact mj_reti dX10_borders_21 rfl ⟨Nat.le_of_ble_eq_true rfl, Nat.le_of_ble_eq_true rfl⟩ h
abbrev V_X10_guests_0 (l : Launch) (G : mj_G) (a0 : Nat) (S : mj_S) (Q : mj_S → Int32 → Prop) : Prop := mj_V l G (mj_room 4 0 0) RX10 cX10_guests 3 (some .int) false 0 [some (.ref a0), none, none] [] S 0 0 (mj_std G (some .int) (mj_room 4 0 0) (mj_qi Q))
abbrev V_X10_guests_13 (l : Launch) (G : mj_G) (a0 : Nat) (x1 : Int32) (x2 : Int32) (S : mj_S) (Q : mj_S → Int32 → Prop) : Prop := mj_V l G (mj_room 4 0 0) RX10 cX10_guests 3 (some .int) false 13 [some (.ref a0), some (.int x1), some (.int x2)] [] S 0 0 (mj_std G (some .int) (mj_room 4 0 0) (mj_qi Q))
theorem e_X10_guests {l : Launch} {G : mj_G} {a0 : Nat} {S : mj_S} {Q : mj_S → Int32 → Prop} (h : V_X10_guests_0 l G a0 S Q) : M_X10_guests l G a0 S Q := mj_enter (r := 2) (ini := false) (by decide +kernel) (fun h => by cases h) (fun _ => Nat.le_of_ble_eq_true rfl) rfl h
set_option maxRecDepth 20000 in
set_option maxHeartbeats 1000000 in
theorem b_X10_guests_0 {l : Launch} {G : mj_G} {a0 : Nat} {S : mj_S} {Q : mj_S → Int32 → Prop} (hk_a0 : m_kd S a0 = 9) (h : M_X10_hasRoom l G a0 S (fun S1 r2 => ((¬ r2 = 0) → V_X10_guests_13 l G a0 (0 : Int32) (0 : Int32) S1 Q) ∧ ((r2 = 0) → Q S1 (-1 : Int32)))) : V_X10_guests_0 l G a0 S Q := by
  refine mj_aload_n dX10_guests_0 rfl rfl ?_
  refine mj_callVi (as := []) (st := []) dX10_guests_1 cal_X10_hasRoom lk_X10_152 im_X10_hasRoom se_X10_hasRoom (ci := 9) rfl (by decide) hk_a0 h rfl (Nat.le_of_ble_eq_true rfl) (by decide) ⟨Nat.le_of_ble_eq_true rfl, Nat.le_of_ble_eq_true rfl⟩ (fun S1 r2 h hn_r2 hp => ?_)
  have hk_a0 : m_kd S1 a0 = 9 := m_kd_pre hp hk_a0 (by decide)
  refine mj_if_ne (tgt := 9) dX10_guests_4 (by decide) ⟨fun hc => ?_, fun hc => ?_⟩
  · replace h := h.1 hc
    refine mj_iconst (v := 0) dX10_guests_9 (by decide) ?_
    refine mj_istore_n dX10_guests_10 rfl (by decide) rfl rfl ?_
    refine mj_iconst (v := 0) dX10_guests_11 (by decide) ?_
    refine mj_istore_n dX10_guests_12 rfl (by decide) rfl rfl ?_
    exact h
  · replace h := h.2 hc
    refine mj_iconst (v := (-1)) dX10_guests_7 (by decide) ?_
    exact mj_reti dX10_guests_8 rfl ⟨Nat.le_of_ble_eq_true rfl, Nat.le_of_ble_eq_true rfl⟩ h
set_option maxRecDepth 20000 in
set_option maxHeartbeats 1000000 in
theorem b_X10_guests_13 {l : Launch} {G : mj_G} {a0 : Nat} {x1 : Int32} {x2 : Int32} {S : mj_S} {Q : mj_S → Int32 → Prop} (hk_a0 : m_kd S a0 = 9) (h : ∃ b1, m_gp S a0 5 = some b1 ∧ ((((m_gi S b1 15) ≤ x2) → Q S x1) ∧ ((¬ ((m_gi S b1 15) ≤ x2)) → ∃ b2, m_gp S a0 7 = some b2 ∧ (∃ b3, m_gp S b2 2 = some b3 ∧ (vp_in x2 (m_ln S b3) ∧ (M_X10_stateAround l G a0 (m_gi S b3 (x2).toNatClampNeg) S (fun S4 r5 => M_X10_lordIn l G a0 r5 S4 (fun S6 r7 => ((r7 = x2) → ∀ v8 : Int32, v8 = x2 + (1 : Int32) → V_X10_guests_13 l G a0 x1 v8 S6 Q) ∧ ((¬ (r7 = x2)) → ∀ v9 : Int32, v9 = (x1 ||| ((1 : Int32) <<< (x2 &&& 31))) → ∀ v10 : Int32, v10 = x2 + (1 : Int32) → V_X10_guests_13 l G a0 v9 v10 S6 Q))))))))) : V_X10_guests_13 l G a0 x1 x2 S Q := by
  refine mj_iload_n dX10_guests_13 rfl rfl ?_
  refine mj_aload_n dX10_guests_14 rfl rfl ?_
  obtain ⟨b1, eb1, h⟩ := h
  refine mj_getP dX10_guests_15 fl_X10_41_9 hk_a0 rfl ⟨b1, eb1, fun hk_b1 => ?_⟩
  refine mj_getI dX10_guests_18 fl_X10_149_5 hk_b1 rfl ?_
  refine mj_icmp_ge (tgt := 57) dX10_guests_21 (by decide) ⟨fun hc => ?_, fun hc => ?_⟩
  · replace h := h.1 hc
    refine mj_iload_n dX10_guests_57 rfl rfl ?_
    exact mj_reti dX10_guests_58 rfl ⟨Nat.le_of_ble_eq_true rfl, Nat.le_of_ble_eq_true rfl⟩ h
  · replace h := h.2 hc
    refine mj_aload_n dX10_guests_24 rfl rfl ?_
    refine mj_aload_n dX10_guests_25 rfl rfl ?_
    refine mj_aload_n dX10_guests_26 rfl rfl ?_
    obtain ⟨b2, eb2, h⟩ := h
    refine mj_getP dX10_guests_27 fl_X10_51_9 hk_a0 rfl ⟨b2, eb2, fun hk_b2 => ?_⟩
    obtain ⟨b3, eb3, h⟩ := h
    refine mj_getP dX10_guests_30 fl_X10_211_7 hk_b2 rfl ⟨b3, eb3, fun hk_b3 => ?_⟩
    refine mj_iload_n dX10_guests_33 rfl rfl ?_
    refine mj_iald dX10_guests_34 (Or.inl hk_b3) ⟨h.1, ?_⟩
    replace h := h.2
    refine mj_callVi (as := [.int (m_gi S b3 (x2).toNatClampNeg)]) (st := [.ref a0]) dX10_guests_35 cal_X10_stateAround lk_X10_217 im_X10_stateAround se_X10_stateAround (ci := 9) rfl (by decide) hk_a0 h rfl (Nat.le_of_ble_eq_true rfl) (by decide) ⟨Nat.le_of_ble_eq_true rfl, Nat.le_of_ble_eq_true rfl⟩ (fun S4 r5 h hn_r5 hp => ?_)
    have hk_a0 : m_kd S4 a0 = 9 := m_kd_pre hp hk_a0 (by decide)
    have hk_b1 : m_kd S4 b1 = 5 := m_kd_pre hp hk_b1 (by decide)
    have hk_b2 : m_kd S4 b2 = 7 := m_kd_pre hp hk_b2 (by decide)
    have hk_b3 : m_kd S4 b3 = 100 := m_kd_pre hp hk_b3 (by decide)
    refine mj_callVi (as := [.int r5]) (st := []) dX10_guests_38 cal_X10_lordIn lk_X10_223 im_X10_lordIn se_X10_lordIn (ci := 9) rfl (by decide) hk_a0 h rfl (Nat.le_of_ble_eq_true rfl) (by decide) ⟨Nat.le_of_ble_eq_true rfl, Nat.le_of_ble_eq_true rfl⟩ (fun S6 r7 h hn_r7 hp => ?_)
    have hk_a0 : m_kd S6 a0 = 9 := m_kd_pre hp hk_a0 (by decide)
    have hk_b1 : m_kd S6 b1 = 5 := m_kd_pre hp hk_b1 (by decide)
    have hk_b2 : m_kd S6 b2 = 7 := m_kd_pre hp hk_b2 (by decide)
    have hk_b3 : m_kd S6 b3 = 100 := m_kd_pre hp hk_b3 (by decide)
    refine mj_iload_n dX10_guests_41 rfl rfl ?_
    refine mj_icmp_eq (tgt := 51) dX10_guests_42 (by decide) ⟨fun hc => ?_, fun hc => ?_⟩
    · replace h := h.1 hc
      obtain ⟨v8, ev8⟩ : ∃ z : Int32, z = x2 + (1 : Int32) := ⟨_, rfl⟩
      refine mj_iinc (v := v8) dX10_guests_51 rfl (by rw [ev8]; rfl) (by decide) rfl rfl ?_
      replace h := h v8 ev8
      refine mj_goto (tgt := 13) dX10_guests_54 (by decide) ?_
      exact h
    · replace h := h.2 hc
      refine mj_iload_n dX10_guests_45 rfl rfl ?_
      refine mj_iconst (v := 1) dX10_guests_46 (by decide) ?_
      refine mj_iload_n dX10_guests_47 rfl rfl ?_
      refine mj_ishl dX10_guests_48 ?_
      refine mj_ior dX10_guests_49 ?_
      refine mj_nmi (fun v9 ev9 => ?_)
      replace h := h v9 ev9
      refine mj_istore_n dX10_guests_50 rfl (by decide) rfl rfl ?_
      obtain ⟨v10, ev10⟩ : ∃ z : Int32, z = x2 + (1 : Int32) := ⟨_, rfl⟩
      refine mj_iinc (v := v10) dX10_guests_51 rfl (by rw [ev10]; rfl) (by decide) rfl rfl ?_
      replace h := h v10 ev10
      refine mj_goto (tgt := 13) dX10_guests_54 (by decide) ?_
      exact h
