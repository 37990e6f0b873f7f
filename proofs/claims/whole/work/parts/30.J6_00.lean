abbrev V_J6_numberOfTrailingZeros_0f7a4_0 (l : Launch) (G : mj_G) (x0 : Int32) (S : mj_S) (Q : mj_S → Int32 → Prop) : Prop := mj_V l G (mj_room 1 0 0) RJ6 cJ6_numberOfTrailingZeros_0f7a4 2 (some .int) false 0 [some (.int x0), none] [] S 0 0 (mj_std G (some .int) (mj_room 1 0 0) (mj_qi Q))
abbrev V_J6_numberOfTrailingZeros_0f7a4_34 (l : Launch) (G : mj_G) (x0 : Int32) (x1 : Int32) (S : mj_S) (Q : mj_S → Int32 → Prop) : Prop := mj_V l G (mj_room 1 0 0) RJ6 cJ6_numberOfTrailingZeros_0f7a4 2 (some .int) false 34 [some (.int x0), some (.int x1)] [] S 0 0 (mj_std G (some .int) (mj_room 1 0 0) (mj_qi Q))
abbrev V_J6_numberOfTrailingZeros_0f7a4_49 (l : Launch) (G : mj_G) (x0 : Int32) (x1 : Int32) (S : mj_S) (Q : mj_S → Int32 → Prop) : Prop := mj_V l G (mj_room 1 0 0) RJ6 cJ6_numberOfTrailingZeros_0f7a4 2 (some .int) false 49 [some (.int x0), some (.int x1)] [] S 0 0 (mj_std G (some .int) (mj_room 1 0 0) (mj_qi Q))
abbrev V_J6_numberOfTrailingZeros_0f7a4_62 (l : Launch) (G : mj_G) (x0 : Int32) (x1 : Int32) (S : mj_S) (Q : mj_S → Int32 → Prop) : Prop := mj_V l G (mj_room 1 0 0) RJ6 cJ6_numberOfTrailingZeros_0f7a4 2 (some .int) false 62 [some (.int x0), some (.int x1)] [] S 0 0 (mj_std G (some .int) (mj_room 1 0 0) (mj_qi Q))
theorem e_J6_numberOfTrailingZeros_0f7a4 {l : Launch} {G : mj_G} {x0 : Int32} {S : mj_S} {Q : mj_S → Int32 → Prop} (h : V_J6_numberOfTrailingZeros_0f7a4_0 l G x0 S Q) : M_J6_numberOfTrailingZeros_0f7a4 l G x0 S Q := mj_enterF (r := 1) (ini := false) (by decide +kernel) (fun h => by cases h) (fun _ => Nat.le_of_ble_eq_true rfl) rfl h
set_option maxRecDepth 20000 in
set_option maxHeartbeats 1000000 in
theorem b_J6_numberOfTrailingZeros_0f7a4_0 {l : Launch} {G : mj_G} {x0 : Int32} {S : mj_S} {Q : mj_S → Int32 → Prop} (h : ∀ v1 : Int32, v1 = ((x0 ^^^ (-1 : Int32)) &&& (x0 - (1 : Int32))) → ((0 < v1) → ((v1 ≤ (65536 : Int32)) → V_J6_numberOfTrailingZeros_0f7a4_34 l G v1 (1 : Int32) S Q) ∧ ((¬ (v1 ≤ (65536 : Int32))) → ∀ v2 : Int32, v2 = (1 : Int32) + (16 : Int32) → ∀ v3 : Int32, v3 = (((v1).toUInt32 >>> (((16 : Int32)).toUInt32 &&& Int32.toUInt32 31)).toInt32) → V_J6_numberOfTrailingZeros_0f7a4_34 l G v3 v2 S Q)) ∧ ((¬ (0 < v1)) → Q S (v1 &&& (32 : Int32)))) : V_J6_numberOfTrailingZeros_0f7a4_0 l G x0 S Q := by
  refine mj_iload_n dJ6_numberOfTrailingZeros_0f7a4_0 rfl rfl ?_
  refine mj_iconst (v := (-1)) dJ6_numberOfTrailingZeros_0f7a4_1 (by decide) ?_
  refine mj_ixor dJ6_numberOfTrailingZeros_0f7a4_2 ?_
  refine mj_iload_n dJ6_numberOfTrailingZeros_0f7a4_3 rfl rfl ?_
  refine mj_iconst (v := 1) dJ6_numberOfTrailingZeros_0f7a4_4 (by decide) ?_
  refine mj_isub dJ6_numberOfTrailingZeros_0f7a4_5 ?_
  refine mj_iand dJ6_numberOfTrailingZeros_0f7a4_6 ?_
  refine mj_nmi (fun v1 ev1 => ?_)
  replace h := h v1 ev1
  refine mj_istore_n dJ6_numberOfTrailingZeros_0f7a4_7 rfl (by decide) rfl rfl ?_
  refine mj_iload_n dJ6_numberOfTrailingZeros_0f7a4_8 rfl rfl ?_
  refine mj_if_gt (tgt := 17) dJ6_numberOfTrailingZeros_0f7a4_9 (by decide) ⟨fun hc => ?_, fun hc => ?_⟩
  · replace h := h.1 hc
    refine mj_iconst (v := 1) dJ6_numberOfTrailingZeros_0f7a4_17 (by decide) ?_
    refine mj_istore_n dJ6_numberOfTrailingZeros_0f7a4_18 rfl (by decide) rfl rfl ?_
    refine mj_iload_n dJ6_numberOfTrailingZeros_0f7a4_19 rfl rfl ?_
    refine mj_ldcw dJ6_numberOfTrailingZeros_0f7a4_20 co_J6_264 ?_
    refine mj_icmp_le (tgt := 34) dJ6_numberOfTrailingZeros_0f7a4_23 (by decide) ⟨fun hc => ?_, fun hc => ?_⟩
    · replace h := h.1 hc
      exact h
    · replace h := h.2 hc
      obtain ⟨v2, ev2⟩ : ∃ z : Int32, z = (1 : Int32) + (16 : Int32) := ⟨_, rfl⟩
      refine mj_iinc (v := v2) dJ6_numberOfTrailingZeros_0f7a4_26 rfl (by rw [ev2]; rfl) (by decide) rfl rfl ?_
      replace h := h v2 ev2
      refine mj_iload_n dJ6_numberOfTrailingZeros_0f7a4_29 rfl rfl ?_
      refine mj_bipush (v := 16) dJ6_numberOfTrailingZeros_0f7a4_30 (by decide) ?_
      refine mj_iushr dJ6_numberOfTrailingZeros_0f7a4_32 ?_
      refine mj_nmi (fun v3 ev3 => ?_)
      replace h := h v3 ev3
      refine mj_istore_n dJ6_numberOfTrailingZeros_0f7a4_33 rfl (by decide) rfl rfl ?_
      exact h
  · replace h := h.2 hc
    refine mj_iload_n dJ6_numberOfTrailingZeros_0f7a4_12 rfl rfl ?_
    refine mj_bipush (v := 32) dJ6_numberOfTrailingZeros_0f7a4_13 (by decide) ?_
    refine mj_iand dJ6_numberOfTrailingZeros_0f7a4_15 ?_
    exact mj_reti dJ6_numberOfTrailingZeros_0f7a4_16 rfl ⟨Nat.le_of_ble_eq_true rfl, Nat.le_of_ble_eq_true rfl⟩ h
set_option maxRecDepth 20000 in
set_option maxHeartbeats 1000000 in
theorem b_J6_numberOfTrailingZeros_0f7a4_34 {l : Launch} {G : mj_G} {x0 : Int32} {x1 : Int32} {S : mj_S} {Q : mj_S → Int32 → Prop} (h : ((x0 ≤ (256 : Int32)) → V_J6_numberOfTrailingZeros_0f7a4_49 l G x0 x1 S Q) ∧ ((¬ (x0 ≤ (256 : Int32))) → ∀ v1 : Int32, v1 = x1 + (8 : Int32) → ∀ v2 : Int32, v2 = (((x0).toUInt32 >>> (((8 : Int32)).toUInt32 &&& Int32.toUInt32 31)).toInt32) → V_J6_numberOfTrailingZeros_0f7a4_49 l G v2 v1 S Q)) : V_J6_numberOfTrailingZeros_0f7a4_34 l G x0 x1 S Q := by
  refine mj_iload_n dJ6_numberOfTrailingZeros_0f7a4_34 rfl rfl ?_
  refine mj_sipush (v := 256) dJ6_numberOfTrailingZeros_0f7a4_35 (by decide) ?_
  refine mj_icmp_le (tgt := 49) dJ6_numberOfTrailingZeros_0f7a4_38 (by decide) ⟨fun hc => ?_, fun hc => ?_⟩
  · replace h := h.1 hc
    exact h
  · replace h := h.2 hc
    obtain ⟨v1, ev1⟩ : ∃ z : Int32, z = x1 + (8 : Int32) := ⟨_, rfl⟩
    refine mj_iinc (v := v1) dJ6_numberOfTrailingZeros_0f7a4_41 rfl (by rw [ev1]; rfl) (by decide) rfl rfl ?_
    replace h := h v1 ev1
    refine mj_iload_n dJ6_numberOfTrailingZeros_0f7a4_44 rfl rfl ?_
    refine mj_bipush (v := 8) dJ6_numberOfTrailingZeros_0f7a4_45 (by decide) ?_
    refine mj_iushr dJ6_numberOfTrailingZeros_0f7a4_47 ?_
    refine mj_nmi (fun v2 ev2 => ?_)
    replace h := h v2 ev2
    refine mj_istore_n dJ6_numberOfTrailingZeros_0f7a4_48 rfl (by decide) rfl rfl ?_
    exact h
set_option maxRecDepth 20000 in
set_option maxHeartbeats 1000000 in
theorem b_J6_numberOfTrailingZeros_0f7a4_49 {l : Launch} {G : mj_G} {x0 : Int32} {x1 : Int32} {S : mj_S} {Q : mj_S → Int32 → Prop} (h : ((x0 ≤ (16 : Int32)) → V_J6_numberOfTrailingZeros_0f7a4_62 l G x0 x1 S Q) ∧ ((¬ (x0 ≤ (16 : Int32))) → ∀ v1 : Int32, v1 = x1 + (4 : Int32) → ∀ v2 : Int32, v2 = (((x0).toUInt32 >>> (((4 : Int32)).toUInt32 &&& Int32.toUInt32 31)).toInt32) → V_J6_numberOfTrailingZeros_0f7a4_62 l G v2 v1 S Q)) : V_J6_numberOfTrailingZeros_0f7a4_49 l G x0 x1 S Q := by
  refine mj_iload_n dJ6_numberOfTrailingZeros_0f7a4_49 rfl rfl ?_
  refine mj_bipush (v := 16) dJ6_numberOfTrailingZeros_0f7a4_50 (by decide) ?_
  refine mj_icmp_le (tgt := 62) dJ6_numberOfTrailingZeros_0f7a4_52 (by decide) ⟨fun hc => ?_, fun hc => ?_⟩
  · replace h := h.1 hc
    exact h
  · replace h := h.2 hc
    obtain ⟨v1, ev1⟩ : ∃ z : Int32, z = x1 + (4 : Int32) := ⟨_, rfl⟩
    refine mj_iinc (v := v1) dJ6_numberOfTrailingZeros_0f7a4_55 rfl (by rw [ev1]; rfl) (by decide) rfl rfl ?_
    replace h := h v1 ev1
    refine mj_iload_n dJ6_numberOfTrailingZeros_0f7a4_58 rfl rfl ?_
    refine mj_iconst (v := 4) dJ6_numberOfTrailingZeros_0f7a4_59 (by decide) ?_
    refine mj_iushr dJ6_numberOfTrailingZeros_0f7a4_60 ?_
    refine mj_nmi (fun v2 ev2 => ?_)
    replace h := h v2 ev2
    refine mj_istore_n dJ6_numberOfTrailingZeros_0f7a4_61 rfl (by decide) rfl rfl ?_
    exact h
set_option maxRecDepth 20000 in
set_option maxHeartbeats 1000000 in
theorem b_J6_numberOfTrailingZeros_0f7a4_62 {l : Launch} {G : mj_G} {x0 : Int32} {x1 : Int32} {S : mj_S} {Q : mj_S → Int32 → Prop} (h : ((x0 ≤ (4 : Int32)) → Q S (x1 + (((x0).toUInt32 >>> (((1 : Int32)).toUInt32 &&& Int32.toUInt32 31)).toInt32))) ∧ ((¬ (x0 ≤ (4 : Int32))) → ∀ v1 : Int32, v1 = x1 + (2 : Int32) → ∀ v2 : Int32, v2 = (((x0).toUInt32 >>> (((2 : Int32)).toUInt32 &&& Int32.toUInt32 31)).toInt32) → Q S (v1 + (((v2).toUInt32 >>> (((1 : Int32)).toUInt32 &&& Int32.toUInt32 31)).toInt32)))) : V_J6_numberOfTrailingZeros_0f7a4_62 l G x0 x1 S Q := by
  refine mj_iload_n dJ6_numberOfTrailingZeros_0f7a4_62 rfl rfl ?_
  refine mj_iconst (v := 4) dJ6_numberOfTrailingZeros_0f7a4_63 (by decide) ?_
  refine mj_icmp_le (tgt := 74) dJ6_numberOfTrailingZeros_0f7a4_64 (by decide) ⟨fun hc => ?_, fun hc => ?_⟩
  · replace h := h.1 hc
    refine mj_iload_n dJ6_numberOfTrailingZeros_0f7a4_74 rfl rfl ?_
    refine mj_iload_n dJ6_numberOfTrailingZeros_0f7a4_75 rfl rfl ?_
    refine mj_iconst (v := 1) dJ6_numberOfTrailingZeros_0f7a4_76 (by decide) ?_
    refine mj_iushr dJ6_numberOfTrailingZeros_0f7a4_77 ?_
    refine mj_iadd dJ6_numberOfTrailingZeros_0f7a4_78 ?_
    exact mj_reti dJ6_numberOfTrailingZeros_0f7a4_79 rfl ⟨Nat.le_of_ble_eq_true rfl, Nat.le_of_ble_eq_true rfl⟩ h
  · replace h := h.2 hc
    obtain ⟨v1, ev1⟩ : ∃ z : Int32, z = x1 + (2 : Int32) := ⟨_, rfl⟩
    refine mj_iinc (v := v1) dJ6_numberOfTrailingZeros_0f7a4_67 rfl (by rw [ev1]; rfl) (by decide) rfl rfl ?_
    replace h := h v1 ev1
    refine mj_iload_n dJ6_numberOfTrailingZeros_0f7a4_70 rfl rfl ?_
    refine mj_iconst (v := 2) dJ6_numberOfTrailingZeros_0f7a4_71 (by decide) ?_
    refine mj_iushr dJ6_numberOfTrailingZeros_0f7a4_72 ?_
    refine mj_nmi (fun v2 ev2 => ?_)
    replace h := h v2 ev2
    refine mj_istore_n dJ6_numberOfTrailingZeros_0f7a4_73 rfl (by decide) rfl rfl ?_
    refine mj_iload_n dJ6_numberOfTrailingZeros_0f7a4_74 rfl rfl ?_
    refine mj_iload_n dJ6_numberOfTrailingZeros_0f7a4_75 rfl rfl ?_
    refine mj_iconst (v := 1) dJ6_numberOfTrailingZeros_0f7a4_76 (by decide) ?_
    refine mj_iushr dJ6_numberOfTrailingZeros_0f7a4_77 ?_
    refine mj_iadd dJ6_numberOfTrailingZeros_0f7a4_78 ?_
    exact mj_reti dJ6_numberOfTrailingZeros_0f7a4_79 rfl ⟨Nat.le_of_ble_eq_true rfl, Nat.le_of_ble_eq_true rfl⟩ h
abbrev V_J6_bitCount_0f7a4_0 (l : Launch) (G : mj_G) (x0 : Int32) (S : mj_S) (Q : mj_S → Int32 → Prop) : Prop := mj_V l G (mj_room 1 0 0) RJ6 cJ6_bitCount_0f7a4 1 (some .int) false 0 [some (.int x0)] [] S 0 0 (mj_std G (some .int) (mj_room 1 0 0) (mj_qi Q))
theorem e_J6_bitCount_0f7a4 {l : Launch} {G : mj_G} {x0 : Int32} {S : mj_S} {Q : mj_S → Int32 → Prop} (h : V_J6_bitCount_0f7a4_0 l G x0 S Q) : M_J6_bitCount_0f7a4 l G x0 S Q := mj_enterF (r := 0) (ini := false) (by decide +kernel) (fun h => by cases h) (fun _ => Nat.le_of_ble_eq_true rfl) rfl h
set_option maxRecDepth 20000 in
set_option maxHeartbeats 1000000 in
theorem b_J6_bitCount_0f7a4_0 {l : Launch} {G : mj_G} {x0 : Int32} {S : mj_S} {Q : mj_S → Int32 → Prop} (h : ∀ v1 : Int32, v1 = (x0 - ((((x0).toUInt32 >>> (((1 : Int32)).toUInt32 &&& Int32.toUInt32 31)).toInt32) &&& (1431655765 : Int32))) → ∀ v2 : Int32, v2 = ((v1 &&& (858993459 : Int32)) + ((((v1).toUInt32 >>> (((2 : Int32)).toUInt32 &&& Int32.toUInt32 31)).toInt32) &&& (858993459 : Int32))) → ∀ v3 : Int32, v3 = ((v2 + (((v2).toUInt32 >>> (((4 : Int32)).toUInt32 &&& Int32.toUInt32 31)).toInt32)) &&& (252645135 : Int32)) → ∀ v4 : Int32, v4 = (v3 + (((v3).toUInt32 >>> (((8 : Int32)).toUInt32 &&& Int32.toUInt32 31)).toInt32)) → ∀ v5 : Int32, v5 = (v4 + (((v4).toUInt32 >>> (((16 : Int32)).toUInt32 &&& Int32.toUInt32 31)).toInt32)) → Q S (v5 &&& (63 : Int32))) : V_J6_bitCount_0f7a4_0 l G x0 S Q := by
  refine mj_iload_n dJ6_bitCount_0f7a4_0 rfl rfl ?_
  refine mj_iload_n dJ6_bitCount_0f7a4_1 rfl rfl ?_
  refine mj_iconst (v := 1) dJ6_bitCount_0f7a4_2 (by decide) ?_
  refine mj_iushr dJ6_bitCount_0f7a4_3 ?_
  refine mj_ldcw dJ6_bitCount_0f7a4_4 co_J6_265 ?_
  refine mj_iand dJ6_bitCount_0f7a4_7 ?_
  refine mj_isub dJ6_bitCount_0f7a4_8 ?_
  refine mj_nmi (fun v1 ev1 => ?_)
  replace h := h v1 ev1
  refine mj_istore_n dJ6_bitCount_0f7a4_9 rfl (by decide) rfl rfl ?_
  refine mj_iload_n dJ6_bitCount_0f7a4_10 rfl rfl ?_
  refine mj_ldcw dJ6_bitCount_0f7a4_11 co_J6_266 ?_
  refine mj_iand dJ6_bitCount_0f7a4_14 ?_
  refine mj_iload_n dJ6_bitCount_0f7a4_15 rfl rfl ?_
  refine mj_iconst (v := 2) dJ6_bitCount_0f7a4_16 (by decide) ?_
  refine mj_iushr dJ6_bitCount_0f7a4_17 ?_
  refine mj_ldcw dJ6_bitCount_0f7a4_18 co_J6_266 ?_
  refine mj_iand dJ6_bitCount_0f7a4_21 ?_
  refine mj_iadd dJ6_bitCount_0f7a4_22 ?_
  refine mj_nmi (fun v2 ev2 => ?_)
  replace h := h v2 ev2
  refine mj_istore_n dJ6_bitCount_0f7a4_23 rfl (by decide) rfl rfl ?_
  refine mj_iload_n dJ6_bitCount_0f7a4_24 rfl rfl ?_
  refine mj_iload_n dJ6_bitCount_0f7a4_25 rfl rfl ?_
  refine mj_iconst (v := 4) dJ6_bitCount_0f7a4_26 (by decide) ?_
  refine mj_iushr dJ6_bitCount_0f7a4_27 ?_
  refine mj_iadd dJ6_bitCount_0f7a4_28 ?_
  refine mj_ldcw dJ6_bitCount_0f7a4_29 co_J6_267 ?_
  refine mj_iand dJ6_bitCount_0f7a4_32 ?_
  refine mj_nmi (fun v3 ev3 => ?_)
  replace h := h v3 ev3
  refine mj_istore_n dJ6_bitCount_0f7a4_33 rfl (by decide) rfl rfl ?_
  refine mj_iload_n dJ6_bitCount_0f7a4_34 rfl rfl ?_
  refine mj_iload_n dJ6_bitCount_0f7a4_35 rfl rfl ?_
  refine mj_bipush (v := 8) dJ6_bitCount_0f7a4_36 (by decide) ?_
  refine mj_iushr dJ6_bitCount_0f7a4_38 ?_
  refine mj_iadd dJ6_bitCount_0f7a4_39 ?_
  refine mj_nmi (fun v4 ev4 => ?_)
  replace h := h v4 ev4
  refine mj_istore_n dJ6_bitCount_0f7a4_40 rfl (by decide) rfl rfl ?_
  refine mj_iload_n dJ6_bitCount_0f7a4_41 rfl rfl ?_
  refine mj_iload_n dJ6_bitCount_0f7a4_42 rfl rfl ?_
  refine mj_bipush (v := 16) dJ6_bitCount_0f7a4_43 (by decide) ?_
  refine mj_iushr dJ6_bitCount_0f7a4_45 ?_
  refine mj_iadd dJ6_bitCount_0f7a4_46 ?_
  refine mj_nmi (fun v5 ev5 => ?_)
  replace h := h v5 ev5
  refine mj_istore_n dJ6_bitCount_0f7a4_47 rfl (by decide) rfl rfl ?_
  refine mj_iload_n dJ6_bitCount_0f7a4_48 rfl rfl ?_
  refine mj_bipush (v := 63) dJ6_bitCount_0f7a4_49 (by decide) ?_
  refine mj_iand dJ6_bitCount_0f7a4_51 ?_
  exact mj_reti dJ6_bitCount_0f7a4_52 rfl ⟨Nat.le_of_ble_eq_true rfl, Nat.le_of_ble_eq_true rfl⟩ h
