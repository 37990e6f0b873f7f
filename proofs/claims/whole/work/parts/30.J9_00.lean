abbrev V_J9_floorMod_7cf53_0 (l : Launch) (G : mj_G) (x0 : Int32) (x1 : Int32) (S : mj_S) (Q : mj_S → Int32 → Prop) : Prop := mj_V l G (mj_room 1 0 0) RJ9 cJ9_floorMod_7cf53 3 (some .int) false 0 [some (.int x0), some (.int x1), none] [] S 0 0 (mj_std G (some .int) (mj_room 1 0 0) (mj_qi Q))
theorem e_J9_floorMod_7cf53 {l : Launch} {G : mj_G} {x0 : Int32} {x1 : Int32} {S : mj_S} {Q : mj_S → Int32 → Prop} (h : V_J9_floorMod_7cf53_0 l G x0 x1 S Q) : M_J9_floorMod_7cf53 l G x0 x1 S Q := mj_enterF (r := 1) (ini := false) (by decide +kernel) (fun h => by cases h) (fun _ => Nat.le_of_ble_eq_true rfl) rfl h
set_option maxRecDepth 20000 in
set_option maxHeartbeats 1000000 in
theorem b_J9_floorMod_7cf53_0 {l : Launch} {G : mj_G} {x0 : Int32} {x1 : Int32} {S : mj_S} {Q : mj_S → Int32 → Prop} (h : ¬ x1 = 0 ∧ (∀ v1 : Int32, v1 = (x0 - x0 / x1 * x1) → ((0 ≤ (x0 ^^^ x1)) → Q S v1) ∧ ((¬ (0 ≤ (x0 ^^^ x1))) → ((v1 = 0) → Q S v1) ∧ ((¬ (v1 = 0)) → Q S (v1 + x1))))) : V_J9_floorMod_7cf53_0 l G x0 x1 S Q := by
  refine mj_iload_n dJ9_floorMod_7cf53_0 rfl rfl ?_
  refine mj_iload_n dJ9_floorMod_7cf53_1 rfl rfl ?_
  refine mj_irem dJ9_floorMod_7cf53_2 h.1 ?_
  replace h := h.2
  refine mj_nmi (fun v1 ev1 => ?_)
  replace h := h v1 ev1
  refine mj_istore_n dJ9_floorMod_7cf53_3 rfl (by decide) rfl rfl ?_
  refine mj_iload_n dJ9_floorMod_7cf53_4 rfl rfl ?_
  refine mj_iload_n dJ9_floorMod_7cf53_5 rfl rfl ?_
  refine mj_ixor dJ9_floorMod_7cf53_6 ?_
  refine mj_if_ge (tgt := 18) dJ9_floorMod_7cf53_7 (by decide) ⟨fun hc => ?_, fun hc => ?_⟩
  · replace h := h.1 hc
    refine mj_iload_n dJ9_floorMod_7cf53_18 rfl rfl ?_
    exact mj_reti dJ9_floorMod_7cf53_19 rfl ⟨Nat.le_of_ble_eq_true rfl, Nat.le_of_ble_eq_true rfl⟩ h
  · replace h := h.2 hc
    refine mj_iload_n dJ9_floorMod_7cf53_10 rfl rfl ?_
    refine mj_if_eq (tgt := 18) dJ9_floorMod_7cf53_11 (by decide) ⟨fun hc => ?_, fun hc => ?_⟩
    · replace h := h.1 hc
      refine mj_iload_n dJ9_floorMod_7cf53_18 rfl rfl ?_
      exact mj_reti dJ9_floorMod_7cf53_19 rfl ⟨Nat.le_of_ble_eq_true rfl, Nat.le_of_ble_eq_true rfl⟩ h
    · replace h := h.2 hc
      refine mj_iload_n dJ9_floorMod_7cf53_14 rfl rfl ?_
      refine mj_iload_n dJ9_floorMod_7cf53_15 rfl rfl ?_
      refine mj_iadd dJ9_floorMod_7cf53_16 ?_
      exact mj_reti dJ9_floorMod_7cf53_17 rfl ⟨Nat.le_of_ble_eq_true rfl, Nat.le_of_ble_eq_true rfl⟩ h
abbrev V_J9_abs_0f7a4_0 (l : Launch) (G : mj_G) (x0 : Int32) (S : mj_S) (Q : mj_S → Int32 → Prop) : Prop := mj_V l G (mj_room 1 0 0) RJ9 cJ9_abs_0f7a4 1 (some .int) false 0 [some (.int x0)] [] S 0 0 (mj_std G (some .int) (mj_room 1 0 0) (mj_qi Q))
theorem e_J9_abs_0f7a4 {l : Launch} {G : mj_G} {x0 : Int32} {S : mj_S} {Q : mj_S → Int32 → Prop} (h : V_J9_abs_0f7a4_0 l G x0 S Q) : M_J9_abs_0f7a4 l G x0 S Q := mj_enterF (r := 0) (ini := false) (by decide +kernel) (fun h => by cases h) (fun _ => Nat.le_of_ble_eq_true rfl) rfl h
set_option maxRecDepth 20000 in
set_option maxHeartbeats 1000000 in
theorem b_J9_abs_0f7a4_0 {l : Launch} {G : mj_G} {x0 : Int32} {S : mj_S} {Q : mj_S → Int32 → Prop} (h : ((0 ≤ x0) → Q S x0) ∧ ((¬ (0 ≤ x0)) → Q S (-x0))) : V_J9_abs_0f7a4_0 l G x0 S Q := by
  refine mj_iload_n dJ9_abs_0f7a4_0 rfl rfl ?_
  refine mj_if_ge (tgt := 9) dJ9_abs_0f7a4_1 (by decide) ⟨fun hc => ?_, fun hc => ?_⟩
  · replace h := h.1 hc
    refine mj_iload_n dJ9_abs_0f7a4_9 rfl rfl ?_
    exact mj_reti dJ9_abs_0f7a4_10 rfl ⟨Nat.le_of_ble_eq_true rfl, Nat.le_of_ble_eq_true rfl⟩ h
  · replace h := h.2 hc
    refine mj_iload_n dJ9_abs_0f7a4_4 rfl rfl ?_
    refine mj_ineg dJ9_abs_0f7a4_5 ?_
    refine mj_goto (tgt := 10) dJ9_abs_0f7a4_6 (by decide) ?_
    exact mj_reti dJ9_abs_0f7a4_10 rfl ⟨Nat.le_of_ble_eq_true rfl, Nat.le_of_ble_eq_true rfl⟩ h
abbrev V_J9_max_7cf53_0 (l : Launch) (G : mj_G) (x0 : Int32) (x1 : Int32) (S : mj_S) (Q : mj_S → Int32 → Prop) : Prop := mj_V l G (mj_room 1 0 0) RJ9 cJ9_max_7cf53 2 (some .int) false 0 [some (.int x0), some (.int x1)] [] S 0 0 (mj_std G (some .int) (mj_room 1 0 0) (mj_qi Q))
theorem e_J9_max_7cf53 {l : Launch} {G : mj_G} {x0 : Int32} {x1 : Int32} {S : mj_S} {Q : mj_S → Int32 → Prop} (h : V_J9_max_7cf53_0 l G x0 x1 S Q) : M_J9_max_7cf53 l G x0 x1 S Q := mj_enterF (r := 0) (ini := false) (by decide +kernel) (fun h => by cases h) (fun _ => Nat.le_of_ble_eq_true rfl) rfl h
set_option maxRecDepth 20000 in
set_option maxHeartbeats 1000000 in
theorem b_J9_max_7cf53_0 {l : Launch} {G : mj_G} {x0 : Int32} {x1 : Int32} {S : mj_S} {Q : mj_S → Int32 → Prop} (h : ((x0 < x1) → Q S x1) ∧ ((¬ (x0 < x1)) → Q S x0)) : V_J9_max_7cf53_0 l G x0 x1 S Q := by
  refine mj_iload_n dJ9_max_7cf53_0 rfl rfl ?_
  refine mj_iload_n dJ9_max_7cf53_1 rfl rfl ?_
  refine mj_icmp_lt (tgt := 9) dJ9_max_7cf53_2 (by decide) ⟨fun hc => ?_, fun hc => ?_⟩
  · replace h := h.1 hc
    refine mj_iload_n dJ9_max_7cf53_9 rfl rfl ?_
    exact mj_reti dJ9_max_7cf53_10 rfl ⟨Nat.le_of_ble_eq_true rfl, Nat.le_of_ble_eq_true rfl⟩ h
  · replace h := h.2 hc
    refine mj_iload_n dJ9_max_7cf53_5 rfl rfl ?_
    refine mj_goto (tgt := 10) dJ9_max_7cf53_6 (by decide) ?_
    exact mj_reti dJ9_max_7cf53_10 rfl ⟨Nat.le_of_ble_eq_true rfl, Nat.le_of_ble_eq_true rfl⟩ h
abbrev V_J9_max_f86c9_0 (l : Launch) (G : mj_G) (y0 : Int64) (y2 : Int64) (S : mj_S) (Q : mj_S → Int64 → Prop) : Prop := mj_V l G (mj_room 1 0 0) RJ9 cJ9_max_f86c9 4 (some .long) false 0 [some (.long y0), none, some (.long y2), none] [] S 0 0 (mj_std G (some .long) (mj_room 1 0 0) (mj_ql Q))
theorem e_J9_max_f86c9 {l : Launch} {G : mj_G} {y0 : Int64} {y2 : Int64} {S : mj_S} {Q : mj_S → Int64 → Prop} (h : V_J9_max_f86c9_0 l G y0 y2 S Q) : M_J9_max_f86c9 l G y0 y2 S Q := mj_enterF (r := 0) (ini := false) (by decide +kernel) (fun h => by cases h) (fun _ => Nat.le_of_ble_eq_true rfl) rfl h
set_option maxRecDepth 20000 in
set_option maxHeartbeats 1000000 in
theorem b_J9_max_f86c9_0 {l : Launch} {G : mj_G} {y0 : Int64} {y2 : Int64} {S : mj_S} {Q : mj_S → Int64 → Prop} (h : (((lg_cmp y0 y2) < 0) → Q S y2) ∧ ((¬ ((lg_cmp y0 y2) < 0)) → Q S y0)) : V_J9_max_f86c9_0 l G y0 y2 S Q := by
  refine mj_lload_n dJ9_max_f86c9_0 rfl rfl ?_
  refine mj_lload_n dJ9_max_f86c9_1 rfl rfl ?_
  refine mj_lcmp dJ9_max_f86c9_2 ?_
  refine mj_if_lt (tgt := 10) dJ9_max_f86c9_3 (by decide) ⟨fun hc => ?_, fun hc => ?_⟩
  · replace h := h.1 hc
    refine mj_lload_n dJ9_max_f86c9_10 rfl rfl ?_
    exact mj_retl dJ9_max_f86c9_11 rfl ⟨Nat.le_of_ble_eq_true rfl, Nat.le_of_ble_eq_true rfl⟩ h
  · replace h := h.2 hc
    refine mj_lload_n dJ9_max_f86c9_6 rfl rfl ?_
    refine mj_goto (tgt := 11) dJ9_max_f86c9_7 (by decide) ?_
    exact mj_retl dJ9_max_f86c9_11 rfl ⟨Nat.le_of_ble_eq_true rfl, Nat.le_of_ble_eq_true rfl⟩ h
abbrev V_J9_min_7cf53_0 (l : Launch) (G : mj_G) (x0 : Int32) (x1 : Int32) (S : mj_S) (Q : mj_S → Int32 → Prop) : Prop := mj_V l G (mj_room 1 0 0) RJ9 cJ9_min_7cf53 2 (some .int) false 0 [some (.int x0), some (.int x1)] [] S 0 0 (mj_std G (some .int) (mj_room 1 0 0) (mj_qi Q))
theorem e_J9_min_7cf53 {l : Launch} {G : mj_G} {x0 : Int32} {x1 : Int32} {S : mj_S} {Q : mj_S → Int32 → Prop} (h : V_J9_min_7cf53_0 l G x0 x1 S Q) : M_J9_min_7cf53 l G x0 x1 S Q := mj_enterF (r := 0) (ini := false) (by decide +kernel) (fun h => by cases h) (fun _ => Nat.le_of_ble_eq_true rfl) rfl h
set_option maxRecDepth 20000 in
set_option maxHeartbeats 1000000 in
theorem b_J9_min_7cf53_0 {l : Launch} {G : mj_G} {x0 : Int32} {x1 : Int32} {S : mj_S} {Q : mj_S → Int32 → Prop} (h : ((x1 < x0) → Q S x1) ∧ ((¬ (x1 < x0)) → Q S x0)) : V_J9_min_7cf53_0 l G x0 x1 S Q := by
  refine mj_iload_n dJ9_min_7cf53_0 rfl rfl ?_
  refine mj_iload_n dJ9_min_7cf53_1 rfl rfl ?_
  refine mj_icmp_gt (tgt := 9) dJ9_min_7cf53_2 (by decide) ⟨fun hc => ?_, fun hc => ?_⟩
  · replace h := h.1 hc
    refine mj_iload_n dJ9_min_7cf53_9 rfl rfl ?_
    exact mj_reti dJ9_min_7cf53_10 rfl ⟨Nat.le_of_ble_eq_true rfl, Nat.le_of_ble_eq_true rfl⟩ h
  · replace h := h.2 hc
    refine mj_iload_n dJ9_min_7cf53_5 rfl rfl ?_
    refine mj_goto (tgt := 10) dJ9_min_7cf53_6 (by decide) ?_
    exact mj_reti dJ9_min_7cf53_10 rfl ⟨Nat.le_of_ble_eq_true rfl, Nat.le_of_ble_eq_true rfl⟩ h
abbrev V_J9_min_f86c9_0 (l : Launch) (G : mj_G) (y0 : Int64) (y2 : Int64) (S : mj_S) (Q : mj_S → Int64 → Prop) : Prop := mj_V l G (mj_room 1 0 0) RJ9 cJ9_min_f86c9 4 (some .long) false 0 [some (.long y0), none, some (.long y2), none] [] S 0 0 (mj_std G (some .long) (mj_room 1 0 0) (mj_ql Q))
theorem e_J9_min_f86c9 {l : Launch} {G : mj_G} {y0 : Int64} {y2 : Int64} {S : mj_S} {Q : mj_S → Int64 → Prop} (h : V_J9_min_f86c9_0 l G y0 y2 S Q) : M_J9_min_f86c9 l G y0 y2 S Q := mj_enterF (r := 0) (ini := false) (by decide +kernel) (fun h => by cases h) (fun _ => Nat.le_of_ble_eq_true rfl) rfl h
set_option maxRecDepth 20000 in
set_option maxHeartbeats 1000000 in
theorem b_J9_min_f86c9_0 {l : Launch} {G : mj_G} {y0 : Int64} {y2 : Int64} {S : mj_S} {Q : mj_S → Int64 → Prop} (h : ((0 < (lg_cmp y0 y2)) → Q S y2) ∧ ((¬ (0 < (lg_cmp y0 y2))) → Q S y0)) : V_J9_min_f86c9_0 l G y0 y2 S Q := by
  refine mj_lload_n dJ9_min_f86c9_0 rfl rfl ?_
  refine mj_lload_n dJ9_min_f86c9_1 rfl rfl ?_
  refine mj_lcmp dJ9_min_f86c9_2 ?_
  refine mj_if_gt (tgt := 10) dJ9_min_f86c9_3 (by decide) ⟨fun hc => ?_, fun hc => ?_⟩
  · replace h := h.1 hc
    refine mj_lload_n dJ9_min_f86c9_10 rfl rfl ?_
    exact mj_retl dJ9_min_f86c9_11 rfl ⟨Nat.le_of_ble_eq_true rfl, Nat.le_of_ble_eq_true rfl⟩ h
  · replace h := h.2 hc
    refine mj_lload_n dJ9_min_f86c9_6 rfl rfl ?_
    refine mj_goto (tgt := 11) dJ9_min_f86c9_7 (by decide) ?_
    exact mj_retl dJ9_min_f86c9_11 rfl ⟨Nat.le_of_ble_eq_true rfl, Nat.le_of_ble_eq_true rfl⟩ h
