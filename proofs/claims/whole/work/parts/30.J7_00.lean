abbrev V_J7_fill_53178_0 (l : Launch) (G : mj_G) (a0 : Nat) (x1 : Int32) (S : mj_S) (Q : mj_S → Prop) : Prop := mj_V l G (mj_room 1 0 0) RJ7 cJ7_fill_53178 4 none false 0 [some (.ref a0), some (.int x1), none, none] [] S 0 0 (mj_std G none (mj_room 1 0 0) (mj_qv Q))
abbrev V_J7_fill_53178_5 (l : Launch) (G : mj_G) (a0 : Nat) (x1 : Int32) (x2 : Int32) (x3 : Int32) (S : mj_S) (Q : mj_S → Prop) : Prop := mj_V l G (mj_room 1 0 0) RJ7 cJ7_fill_53178 4 none false 5 [some (.ref a0), some (.int x1), some (.int x2), some (.int x3)] [] S 0 0 (mj_std G none (mj_room 1 0 0) (mj_qv Q))
theorem e_J7_fill_53178 {l : Launch} {G : mj_G} {a0 : Nat} {x1 : Int32} {S : mj_S} {Q : mj_S → Prop} (h : V_J7_fill_53178_0 l G a0 x1 S Q) : M_J7_fill_53178 l G a0 x1 S Q := mj_enterF (r := 2) (ini := false) (by decide +kernel) (fun h => by cases h) (fun _ => Nat.le_of_ble_eq_true rfl) rfl h
set_option maxRecDepth 20000 in
set_option maxHeartbeats 1000000 in
theorem b_J7_fill_53178_0 {l : Launch} {G : mj_G} {a0 : Nat} {x1 : Int32} {S : mj_S} {Q : mj_S → Prop} (hk_a0 : m_kd S a0 = 100) (h : ∀ v1 : Int32, v1 = (Int32.ofNat (m_ln S a0)) → V_J7_fill_53178_5 l G a0 x1 (0 : Int32) v1 S Q) : V_J7_fill_53178_0 l G a0 x1 S Q := by
  refine mj_iconst (v := 0) dJ7_fill_53178_0 (by decide) ?_
  refine mj_istore_n dJ7_fill_53178_1 rfl (by decide) rfl rfl ?_
  refine mj_aload_n dJ7_fill_53178_2 rfl rfl ?_
  refine mj_alen dJ7_fill_53178_3 (Or.inl hk_a0) ?_
  refine mj_nmi (fun v1 ev1 => ?_)
  replace h := h v1 ev1
  refine mj_istore_n dJ7_fill_53178_4 rfl (by decide) rfl rfl ?_
  exact h
set_option maxRecDepth 20000 in
set_option maxHeartbeats 1000000 in
theorem b_J7_fill_53178_5 {l : Launch} {G : mj_G} {a0 : Nat} {x1 : Int32} {x2 : Int32} {x3 : Int32} {S : mj_S} {Q : mj_S → Prop} (hk_a0 : m_kd S a0 = 100) (h : ((x3 ≤ x2) → Q S) ∧ ((¬ (x3 ≤ x2)) → vp_in x2 (m_ln S a0) ∧ (∀ S1 : mj_S, S1 = m_si S a0 (x2).toNatClampNeg x1 → ∀ v2 : Int32, v2 = x2 + (1 : Int32) → V_J7_fill_53178_5 l G a0 x1 v2 x3 S1 Q))) : V_J7_fill_53178_5 l G a0 x1 x2 x3 S Q := by
  refine mj_iload_n dJ7_fill_53178_5 rfl rfl ?_
  refine mj_iload_n dJ7_fill_53178_6 rfl rfl ?_
  refine mj_icmp_ge (tgt := 20) dJ7_fill_53178_7 (by decide) ⟨fun hc => ?_, fun hc => ?_⟩
  · replace h := h.1 hc
    exact mj_retv dJ7_fill_53178_20 rfl ⟨Nat.le_of_ble_eq_true rfl, Nat.le_of_ble_eq_true rfl⟩ h
  · replace h := h.2 hc
    refine mj_aload_n dJ7_fill_53178_10 rfl rfl ?_
    refine mj_iload_n dJ7_fill_53178_11 rfl rfl ?_
    refine mj_iload_n dJ7_fill_53178_12 rfl rfl ?_
    refine mj_iast dJ7_fill_53178_13 hk_a0 ⟨h.1, ?_⟩
    replace h := h.2
    obtain ⟨S1, eS1⟩ : ∃ z, z = m_si S a0 (x2).toNatClampNeg x1 := ⟨_, rfl⟩
    rw [← eS1]
    replace h := h S1 eS1
    have hk_a0 : m_kd S1 a0 = 100 := by rw [eS1]; exact hk_a0
    obtain ⟨v2, ev2⟩ : ∃ z : Int32, z = x2 + (1 : Int32) := ⟨_, rfl⟩
    refine mj_iinc (v := v2) dJ7_fill_53178_14 rfl (by rw [ev2]; rfl) (by decide) rfl rfl ?_
    replace h := h v2 ev2
    refine mj_goto (tgt := 5) dJ7_fill_53178_17 (by decide) ?_
    exact h
