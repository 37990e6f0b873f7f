/-! has, within, and the floor -/
/-- has(bits, n) -/
def hs_b (b n : Int32) : Int32 := if (b >>> (n &&& 31)) &&& 1 = 0 then 0 else 1
theorem hs_nI (b : Int32) {n : Nat} (h : n < 32) : hs_b b (nI n) = if bt b n = true then 1 else 0 := by
  unfold hs_b
  by_cases e : bt b n = true
  · rw [if_pos e, if_neg (fun q => by rw [(b_test b h).mp q] at e; cases e)]
  · have e' : bt b n = false := by simpa using e
    rw [if_neg e, if_pos ((b_test b h).mpr e')]
theorem s_X10_has {l : Launch} {G : mj_G} {x0 x1 : Int32} {S : mj_S} {Q : mj_S → Int32 → Prop} (h : Q S (hs_b x0 x1)) : M_X10_has l G x0 x1 S Q := by
  refine e_X10_has (b_X10_has_0 ?_)
  unfold hs_b at h
  refine ⟨fun q => ?_, fun q => ?_⟩
  · rw [if_pos q] at h; exact h
  · rw [if_neg q] at h; exact h
/-- within(n, least, most) -/
def wi_b (n a b : Int32) : Int32 := if n < a then 0 else if b < n then 0 else 1
theorem s_X10_within {l : Launch} {G : mj_G} {x0 x1 x2 : Int32} {S : mj_S} {Q : mj_S → Int32 → Prop} (h : Q S (wi_b x0 x1 x2)) : M_X10_within l G x0 x1 x2 S Q := by
  refine e_X10_within (b_X10_within_0 ?_)
  unfold wi_b at h
  refine ⟨fun q => by rw [if_pos q] at h; exact h, fun q => ?_⟩
  rw [if_neg q] at h
  exact ⟨fun q => by rw [if_pos q] at h; exact h, fun q => by rw [if_neg q] at h; exact h⟩
/-- the spreading -/
theorem s_X0_reach_l {l : Launch} {G : mj_G} {a0 : Nat} {S : mj_S} {Q : mj_S → Int32 → Prop} {w : Nat} (hk : m_kd S a0 = 0) (hw : m_gi S a0 0 = nI w) : ∀ (k : Nat) (x : Int32), k ≤ 20 → Q S (cp_go (m_gi S a0 1) (m_gi S a0 2) w k x) → V_X0_reach_4 l G a0 x (nI (20 - k)) S Q
  | 0, x, _, h => b_X0_reach_4 hk ⟨fun _ => h, fun q => absurd (by decide) q⟩
  | k + 1, x, hk2, h => by
    refine b_X0_reach_4 hk ⟨fun q => absurd q ?_, fun _ v1 e1 v2 e2 => ?_⟩
    · exact nI_ge (show 20 - (k + 1) < 20 by omega) (by decide)
    · have e : v2 = cp_st (m_gi S a0 1) (m_gi S a0 2) w x := by rw [e2, e1, hw]; rfl
      unfold cp_go at h
      rw [← e] at h
      refine ⟨fun q v3 e3 => ?_, fun q => ?_⟩
      · rw [if_neg q] at h
        rw [e3, nI_1, show 20 - (k + 1) + 1 = 20 - k by omega]
        exact s_X0_reach_l hk hw k v2 (by omega) h
      · rw [if_pos q] at h
        rw [q]; exact h
theorem s_X0_reach {l : Launch} {G : mj_G} {a0 : Nat} {x1 : Int32} {S : mj_S} {Q : mj_S → Int32 → Prop} {w : Nat} (hk : m_kd S a0 = 0) (hw : m_gi S a0 0 = nI w) (h : Q S (cp_go (m_gi S a0 1) (m_gi S a0 2) w 20 x1)) : M_X0_reach l G a0 x1 S Q := e_X0_reach (b_X0_reach_0 hk (s_X0_reach_l hk hw 20 x1 (Nat.le_refl _) h))
