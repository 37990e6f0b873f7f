/-! the questions -/
abbrev PH (L : Nat) (S : mj_S) (Mr : mj_S → (mj_S → Int32 → Prop) → Prop) (Q : mj_S → Int32 → Prop) : Prop := ∀ S1 v, K5 S S1 → Sh L S1 → (∀ Q2 : mj_S → Int32 → Prop, (∀ S2, K5 S S2 → INV L S2 → Q2 S2 v) → Mr S1 Q2) → Q S1 v
section PQ
variable {l : Launch} {G : mj_G} {L r : Nat} {S S' : mj_S} {a : ast} {Q : mj_S → Int32 → Prop} {x1 x2 x3 x4 x5 : Int32}
theorem w2000 (w : AW a) : s_yr (a_s a) ≤ 2000 := by have := w.yr; omega
theorem p_rule (V : INV L S) (h : PH L S (M_X11_rule l G 89 x1) Q) : M_X10_rule l G 6 x1 S Q :=
  p_q (A := fun a => A_rule (a_R a) x1) (Mc := M_X10_rule l G 6 x1) (Mr := M_X11_rule l G 89 x1) (fun a S Q w c h => by
    obtain ⟨r, rs, nx, C, P, X⟩ := c
    exact c_rule C (h S fr.rf)) (fun a S Q w d h => d_rule d.1 (h S fr.rf)) V h
theorem p_curtain (V : INV L S) (h : PH L S (M_X11_curtain l G 89 x1 x2) Q) : M_X10_curtain l G 6 x1 x2 S Q :=
  p_q (A := fun a => A_curtain (a_R a) (a_s a) (a_tk a (a_s a)) x1 x2) (Mc := M_X10_curtain l G 6 x1 x2) (Mr := M_X11_curtain l G 89 x1 x2) (fun a S Q w c h => by
    obtain ⟨r, rs, nx, C, P, X⟩ := c
    exact c_curtain C (X.ck w S _ 50 _ _ lawz.rf C (w2000 w)) h) (fun a S Q w d h => d_curtain d.1 (d.rk w S _ ⟨rfl, fun _ _ _ _ => rfl, rfl⟩ d.1 (w2000 w)) h) V h
theorem p_state (V : INV L S) (h : PH L S (M_X11_state l G 89 x1) Q) : M_X10_state l G 6 x1 S Q :=
  p_q (A := fun a => A_state (a_R a) (a_s a) x1) (Mc := M_X10_state l G 6 x1) (Mr := M_X11_state l G 89 x1) (fun a S Q w c h => by
    obtain ⟨r, rs, nx, C, P, X⟩ := c
    exact c_state C h) (fun a S Q w d h => d_state d.1 (h S fr.rf)) V h
theorem p_lord (V : INV L S) (h : PH L S (M_X11_lord l G 89 x1) Q) : M_X10_lord l G 6 x1 S Q :=
  p_q (A := fun a => A_lord (a_R a) (a_s a) x1) (Mc := M_X10_lord l G 6 x1) (Mr := M_X11_lord l G 89 x1) (fun a S Q w c h => by
    obtain ⟨r, rs, nx, C, P, X⟩ := c
    exact c_lord C h) (fun a S Q w d h => d_lord d.1 (h S fr.rf)) V h
theorem p_touch (V : INV L S) (h : PH L S (M_X11_touch l G 89 x1 x2) Q) : M_X10_touch l G 6 x1 x2 S Q :=
  p_q (A := fun a => A_touch (a_R a) (a_s a) x1 x2) (Mc := M_X10_touch l G 6 x1 x2) (Mr := M_X11_touch l G 89 x1 x2) (fun a S Q w c h => by
    obtain ⟨r, rs, nx, C, P, X⟩ := c
    exact c_touch C h) (fun a S Q w d h => d_touch d.1 (h S fr.rf)) V h
theorem p_join (V : INV L S) (h : PH L S (M_X11_join l G 89 x1 x2) Q) : M_X10_join l G 6 x1 x2 S Q :=
  p_q (A := fun a => A_join (a_R a) (a_s a) x1 x2) (Mc := M_X10_join l G 6 x1 x2) (Mr := M_X11_join l G 89 x1 x2) (fun a S Q w c h => by
    obtain ⟨r, rs, nx, C, P, X⟩ := c
    exact c_join C h) (fun a S Q w d h => d_join d.1 (h S fr.rf)) V h
theorem p_under (V : INV L S) (h : PH L S (M_X11_under l G 89 x1 x2 x3) Q) : M_X10_under l G 6 x1 x2 x3 S Q :=
  p_q (A := fun a => A_under (a_R a) (a_s a) x1 x2 x3) (Mc := M_X10_under l G 6 x1 x2 x3) (Mr := M_X11_under l G 89 x1 x2 x3) (fun a S Q w c h => by
    obtain ⟨r, rs, nx, C, P, X⟩ := c
    exact c_under C h) (fun a S Q w d h => d_under d.1 (h S fr.rf)) V h
theorem p_game (V : INV L S) (h : PH L S (M_X11_game l G 89 x1 x2 x3 x4 x5) Q) : M_X10_game l G 6 x1 x2 x3 x4 x5 S Q :=
  p_q (A := fun a => A_game (a_R a) (a_s a) x1 x2 x3 x4 x5) (Mc := M_X10_game l G 6 x1 x2 x3 x4 x5) (Mr := M_X11_game l G 89 x1 x2 x3 x4 x5) (fun a S Q w c h => by
    obtain ⟨r, rs, nx, C, P, X⟩ := c
    exact c_game C h) (fun a S Q w d h => d_game d.1 (h S fr.rf)) V h
theorem p_treaty (V : INV L S) (h : PH L S (M_X11_treaty l G 89 x1 x2) Q) : M_X10_treaty l G 6 x1 x2 S Q :=
  p_q (A := fun a => A_treaty (a_R a) (a_s a) x1 x2) (Mc := M_X10_treaty l G 6 x1 x2) (Mr := M_X11_treaty l G 89 x1 x2) (fun a S Q w c h => by
    obtain ⟨r, rs, nx, C, P, X⟩ := c
    exact c_treaty C h) (fun a S Q w d h => d_treaty d.1 (h S fr.rf)) V h
theorem p_air (V : INV L S) (h : PH L S (M_X11_air l G 89 x1) Q) : M_X10_air l G 6 x1 S Q :=
  p_q (A := fun a => A_air (a_R a) (a_s a) x1) (Mc := M_X10_air l G 6 x1) (Mr := M_X11_air l G 89 x1) (fun a S Q w c h => by
    obtain ⟨r, rs, nx, C, P, X⟩ := c
    exact c_air C h) (fun a S Q w d h => d_air d.1 (h S fr.rf)) V h
theorem p_borders (V : INV L S) (h : PH L S (M_X11_borders l G 89 x1) Q) : M_X10_borders l G 6 x1 S Q :=
  p_q (A := fun a => A_borders (a_R a) (a_s a) x1) (Mc := M_X10_borders l G 6 x1) (Mr := M_X11_borders l G 89 x1) (fun a S Q w c h => by
    obtain ⟨r, rs, nx, C, P, X⟩ := c
    exact c_borders C h) (fun a S Q w d h => d_borders d.1 (h S fr.rf)) V h
theorem p_guests (V : INV L S) (h : PH L S (M_X11_guests l G 89) Q) : M_X10_guests l G 6 S Q :=
  p_q (A := fun a => A_guests (a_R a) (a_s a)) (Mc := M_X10_guests l G 6) (Mr := M_X11_guests l G 89) (fun a S Q w c h => by
    obtain ⟨r, rs, nx, C, P, X⟩ := c
    exact c_guests C h) (fun a S Q w d h => d_guests d.1 (h S fr.rf)) V h
theorem p_lead (V : INV L S) (h : PH L S (M_X11_lead l G 89 x1) Q) : M_X10_lead l G 6 x1 S Q :=
  p_q (A := fun a => A_lead (a_R a) (a_s a) x1) (Mc := M_X10_lead l G 6 x1) (Mr := M_X11_lead l G 89 x1) (fun a S Q w c h => by
    obtain ⟨r, rs, nx, C, P, X⟩ := c
    exact c_lead C (h S fr.rf)) (fun a S Q w d h => d_lead d.1 (h S fr.rf)) V h
theorem p_gathered (V : INV L S) (h : PH L S (M_X11_gathered l G 89) Q) : M_X10_gathered l G 6 S Q :=
  p_q (A := fun a => A_gathered (a_R a) (a_s a)) (Mc := M_X10_gathered l G 6) (Mr := M_X11_gathered l G 89) (fun a S Q w c h => by
    obtain ⟨r, rs, nx, C, P, X⟩ := c
    exact c_gathered C (h S fr.rf)) (fun a S Q w d h => d_gathered d.1 (h S fr.rf)) V h
theorem p_cross (V : INV L S) (h : PH L S (M_X11_cross l G 89) Q) : M_X10_cross l G 6 S Q :=
  p_q (A := fun a => A_cross (a_R a) (a_s a)) (Mc := M_X10_cross l G 6) (Mr := M_X11_cross l G 89) (fun a S Q w c h => by
    obtain ⟨r, rs, nx, C, P, X⟩ := c
    exact c_cross C (h S fr.rf)) (fun a S Q w d h => d_cross d.1 (h S fr.rf)) V h
theorem p_realm (V : INV L S) (h : PH L S (M_X11_realm l G 89) Q) : M_X10_realm l G 6 S Q :=
  p_q (A := fun a => (rlm (a_R a) (a_s a) (r_n (a_R a))).1) (Mc := M_X10_realm l G 6) (Mr := M_X11_realm l G 89) (fun a S Q w c h => by
    obtain ⟨r, rs, nx, C, P, X⟩ := c
    exact c_realm C h) (fun a S Q w d h => d_realm d.1 (h S fr.rf)) V h
theorem p_rests (V : INV L S) (h : PH L S (M_X11_rests l G 89 x1 x2 x3) Q) : M_X10_rests l G 6 x1 x2 x3 S Q :=
  p_q (A := fun a => A_rests (a_R a) (a_s a) x1 x2 x3) (Mc := M_X10_rests l G 6 x1 x2 x3) (Mr := M_X11_rests l G 89 x1 x2 x3) (fun a S Q w c h => by
    obtain ⟨r, rs, nx, C, P, X⟩ := c
    exact c_rests C h) (fun a S Q w d h => d_rests d.1 h) V h
theorem p_lit (V : INV L S) (h : PH L S (M_X11_lit l G 89 x1) Q) : M_X10_lit l G 6 x1 S Q :=
  p_q (A := fun a => A_lit (a_R a) (a_s a) (a_tk a (a_s a)) x1) (Mc := M_X10_lit l G 6 x1) (Mr := M_X11_lit l G 89 x1) (fun a S Q w c h => by
    obtain ⟨r, rs, nx, C, P, X⟩ := c
    exact c_lit C (X.ck w S _ 50 _ _ lawz.rf C (w2000 w)) (fun c hc => a_tok _ c hc) h) (fun a S Q w d h => d_lit d.1 (d.rk w S _ ⟨rfl, fun _ _ _ _ => rfl, rfl⟩ d.1 (w2000 w)) (fun c hc => a_tok _ c hc) h) V h
theorem p_seen (V : INV L S) (h : PH L S (M_X11_seen l G 89 x1 x2) Q) : M_X10_seen l G 6 x1 x2 S Q :=
  p_q (A := fun a => A_seen (a_R a) (a_s a) (a_tk a (a_s a)) x1 x2) (Mc := M_X10_seen l G 6 x1 x2) (Mr := M_X11_seen l G 89 x1 x2) (fun a S Q w c h => by
    obtain ⟨r, rs, nx, C, P, X⟩ := c
    exact c_seen C (X.ck w S _ 50 _ _ lawz.rf C (w2000 w)) (fun c hc => a_tok _ c hc) h) (fun a S Q w d h => d_seen d.1 (d.rk w S _ ⟨rfl, fun _ _ _ _ => rfl, rfl⟩ d.1 (w2000 w)) (fun c hc => a_tok _ c hc) h) V h
theorem p_hide (V : INV L S) (h : PH L S (M_X11_hide l G 89 x1 x2 x3) Q) : M_X10_hide l G 6 x1 x2 x3 S Q :=
  p_q (A := fun a => A_hide (a_R a) (a_s a) (a_tk a (a_s a)) x1 x2 x3) (Mc := M_X10_hide l G 6 x1 x2 x3) (Mr := M_X11_hide l G 89 x1 x2 x3) (fun a S Q w c h => by
    obtain ⟨r, rs, nx, C, P, X⟩ := c
    exact c_hide C (X.ck w S _ 50 _ _ lawz.rf C (w2000 w)) (fun c hc => a_tok _ c hc) h) (fun a S Q w d h => d_hide d.1 (d.rk w S _ ⟨rfl, fun _ _ _ _ => rfl, rfl⟩ d.1 (w2000 w)) (fun c hc => a_tok _ c hc) h) V h
theorem p_dark (V : INV L S) (h : PH L S (M_X11_dark l G 89) Q) : M_X10_dark l G 6 S Q :=
  p_q (A := fun a => A_dark (a_R a) (a_s a) (a_tk a (a_s a))) (Mc := M_X10_dark l G 6) (Mr := M_X11_dark l G 89) (fun a S Q w c h => by
    obtain ⟨r, rs, nx, C, P, X⟩ := c
    exact c_dark C (X.ck w S _ 50 _ _ lawz.rf C (w2000 w)) (fun c hc => a_tok _ c hc) h) (fun a S Q w d h => d_dark d.1 (d.rk w S _ ⟨rfl, fun _ _ _ _ => rfl, rfl⟩ d.1 (w2000 w)) (fun c hc => a_tok _ c hc) h) V h
theorem p_sure (V : INV L S) (h : PH L S (M_X11_sure l G 89 x1) Q) : M_X10_sure l G 6 x1 S Q :=
  p_q (A := fun a => A_sure (a_R a) (a_s a) (a_F a) x1) (Mc := M_X10_sure l G 6 x1) (Mr := M_X11_sure l G 89 x1) (fun a S Q w c h => by
    obtain ⟨r, rs, nx, C, P, X⟩ := c
    exact c_sure C w.2.2.1 X.2.1 (h S fr.rf)) (fun a S Q w d h => d_sure d.1 w.2.2.1 d.2.2.1 (h S fr.rf)) V h
theorem p_best (V : INV L S) (h : PH L S (M_X11_best l G 89 x1) Q) : M_X10_best l G 6 x1 S Q :=
  p_q (A := fun a => A_best (a_R a) (a_s a) (a_F a) x1) (Mc := M_X10_best l G 6 x1) (Mr := M_X11_best l G 89 x1) (fun a S Q w c h => by
    obtain ⟨r, rs, nx, C, P, X⟩ := c
    exact c_best C w.2.2.1 X.2.1 (h S fr.rf)) (fun a S Q w d h => d_best d.1 w.2.2.1 d.2.2.1 (h S fr.rf)) V h
theorem p_leant (V : INV L S) (h : PH L S (M_X11_leant l G 89 x1 x2) Q) : M_X10_leant l G 6 x1 x2 S Q :=
  p_q (A := fun a => A_leant (a_R a) (a_s a) (a_F a) x1 x2) (Mc := M_X10_leant l G 6 x1 x2) (Mr := M_X11_leant l G 89 x1 x2) (fun a S Q w c h => by
    obtain ⟨r, rs, nx, C, P, X⟩ := c
    exact s_leant C w.2.2.1 X.2.1 (h S fr.rf)) (fun a S Q w d h => s_rleant d.1 w.2.2.1 d.2.2.1 (h S fr.rf)) V h
theorem p_status (V : INV L S) (h : PH L S (M_X11_status l G 89 x1) Q) : M_X10_status l G 6 x1 S Q :=
  p_q (A := fun a => A_status (a_f a) x1) (Mc := M_X10_status l G 6 x1) (Mr := M_X11_status l G 89 x1) (fun a S Q w c h => by
    obtain ⟨r, rs, nx, C, P, X⟩ := c
    exact c_status C.sh X.2.2.2.2.2.2.1 (h S fr.rf)) (fun a S Q w d h => d_status d.1.sh d.2.2.2.2.2.2.2 (h S fr.rf)) V h
theorem p_log (V : INV L S) (h : PH L S (M_X11_log l G 89 x1 x2) Q) : M_X10_log l G 6 x1 x2 S Q :=
  p_q (A := fun a => A_log (a_s a) (a_H a).2.2.1 x1 x2) (Mc := M_X10_log l G 6 x1 x2) (Mr := M_X11_log l G 89 x1 x2) (fun a S Q w c h => by
    obtain ⟨r, rs, nx, C, P, X⟩ := c
    exact c_log C w.yr w.1.1.2.2.2 P.2.1 (h S fr.rf)) (fun a S Q w d h => d_log d.1 d.2.1.2.1 (h S fr.rf)) V h
theorem p_count (V : INV L S) (h : PH L S (M_X11_count l G 89 x1) Q) : M_X10_count l G 6 x1 S Q :=
  p_q (A := fun a => A_count (a_R a) (a_s a) (a_l a).length (a_T a).2 (a_v a) (a_F a).1 (a_H a).1 (a_o a) x1) (Mc := M_X10_count l G 6 x1) (Mr := M_X11_count l G 89 x1) (fun a S Q w c h => by
    obtain ⟨r, rs, nx, C, P, X⟩ := c
    exact c_count C X.2.1 w.yr X.2.2.2.1.1 X.2.2.1.1 X.2.2.2.2.1 X.2.2.2.2.2.1 P.1.1.1 h) (fun a S Q w d h => d_count d.1 d.2.2.1 d.2.1.2.1.2.1 d.2.2.2.2.1.1 d.2.2.2.1.1 d.2.2.2.2.2.1 d.2.2.2.2.2.2.1 d.2.1.1.1.1 (h S fr.rf)) V h
end PQ
