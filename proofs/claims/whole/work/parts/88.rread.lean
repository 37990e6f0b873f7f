/-! the reference reads a room -/
theorem dv_s : ∀ a, a < 80 → ∀ w, w < 6 → 0 < w → nI a - nI a / nI w * nI w = nI (a % w) ∧ nI a / nI w = nI (a / w) := by decide +kernel
def RP (S : mj_S) (s : ps) : Prop := (m_gi S 89 20 = nI (p_nc s) ∧ m_gi S 89 21 = nI (p_np s)) ∧ (∀ k, k < 4 → m_gi S 100 k = nI (p_ru s k)) ∧ (∀ c, c < p_nc s → ∀ k, k < 6 → m_gi S 101 (6 * c + k) = nI (p_cu s c k)) ∧ ∀ p, p < p_np s → ∀ k, k < 2 → m_gi S 102 (2 * p + k) = nI (p_pe s p k)
def fl (x : Int32) (P : Prop) : Prop := x = 1 ∧ P ∨ x = 0 ∧ ¬ P
theorem fl.y {x : Int32} {P : Prop} (h : fl x P) (e : ¬ x = 0) : x = 1 ∧ P := by
  rcases h with h | h
  · exact h
  · exact absurd h.1 e
theorem fl.n {x : Int32} {P : Prop} (h : fl x P) (e : x = 0) : ¬ P := by
  rcases h with h | h
  · rw [e] at h; exact absurd h.1 (by decide)
  · exact h.2
section RW
variable {l : Launch} {G : mj_G} {L : Nat} {S : mj_S} {s : ps} {Q : mj_S → Int32 → Prop}
theorem s_iw169 (hs : Sh L S) (hw : p_wf s) (C : RP S s) {c : Nat} (hc : c < p_nc s) {A : Prop} (k : ∀ x2, fl x2 (A ∧ ∀ o, o < c → ¬ (p_cu s o 0 = p_cu s c 0 ∧ p_cu s o 1 = p_cu s c 1)) → V_X11_isWhole_67 l G 89 (nI (p_n s)) x2 (nI (c + 1)) S Q) : ∀ (m o : Nat) (x2 : Int32), m + o = c → fl x2 (A ∧ ∀ d, d < o → ¬ (p_cu s d 0 = p_cu s c 0 ∧ p_cu s d 1 = p_cu s c 1)) → V_X11_isWhole_169 l G 89 (nI (p_n s)) x2 (nI c) (nI (p_cu s c 0)) (nI o) S Q
  | 0, o, x2, em, hx => by
    have nc := hw.1.2.1
    refine b_X11_isWhole_169 hs.k89 ⟨fun _ v1 e1 => ?_, fun z => absurd (nI_le (by omega) (by omega)) z⟩
    rw [e1, nI_1]
    refine k x2 ?_
    have e : o = c := by omega
    rw [e] at hx; exact hx
  | m + 1, o, x2, em, hx => by
    have nc := hw.1.2.1
    have ho : o < p_nc s := by omega
    have hu := hw.cu hc
    have hv := hw.cu ho
    refine b_X11_isWhole_169 hs.k89 ⟨fun z => absurd z (nI_ge (by omega) (by omega)), fun _ => ⟨fun z v2 e2 => ?_, fun z => ?_⟩⟩
    · rw [e2, nI_1]
      exact s_iw169 hs hw C hc k m (o + 1) 0 (by omega) (Or.inr ⟨rfl, fun y => hx.n z ⟨y.1, fun d hd => y.2 d (by omega)⟩⟩)
    · have hA := (hx.y z).2
      refine ⟨101, hs.p89_18, ?_⟩
      rw [hs.l101, show (0 : Int32) = nI 0 from rfl, ix6, nI_clamp (by omega), C.2.2.1 o ho 0 (by omega), nI_eqI (by omega) (by omega), nI_1]
      refine ⟨vp_nI (by omega) (by omega), fun y v4 e4 => ?_, fun y => ⟨101, hs.p89_18, ?_⟩⟩
      · rw [e4]
        refine s_iw169 hs hw C hc k m (o + 1) 1 (by omega) (Or.inl ⟨rfl, hA.1, fun d hd g => ?_⟩)
        by_cases e : d = o
        · rw [e] at g; exact y g.1
        · exact hA.2 d (by omega) g
      · rw [hs.l101, show (1 : Int32) = nI 1 from rfl, ix6, ix6, nI_clamp (by omega), nI_clamp (by omega), C.2.2.1 o ho 1 (by omega)]
        refine ⟨vp_nI (by omega) (by omega), 101, hs.p89_18, by rw [hs.l101]; exact vp_nI (by omega) (by omega), ?_⟩
        rw [C.2.2.1 c hc 1 (by omega), nI_eqI (by omega) (by omega)]
        refine ⟨fun w v7 e7 => ?_, fun w v8 e8 => ?_⟩
        · rw [e7]
          exact s_iw169 hs hw C hc k m (o + 1) 0 (by omega) (Or.inr ⟨rfl, fun g => g.2 o (by omega) ⟨y, w⟩⟩)
        · rw [e8]
          refine s_iw169 hs hw C hc k m (o + 1) 1 (by omega) (Or.inl ⟨rfl, hA.1, fun d hd g => ?_⟩)
          by_cases e : d = o
          · rw [e] at g; exact w g.2
          · exact hA.2 d (by omega) g
theorem s_iw67 (hs : Sh L S) (hw : p_wf s) (C : RP S s) {A : Prop} (k1 : (A ∧ ∀ c, c < p_nc s → cok s c) → Q S 1) (k0 : ¬ (A ∧ ∀ c, c < p_nc s → cok s c) → Q S 0) : ∀ (m c : Nat) (x2 : Int32), m + c = p_nc s → fl x2 (A ∧ ∀ d, d < c → cok s d) → V_X11_isWhole_67 l G 89 (nI (p_n s)) x2 (nI c) S Q
  | 0, c, x2, em, hx => by
    have nc := hw.1.2.1
    refine b_X11_isWhole_67 hs.k89 ?_
    rw [C.1.1]
    refine ⟨fun _ => ?_, fun z => absurd (nI_le (by omega) (by omega)) z⟩
    have e : c = p_nc s := by omega
    rw [e] at hx
    rcases hx with h | h
    · rw [h.1]; exact ⟨nar1, k1 h.2⟩
    · rw [h.1]; exact ⟨nar0, k0 h.2⟩
  | m + 1, c, x2, em, hx => by
    have nc := hw.1.2.1
    have hc : c < p_nc s := by omega
    have hu := hw.cu hc
    have hr := hw.ru
    have n20 := p_n_le hw
    have go : ∀ y : Int32, fl y (A ∧ (∀ d, d < c → cok s d) ∧ p_cu s c 0 < p_n s ∧ (if p_cu s c 1 = 0 then p_cu s c 0 % p_ru s 0 + 1 < p_ru s 0 else p_cu s c 0 + p_ru s 0 < p_n s)) → V_X11_isWhole_169 l G 89 (nI (p_n s)) y (nI c) (nI (p_cu s c 0)) 0 S Q := by
      intro y hy
      refine s_iw169 hs hw C hc (A := A ∧ (∀ d, d < c → cok s d) ∧ p_cu s c 0 < p_n s ∧ (if p_cu s c 1 = 0 then p_cu s c 0 % p_ru s 0 + 1 < p_ru s 0 else p_cu s c 0 + p_ru s 0 < p_n s)) (fun x h => ?_) c 0 y (by omega) ?_
      · refine s_iw67 hs hw C k1 k0 m (c + 1) x (by omega) ?_
        rcases h with h | h
        · refine Or.inl ⟨h.1, h.2.1.1, fun d hd => ?_⟩
          by_cases e : d = c
          · rw [e]; exact ⟨h.2.1.2.2.1, h.2.1.2.2.2, h.2.2⟩
          · exact h.2.1.2.1 d (by omega)
        · refine Or.inr ⟨h.1, fun g => h.2 ?_⟩
          have gc := g.2 c (by omega)
          exact ⟨⟨g.1, fun d hd => g.2 d (by omega), gc.1, gc.2.1⟩, gc.2.2⟩
      · rcases hy with h | h
        · exact Or.inl ⟨h.1, h.2, fun d hd => by omega⟩
        · exact Or.inr ⟨h.1, fun g => h.2 g.1⟩
    have mid : ∀ s0 : Int32, (s0 = 0 → p_cu s c 1 ≠ 0) → (¬ s0 = 0 → p_cu s c 1 = 0) → V_X11_isWhole_107 l G 89 (nI (p_n s)) x2 (nI c) (nI (p_cu s c 0)) s0 S Q := by
      intro s0 z0 z1
      refine b_X11_isWhole_107 hs.k89 ⟨fun z => go 0 (Or.inr ⟨rfl, fun g => hx.n z ⟨g.1, g.2.1⟩⟩), fun z => ?_⟩
      have hA := (hx.y z).2
      rw [nI_leI (by omega) (by omega)]
      refine ⟨fun y => go 0 (Or.inr ⟨rfl, fun g => by have := g.2.2.1; omega⟩), fun y => ⟨fun w => ⟨100, hs.p89_17, ?_⟩, fun w => ⟨100, hs.p89_17, ?_⟩⟩⟩
      · rw [hs.l100, lz0, C.2.1 0 (by omega), nI_add, nI_leI (by omega) (by omega)]
        have zz := z0 w
        refine ⟨vp_nI (p := 0) (by omega) (by omega), fun u => go 0 (Or.inr ⟨rfl, fun g => ?_⟩), fun u => go 1 (Or.inl ⟨rfl, hA.1, hA.2, by omega, ?_⟩)⟩
        · have := g.2.2.2; rw [if_neg zz] at this; omega
        · rw [if_neg zz]; omega
      · have zz := z1 w
        have hd := dv_s (p_cu s c 0) (by omega) (p_ru s 0) (by omega) (by omega)
        have hm : p_cu s c 0 % p_ru s 0 < p_ru s 0 := Nat.mod_lt _ (by omega)
        rw [hs.l100, lz0, C.2.1 0 (by omega), hd.1, nI_1]
        refine ⟨vp_nI (p := 0) (by omega) (by omega), nI_ne0 (by omega) (by omega), 100, hs.p89_17, by rw [hs.l100]; exact vp_nI (p := 0) (by omega) (by omega), ?_⟩
        rw [C.2.1 0 (by omega), nI_leI (by omega) (by omega)]
        refine ⟨fun u => go 0 (Or.inr ⟨rfl, fun g => ?_⟩), fun u => go 1 (Or.inl ⟨rfl, hA.1, hA.2, by omega, ?_⟩)⟩
        · have := g.2.2.2; rw [if_pos zz] at this; omega
        · rw [if_pos zz]; omega
    refine b_X11_isWhole_67 hs.k89 ?_
    rw [C.1.1]
    refine ⟨fun z => absurd z (nI_ge (by omega) (by omega)), fun _ => ⟨101, hs.p89_18, ?_⟩⟩
    have i1 : (6 : Int32) * nI c + 1 = nI (6 * c + 1) := ix6 c 1
    have i0 : (6 : Int32) * nI c + 0 = nI (6 * c) := ix6 c 0
    rw [hs.l101, i0, i1, nI_clamp (by omega), nI_clamp (by omega), show m_gi S 101 (6 * c) = nI (p_cu s c 0) from C.2.2.1 c hc 0 (by omega)]
    refine ⟨vp_nI (by omega) (by omega), fun v2 e2 => ⟨101, hs.p89_18, by rw [hs.l101]; exact vp_nI (by omega) (by omega), ?_⟩⟩
    rw [C.2.2.1 c hc 1 (by omega), nI_e0 (by omega), e2]
    exact ⟨fun z => mid 0 (fun _ => z) (fun y => absurd rfl y), fun z => mid 1 (fun y => absurd y (by decide)) (fun _ => z)⟩
theorem s_isWhole (hs : Sh L S) (hw : p_wf s) (C : RP S s) (h1 : p_ok s → Q S 1) (h0 : ¬ p_ok s → Q S 0) : M_X11_isWhole l G 89 S Q := by
  have nc := hw.1.2
  have hr := hw.ru
  have n20 := p_n_le hw
  have key : ∀ m p x2, m + p = p_np s → fl x2 (0 < p_np s ∧ ∀ d, d < p → p_pe s d 0 < p_n s) → V_X11_isWhole_29 l G 89 (nI (p_n s)) x2 (nI p) S Q := by
    intro m
    induction m with
    | zero =>
      intro p x2 em hx
      refine b_X11_isWhole_29 hs.k89 ?_
      rw [C.1.2]
      refine ⟨fun _ => ?_, fun z => absurd (nI_le (by omega) (by omega)) z⟩
      have e : p = p_np s := by omega
      rw [e] at hx
      refine s_iw67 hs hw C (A := 0 < p_np s ∧ ∀ d, d < p_np s → p_pe s d 0 < p_n s) (fun g => h1 ⟨g.1.1, g.1.2, g.2⟩) (fun g => h0 (fun y => g ⟨⟨y.1, y.2.1⟩, y.2.2⟩)) (p_nc s) 0 x2 (by omega) ?_
      rcases hx with h | h
      · exact Or.inl ⟨h.1, h.2, fun d hd => by omega⟩
      · exact Or.inr ⟨h.1, fun g => h.2 g.1⟩
    | succ m ih =>
      intro p x2 em hx
      have hp : p < p_np s := by omega
      have hpe := hw.pe hp
      refine b_X11_isWhole_29 hs.k89 ?_
      rw [C.1.2]
      refine ⟨fun z => absurd z (nI_ge (by omega) (by omega)), fun _ => ⟨fun z v1 e1 => ?_, fun z => ⟨102, hs.p89_19, ?_⟩⟩⟩
      · rw [e1, nI_1]
        exact ih (p + 1) 0 (by omega) (Or.inr ⟨rfl, fun g => hx.n z ⟨g.1, fun d hd => g.2 d (by omega)⟩⟩)
      · have hA := (hx.y z).2
        have i2 : (2 : Int32) * nI p = nI (2 * p) := nI_mul 2 p
        rw [hs.l102, i2, nI_clamp (by omega), show m_gi S 102 (2 * p) = nI (p_pe s p 0) from C.2.2.2 p hp 0 (by omega), nI_leI (by omega) (by omega), nI_1]
        refine ⟨vp_nI (by omega) (by omega), fun y v3 e3 => ?_, fun y v4 e4 => ?_⟩
        · rw [e3]
          exact ih (p + 1) 0 (by omega) (Or.inr ⟨rfl, fun g => by have := g.2 p (by omega); omega⟩)
        · rw [e4]
          refine ih (p + 1) 1 (by omega) (Or.inl ⟨rfl, hA.1, fun d hd => ?_⟩)
          by_cases e : d = p
          · rw [e]; omega
          · exact hA.2 d (by omega)
  refine e_X11_isWhole (b_X11_isWhole_0 hs.k89 ⟨100, hs.p89_17, ?_⟩)
  rw [hs.l100]
  refine ⟨vp_nI (p := 0) (by omega) (by omega), 100, hs.p89_17, by rw [hs.l100]; exact vp_nI (p := 1) (by omega) (by omega), fun v3 e3 => ?_⟩
  rw [lz0, lz1, C.2.1 0 (by omega), C.2.1 1 (by omega), nI_mul] at e3
  rw [C.1.2, e3]
  refine ⟨fun z => key (p_np s) 0 0 (by omega) (Or.inr ⟨rfl, fun g => ?_⟩), fun z => key (p_np s) 0 1 (by omega) (Or.inl ⟨rfl, ?_, fun d hd => by omega⟩)⟩
  · exact nI_nle g.1 (by omega) z
  · by_cases e : p_np s = 0
    · rw [e] at z; exact absurd (by decide) z
    · omega
end RW
