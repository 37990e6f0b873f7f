/-! the reference's light -/
def DRL (a _j : Nat) : Bool := Nat.ble 98 a && Nat.ble a 99
theorem DRL_DR {S S' : mj_S} (f : fr DRL S S') : fr DR S S' := f.wid (fun a j h => by
  unfold DR at h
  unfold DRL
  rw [Bool.or_assoc, Bool.or_eq_false_iff] at h
  exact h.1)
def DRb (a _j : Nat) : Bool := (Nat.ble 98 a && Nat.ble a 99) || (Nat.ble 110 a && Nat.ble a 111)
theorem DRb_DR {S S' : mj_S} (f : fr DRb S S') : fr DR S S' := f.wid (fun a j h => by
  unfold DR at h
  rw [Bool.or_eq_false_iff] at h
  exact h.1)
theorem DRL_DRb {S S' : mj_S} (f : fr DRL S S') : fr DRb S S' := f.wid (fun a j h => by
  unfold DRb at h
  unfold DRL
  rw [Bool.or_eq_false_iff] at h
  exact h.1)
def TKr (l : Launch) (G : mj_G) (S0 : mj_S) (nc : Nat) (t : Nat → Nat) : Prop := ∀ (S : mj_S) (c : Nat) (Q : mj_S → Int32 → Prop), fr DR S0 S → c < nc → (∀ S', fr DRL S S' → Q S' (nI (t c))) → M_X11_takes l G 89 (nI c) S Q
theorem TKr.fr {l : Launch} {G : mj_G} {S S' : mj_S} {nc : Nat} {t : Nat → Nat} (h : TKr l G S nc t) (f : fr DR S S') : TKr l G S' nc t := fun T c Q g => h T c Q (f.tr g)
theorem sub2_le {a k b : Nat} (ha : a < 100000) (hk : k < 100000) (hb : b < 100000) : (nI a - 1 - nI k ≤ nI b) ↔ a ≤ b + (1 + k) := by
  rw [Int32.le_iff_toInt_le, Int32.toInt_sub, show (1 : Int32) = nI 1 from rfl, sub_toInt ha (by omega), nI_toInt (by omega), nI_toInt (by omega)]
  unfold Int.bmod
  simp only [Int.natCast_pow]
  omega
theorem sub2_v {a k : Nat} (h : 1 + k ≤ a) : nI a - 1 - nI k = nI (a - (1 + k)) := by
  rw [show (1 : Int32) = nI 1 from rfl, sub_v (by omega), sub_v (by omega)]
  congr 1; omega
theorem lsum_le {f g : Nat → Nat} (h : ∀ q, f q ≤ g q) : ∀ n, lsum f n ≤ lsum g n
  | 0 => Nat.le_refl _
  | n + 1 => by
    have := lsum_le h n
    have := h n
    unfold lsum; omega
theorem lsum_lt {f g : Nat → Nat} (h : ∀ q, f q ≤ g q) {i : Nat} (hi : f i < g i) : ∀ n, i < n → lsum f n < lsum g n
  | 0, hn => absurd hn (by omega)
  | n + 1, hn => by
    unfold lsum
    by_cases e : i = n
    · have := lsum_le h n
      rw [← e]
      rw [← e] at this
      omega
    · have := lsum_lt h hi n (by omega)
      have := h n
      omega
theorem lsum_99 {f : Nat → Nat} (h : ∀ q, f q ≤ 99) : ∀ n, lsum f n ≤ 99 * n
  | 0 => Nat.le_refl _
  | n + 1 => by
    have := lsum_99 h n
    have := h n
    unfold lsum; omega
def LMr (S : mj_S) (f : Nat → Nat) : Prop := ∀ q, q < 20 → m_gi S 110 q = nI (f q)
section RL
variable {l : Launch} {G : mj_G} {L : Nat} {R : rm} {s : sc} {S : mj_S} {t : Nat → Nat}
def tkk (H : Int32) (t : Nat → Nat) (c : Nat) : Nat := if bt H c = true then t c else 0
theorem wgt_sd {H : Int32} {a b way : Nat} (h : nx R a way = some b) : wgt R H t a b = 1 + (match sd R a way with
    | none => 0
    | some c => tkk H t c) := by
  unfold wgt tkk
  rw [sd_of h]
  cases bw R (min a b) (max a b) (r_nc R) <;> rfl
theorem s_layBright {a n : Nat} {H : Int32} {Q : mj_S → Prop} (C : RI L S R s) (T : TKr l G S (r_nc R) t) (ht : ∀ c, c < r_nc R → t c ≤ 99) (ha : a < r_n R) (hn0 : n ≤ 99) (h : ∀ S', fr DRb S S' → LMr S' (lit R H t a n) → Q S') : M_X11_layBright l G 89 (nI a) (nI n) H S Q := by
  have hn := C.rw.n
  have nc := C.rw.nc
  refine e_X11_layBright (b_X11_layBright_0 C.sh.k89 ?_)
  refine dn (P := fun c => ∀ T', fr DRb S T' → (∀ c', c' < c → m_gi T' 111 c' = nI (tkk H t c')) → V_X11_layBright_3 l G 89 (nI a) (nI n) H (nI c) T' Q) (r_nc R) ?_ ?_ S fr.rf (fun c z => absurd z (by omega))
  · intro T1 f1 hT1
    have D := C.fr (DRb_DR f1)
    refine b_X11_layBright_3 D.sh.k89 ?_
    try simp only [Option.some.injEq, exists_eq_left', fi32, i10, i00, false_implies, true_implies, not_false_eq_true, not_true_eq_false, true_and, and_true, nI_1, lz0, lz1, ix0, ix11, ix2, D.sh.p89_22, D.sh.p89_23, D.sh.p89_24, D.sh.p89_28, D.sh.p89_32, D.sh.p89_33, D.sh.l103, D.sh.l104, D.sh.l105, D.sh.l106, D.sh.l108, D.sh.l109, D.rr.n, D.rr.nc, D.rr.np, D.rr.w, D.rr.h, D.rr.li, D.rr.mo, D.rs.bk, D.rs.yr, ix4, ix6, geT (show r_nc R < 2 ^ 31 by omega)]
    refine dn (P := fun q => ∀ T', fr DRb S T' → (∀ c', c' < r_nc R → m_gi T' 111 c' = nI (tkk H t c')) → (∀ q', q' < q → m_gi T' 110 q' = nI (f0 a n q')) → V_X11_layBright_47 l G 89 (nI a) (nI n) (nI q) T' Q) 20 ?_ ?_ T1 f1 hT1 (fun c z => absurd z (by omega))
    · intro T2 f2 hT2 hF2
      have E := C.fr (DRb_DR f2)
      refine b_X11_layBright_47 E.sh.k89 ⟨fun _ => ?_, fun z => absurd (by decide) z⟩
      -- the passes
      have bnd : ∀ f : Nat → Nat, (∀ h, lcl R (wgt R H t) h → n ≤ h a → ∀ x, f x ≤ h x) → ∀ q, f q ≤ 99 := fun f hf q => hf (fun _ => 99) (fun _ _ _ => Nat.le_add_right _ _) hn0 q
      have pass : ∀ k (T' : mj_S) (f : Nat → Nat), 2000 ≤ lsum f (r_n R) + k → fr DRb S T' → (∀ c', c' < r_nc R → m_gi T' 111 c' = nI (tkk H t c')) → LMr T' f → (∀ h, lcl R (wgt R H t) h → n ≤ h a → ∀ x, f x ≤ h x) → n ≤ f a → V_X11_layBright_81 l G 89 1 T' Q := by
        intro k
        induction k with
        | zero =>
          intro T' f hk _ _ _ b1 _
          have := lsum_99 (bnd f b1) (r_n R)
          omega
        | succ k ihk =>
          intro T' fs hk fT' tT' mT' b1 b2
          have E' := C.fr (DRb_DR fT')
          refine b_X11_layBright_81 E'.sh.k89 ⟨fun z => absurd z (by decide), fun _ => ?_⟩
          refine dn (P := fun u => ∀ (U : mj_S) (f : Nat → Nat) (mo : Int32), fr DRb S U → (∀ c', c' < r_nc R → m_gi U 111 c' = nI (tkk H t c')) → LMr U f → (∀ h, lcl R (wgt R H t) h → n ≤ h a → ∀ x, f x ≤ h x) → (∀ x, fs x ≤ f x) → (mo = 0 ∨ mo = 1 ∧ lsum fs (r_n R) < lsum f (r_n R)) → (mo = 0 → ∀ u' b, u' < u → ad R u' b → f u' ≤ f b + wgt R H t u' b) → V_X11_layBright_92 l G 89 mo (nI u) U Q) (r_n R) ?_ ?_ T' fs 0 fT' tT' mT' b1 (fun _ => Nat.le_refl _) (Or.inl rfl) (fun _ u' b z => absurd z (by omega))
          · intro U f mo fU tU mU c1 c2 c3 c4
            have F := C.fr (DRb_DR fU)
            refine b_X11_layBright_92 F.sh.k89 ?_
            try simp only [Option.some.injEq, exists_eq_left', fi32, i10, i00, false_implies, true_implies, not_false_eq_true, not_true_eq_false, true_and, and_true, nI_1, lz0, lz1, ix0, ix11, ix2, F.sh.p89_22, F.sh.p89_23, F.sh.p89_24, F.sh.p89_28, F.sh.p89_32, F.sh.p89_33, F.sh.l103, F.sh.l104, F.sh.l105, F.sh.l106, F.sh.l108, F.sh.l109, F.rr.n, F.rr.nc, F.rr.np, F.rr.w, F.rr.h, F.rr.li, F.rr.mo, F.rs.bk, F.rs.yr, ix4, ix6, geT (show r_n R < 2 ^ 31 by omega)]
            have c5 : n ≤ f a := Nat.le_trans b2 (c2 a)
            rcases c3 with e | ⟨e, c3⟩
            · rw [e]
              refine b_X11_layBright_81 F.sh.k89 ⟨fun _ => h U fU ?_, fun z => absurd rfl z⟩
              have : f = lit R H t a n := lt_uni C.rw (wgt_s R H t) (wgt_1 R H t) ha (fun x y hxy => c4 e x y (ad_lt C.rw hxy).1 hxy) c5 c1
              rw [← this]; exact mU
            · rw [e]
              exact ihk U f (by omega) fU tU mU c1 c5
          · intro u hu ih U f mo fU tU mU c1 c2 c3 c4
            have F := C.fr (DRb_DR fU)
            refine b_X11_layBright_92 F.sh.k89 ?_
            try simp only [Option.some.injEq, exists_eq_left', fi32, i10, i00, false_implies, true_implies, not_false_eq_true, not_true_eq_false, true_and, and_true, nI_1, lz0, lz1, ix0, ix11, ix2, F.sh.p89_22, F.sh.p89_23, F.sh.p89_24, F.sh.p89_28, F.sh.p89_32, F.sh.p89_33, F.sh.l103, F.sh.l104, F.sh.l105, F.sh.l106, F.sh.l108, F.sh.l109, F.rr.n, F.rr.nc, F.rr.np, F.rr.w, F.rr.h, F.rr.li, F.rr.mo, F.rs.bk, F.rs.yr, ix4, ix6, gtF hu (show r_n R < 2 ^ 31 by omega)]
            refine dn (P := fun way => ∀ (U : mj_S) (f : Nat → Nat) (mo : Int32), fr DRb S U → (∀ c', c' < r_nc R → m_gi U 111 c' = nI (tkk H t c')) → LMr U f → (∀ h, lcl R (wgt R H t) h → n ≤ h a → ∀ x, f x ≤ h x) → (∀ x, fs x ≤ f x) → (mo = 0 ∨ mo = 1 ∧ lsum fs (r_n R) < lsum f (r_n R)) → (mo = 0 → (∀ u' b, u' < u → ad R u' b → f u' ≤ f b + wgt R H t u' b) ∧ ∀ w b, w < way → nx R u w = some b → f u ≤ f b + wgt R H t u b) → V_X11_layBright_104 l G 89 mo (nI u) (nI way) U Q) 4 ?_ ?_ U f mo fU tU mU c1 c2 c3 (fun z => ⟨c4 z, fun w b y => absurd y (by omega)⟩)
            · intro U f mo fU tU mU c1 c2 c3 c4
              have F := C.fr (DRb_DR fU)
              refine b_X11_layBright_104 F.sh.k89 ⟨fun _ v ev => ?_, fun z => absurd (by decide) z⟩
              rw [ev, nI_1]
              refine ih U f mo fU tU mU c1 c2 c3 (fun z u' b hu' hub => ?_)
              by_cases e : u' = u
              · rw [e] at hub ⊢
                obtain ⟨w, hw, hx⟩ := (ad_nx C.rw hu).mp hub
                exact (c4 z).2 w b hw hx
              · exact (c4 z).1 u' b (by omega) hub
            · intro way hw ih2 U f mo fU tU mU c1 c2 c3 c4
              have F := C.fr (DRb_DR fU)
              have hix : vp_in (nI (4 * u + way)) 80 := vp_nI (by omega) (by omega)
              have hfu := bnd f c1 u
              refine b_X11_layBright_104 F.sh.k89 ?_
              try simp only [Option.some.injEq, exists_eq_left', fi32, i10, i00, false_implies, true_implies, not_false_eq_true, not_true_eq_false, true_and, and_true, nI_1, lz0, lz1, ix0, ix11, ix2, F.sh.p89_22, F.sh.p89_23, F.sh.p89_24, F.sh.p89_28, F.sh.p89_32, F.sh.p89_33, F.sh.l103, F.sh.l104, F.sh.l105, F.sh.l106, F.sh.l108, F.sh.l109, F.rr.n, F.rr.nc, F.rr.np, F.rr.w, F.rr.h, F.rr.li, F.rr.mo, F.rs.bk, F.rs.yr, ix4, ix6, F.sh.p89_34, F.sh.p89_35, F.sh.l110, F.sh.l111, eq_false (nI_ge hw (show 4 < 2 ^ 31 by omega)), show (4 : Int32) = nI 4 from rfl, nI_mul, nI_add, hix, nI_clamp (show 4 * u + way < 2 ^ 31 by omega), F.rr.nx hu hw, F.rr.sd hu hw, vp_nI (show u < 20 by omega) (show 20 < 2 ^ 31 by omega), nI_clamp (show u < 2 ^ 31 by omega), mU u (by omega)]
              -- what goes on from the comparison
              have fin : ∀ kk, kk < 1000 → (∀ b, nx R u way = some b → wgt R H t u b = 1 + kk) → V_X11_layBright_164 l G 89 mo (nI u) (nI way) (oI (nx R u way)) (nI (f u) - 1) (nI kk) U Q := by
                intro kk hkk hkw
                refine b_X11_layBright_164 F.sh.k89 (fun v1 e1 => ?_)
                cases en : nx R u way with
                | none =>
                  refine ⟨fun _ v ev => ?_, fun z => absurd rfl z⟩
                  rw [ev, nI_1]
                  refine ih2 U f mo fU tU mU c1 c2 c3 (fun z => ⟨(c4 z).1, fun w b y1 y2 => ?_⟩)
                  by_cases e : w = way
                  · rw [e, en] at y2; cases y2
                  · exact (c4 z).2 w b (by omega) y2
                | some b =>
                  have hb := nx_lt C.rw hu en
                  have hfb := bnd f c1 b
                  have hw' := hkw b en
                  have hib : vp_in (nI b) 20 := vp_nI (by omega) (by omega)
                  rw [show oI (some b) = nI b from rfl]
                  refine ⟨fun z => absurd z (nI_m1 (by omega)), fun _ => ?_⟩
                  try simp only [Option.some.injEq, exists_eq_left', fi32, i10, i00, false_implies, true_implies, not_false_eq_true, not_true_eq_false, true_and, and_true, nI_1, lz0, lz1, ix0, ix11, ix2, F.sh.p89_22, F.sh.p89_23, F.sh.p89_24, F.sh.p89_28, F.sh.p89_32, F.sh.p89_33, F.sh.l103, F.sh.l104, F.sh.l105, F.sh.l106, F.sh.l108, F.sh.l109, F.rr.n, F.rr.nc, F.rr.np, F.rr.w, F.rr.h, F.rr.li, F.rr.mo, F.rs.bk, F.rs.yr, ix4, ix6, F.sh.p89_34, F.sh.l110, hib, nI_clamp (show b < 2 ^ 31 by omega), mU b (by omega), e1, sub2_le (show f u < 100000 by omega) (show kk < 100000 by omega) (show f b < 100000 by omega)]
                  refine ⟨fun z => ?_, fun z U2 e2 => ?_⟩
                  · refine ih2 U f mo fU tU mU c1 c2 c3 (fun y => ⟨(c4 y).1, fun w b' y1 y2 => ?_⟩)
                    by_cases e : w = way
                    · rw [e, en] at y2
                      cases y2
                      rw [hw']; exact z
                    · exact (c4 y).2 w b' (by omega) y2
                  · rw [sub2_v (by omega)] at e2
                    have up : ∀ x, f x ≤ (if x = b then f u - (1 + kk) else f x) := by
                      intro x
                      by_cases e : x = b
                      · rw [if_pos e, e]; omega
                      · rw [if_neg e]; exact Nat.le_refl _
                    refine ih2 U2 (fun x => if x = b then f u - (1 + kk) else f x) 1 (fU.tr (by rw [e2]; exact fr.si rfl)) (fun c' hc' => by rw [e2, m_gi_si, if_neg (by omega)]; exact tU c' hc') (fun q hq => ?_) (fun g hg hga x => ?_) (fun x => Nat.le_trans (c2 x) (up x)) (Or.inr ⟨rfl, ?_⟩) (fun y => absurd y (by decide))
                    · rw [e2, m_gi_si]
                      dsimp only
                      by_cases e : q = b
                      · rw [if_pos ⟨rfl, e⟩, if_pos e]
                      · rw [if_neg (fun y => e y.2), if_neg e]; exact mU q hq
                    · by_cases e : x = b
                      · simp only [if_pos e]
                        have g1 := hg u b ((ad_nx C.rw hu).mpr ⟨way, hw, en⟩)
                        have g2 := c1 g hg hga u
                        rw [e]
                        omega
                      · simp only [if_neg e]; exact c1 g hg hga x
                    · have l1 := lsum_le c2 (r_n R)
                      have l2 := lsum_lt up (i := b) (by simp only [if_pos]; omega) (r_n R) hb
                      omega
              cases es : sd R u way with
              | none =>
                refine ⟨fun z => absurd rfl z, fun _ => fin 0 (by omega) (fun b eb => by rw [wgt_sd eb, es])⟩
              | some c =>
                have hc : c < r_nc R := by
                  cases en : nx R u way with
                  | none => unfold sd at es; rw [en] at es; cases es
                  | some b => rw [sd_of en] at es; exact (bw_some es).1
                rw [show oI (some c) = nI c from rfl]
                refine ⟨fun _ => ⟨vp_nI (by omega) (by omega), ?_⟩, fun z => absurd z (nI_m1 (by omega))⟩
                rw [nI_clamp (by omega), tU c hc]
                have htc := ht c hc
                refine fin (tkk H t c) (by unfold tkk; split <;> omega) (fun b eb => by rw [wgt_sd eb, es])
      exact pass 2000 T2 (f0 a n) (by omega) f2 hT2 hF2 (fun g hg hga x => by
        unfold f0
        by_cases e : x = a
        · rw [if_pos e, e]; exact hga
        · rw [if_neg e]; omega) (by unfold f0; rw [if_pos rfl]; exact Nat.le_refl _)
    · intro q hq ih T2 f2 hT2 hF2
      have E := C.fr (DRb_DR f2)
      have hin : vp_in (nI q) 20 := vp_nI (by omega) (by omega)
      refine b_X11_layBright_47 E.sh.k89 ⟨fun z => absurd z (nI_ge hq (by decide)), fun _ => ?_⟩
      try simp only [Option.some.injEq, exists_eq_left', fi32, i10, i00, false_implies, true_implies, not_false_eq_true, not_true_eq_false, true_and, and_true, nI_1, lz0, lz1, ix0, ix11, ix2, E.sh.p89_22, E.sh.p89_23, E.sh.p89_24, E.sh.p89_28, E.sh.p89_32, E.sh.p89_33, E.sh.l103, E.sh.l104, E.sh.l105, E.sh.l106, E.sh.l108, E.sh.l109, E.rr.n, E.rr.nc, E.rr.np, E.rr.w, E.rr.h, E.rr.li, E.rr.mo, E.rs.bk, E.rs.yr, ix4, ix6, E.sh.p89_34, E.sh.l110, hin, nI_clamp (show q < 2 ^ 31 by omega), nI_eqI (show q < 2 ^ 31 by omega) (show a < 2 ^ 31 by omega)]
      refine ⟨fun z T3 e3 => ?_, fun z T3 e3 => ?_⟩
      · refine ih T3 (f2.tr (by rw [e3]; exact fr.si rfl)) (fun c' hc' => by rw [e3, m_gi_si, if_neg (by omega)]; exact hT2 c' hc') (fun q' hq' => ?_)
        rw [e3, m_gi_si]
        by_cases e : q' = q
        · rw [if_pos ⟨rfl, e⟩, e]
          unfold f0; rw [if_neg z]; rfl
        · rw [if_neg (fun y => e y.2)]; exact hF2 q' (by omega)
      · refine ih T3 (f2.tr (by rw [e3]; exact fr.si rfl)) (fun c' hc' => by rw [e3, m_gi_si, if_neg (by omega)]; exact hT2 c' hc') (fun q' hq' => ?_)
        rw [e3, m_gi_si]
        by_cases e : q' = q
        · rw [if_pos ⟨rfl, e⟩, e]
          unfold f0; rw [if_pos z]
        · rw [if_neg (fun y => e y.2)]; exact hF2 q' (by omega)
  · intro c hc ih T1 f1 hT1
    have D := C.fr (DRb_DR f1)
    have hin : vp_in (nI c) 10 := vp_nI (by omega) (by omega)
    refine b_X11_layBright_3 D.sh.k89 ?_
    try simp only [Option.some.injEq, exists_eq_left', fi32, i10, i00, false_implies, true_implies, not_false_eq_true, not_true_eq_false, true_and, and_true, nI_1, lz0, lz1, ix0, ix11, ix2, D.sh.p89_22, D.sh.p89_23, D.sh.p89_24, D.sh.p89_28, D.sh.p89_32, D.sh.p89_33, D.sh.l103, D.sh.l104, D.sh.l105, D.sh.l106, D.sh.l108, D.sh.l109, D.rr.n, D.rr.nc, D.rr.np, D.rr.w, D.rr.h, D.rr.li, D.rr.mo, D.rs.bk, D.rs.yr, ix4, ix6, gtF hc (show r_nc R < 2 ^ 31 by omega), D.sh.p89_35]
    refine s_rhas (by omega) (fun hb => ?_) (fun hb => ?_)
    · try simp only [Option.some.injEq, exists_eq_left', fi32, i10, i00, false_implies, true_implies, not_false_eq_true, not_true_eq_false, true_and, and_true, nI_1, lz0, lz1, ix0, ix11, ix2]
      refine T T1 c _ (DRb_DR f1) hc (fun T2 f2 => ?_)
      refine ⟨by rw [(D.sh.fr f2).l111]; exact hin, fun T3 e3 => ?_⟩
      try simp only [Option.some.injEq, exists_eq_left', fi32, i10, i00, false_implies, true_implies, not_false_eq_true, not_true_eq_false, true_and, and_true, nI_1, lz0, lz1, ix0, ix11, ix2]
      rw [nI_clamp (by omega)] at e3
      refine ih T3 ((f1.tr (DRL_DRb f2)).tr (by rw [e3]; exact fr.si rfl)) (fun c' hc' => ?_)
      rw [e3, m_gi_si]
      by_cases e : c' = c
      · rw [if_pos ⟨rfl, e⟩, e]
        unfold tkk; rw [if_pos hb]
      · rw [if_neg (fun z => e z.2), f2.i _ _ rfl]
        exact hT1 c' (by omega)
    · try simp only [Option.some.injEq, exists_eq_left', fi32, i10, i00, false_implies, true_implies, not_false_eq_true, not_true_eq_false, true_and, and_true, nI_1, lz0, lz1, ix0, ix11, ix2, D.sh.l111, hin, nI_clamp (show c < 2 ^ 31 by omega)]
      intro T3 e3
      try simp only [Option.some.injEq, exists_eq_left', fi32, i10, i00, false_implies, true_implies, not_false_eq_true, not_true_eq_false, true_and, and_true, nI_1, lz0, lz1, ix0, ix11, ix2]
      refine ih T3 (f1.tr (by rw [e3]; exact fr.si rfl)) (fun c' hc' => ?_)
      rw [e3, m_gi_si]
      by_cases e : c' = c
      · rw [if_pos ⟨rfl, e⟩, e]
        unfold tkk; rw [if_neg (by rw [hb]; decide)]; rfl
      · rw [if_neg (fun z => e z.2)]
        exact hT1 c' (by omega)
theorem s_layLit {Q : mj_S → Prop} (C : RI L S R s) (T : TKr l G S (r_nc R) t) (ht : ∀ c, c < r_nc R → t c ≤ 99) (hpos : 0 < r_n R) (h : ∀ S', fr DRb S S' → LMr S' (lit R (hg R s) t 0 (r_li R)) → Q S') : M_X11_layLit l G 89 S Q := by
  refine e_X11_layLit (b_X11_layLit_0 C.sh.k89 ⟨103, C.sh.p89_22, by rw [C.sh.l103]; exact vp_nI (p := 2) (by omega) (by omega), s_hanging C ?_⟩)
  rw [show (2 : Int32).toNatClampNeg = 2 by decide, C.rr.li]
  exact s_layBright (a := 0) C T ht hpos C.rw.li h
theorem s_litOfAll {Q : mj_S → Int32 → Prop} (C : RI L S R s) (T : TKr l G S (r_nc R) t) (ht : ∀ c, c < r_nc R → t c ≤ 99) (hpos : 0 < r_n R) (h : ∀ S', fr DR S S' → Q S' (nI (lsum (lit R (hg R s) t 0 (r_li R)) (r_n R)))) : M_X11_litOfAll l G 89 S Q := by
  have hn := C.rw.n
  refine e_X11_litOfAll (b_X11_litOfAll_0 C.sh.k89 (s_layLit C T ht hpos (fun S' f0' hM => ?_)))
  have f := DRb_DR f0'
  have D := C.fr f
  refine dn (P := fun q => V_X11_litOfAll_8 l G 89 (nI (lsum (lit R (hg R s) t 0 (r_li R)) q)) (nI q) S' Q) (r_n R) ?_ ?_
  · refine b_X11_litOfAll_8 D.sh.k89 ?_
    try simp only [Option.some.injEq, exists_eq_left', fi32, i10, i00, false_implies, true_implies, not_false_eq_true, not_true_eq_false, true_and, and_true, nI_1, lz0, lz1, ix0, ix11, ix2, D.sh.p89_22, D.sh.p89_23, D.sh.p89_24, D.sh.p89_28, D.sh.p89_32, D.sh.p89_33, D.sh.l103, D.sh.l104, D.sh.l105, D.sh.l106, D.sh.l108, D.sh.l109, D.rr.n, D.rr.nc, D.rr.np, D.rr.w, D.rr.h, D.rr.li, D.rr.mo, D.rs.bk, D.rs.yr, ix4, ix6, geT (show r_n R < 2 ^ 31 by omega)]
    exact h S' f
  · intro q hq ih
    refine b_X11_litOfAll_8 D.sh.k89 ?_
    try simp only [Option.some.injEq, exists_eq_left', fi32, i10, i00, false_implies, true_implies, not_false_eq_true, not_true_eq_false, true_and, and_true, nI_1, lz0, lz1, ix0, ix11, ix2, D.sh.p89_22, D.sh.p89_23, D.sh.p89_24, D.sh.p89_28, D.sh.p89_32, D.sh.p89_33, D.sh.l103, D.sh.l104, D.sh.l105, D.sh.l106, D.sh.l108, D.sh.l109, D.rr.n, D.rr.nc, D.rr.np, D.rr.w, D.rr.h, D.rr.li, D.rr.mo, D.rs.bk, D.rs.yr, ix4, ix6, gtF hq (show r_n R < 2 ^ 31 by omega), D.sh.p89_34, D.sh.l110, vp_nI (show q < 20 by omega) (show 20 < 2 ^ 31 by omega), nI_clamp (show q < 2 ^ 31 by omega), hM q (by omega), nI_add]
    exact ih
theorem d_lit {x1 : Int32} {Q : mj_S → Int32 → Prop} (C : RI L S R s) (T : TKr l G S (r_nc R) t) (ht : ∀ c, c < r_nc R → t c ≤ 99) (h : ∀ S', fr DR S S' → Q S' (A_lit R s t x1)) : M_X11_lit l G 89 x1 S Q := by
  have hn := C.rw.n
  unfold A_lit at h
  refine e_X11_lit (b_X11_lit_0 C.sh.k89 (s_risSquare C (fun q e => ?_) (fun e => ?_)))
  · obtain ⟨hq, ex⟩ := ixn_some (by omega) e
    rw [e] at h
    try simp only [Option.some.injEq, exists_eq_left', fi32, i10, i00, false_implies, true_implies, not_false_eq_true, not_true_eq_false, true_and, and_true, nI_1, lz0, lz1, ix0, ix11, ix2, C.sh.p89_22, C.sh.p89_23, C.sh.p89_24, C.sh.p89_28, C.sh.p89_32, C.sh.p89_33, C.sh.l103, C.sh.l104, C.sh.l105, C.sh.l106, C.sh.l108, C.sh.l109, C.rr.n, C.rr.nc, C.rr.np, C.rr.w, C.rr.h, C.rr.li, C.rr.mo, C.rs.bk, C.rs.yr, ix4, ix6]
    refine s_layLit C T ht (by omega) (fun S' f0' hM => ?_)
    have f := DRb_DR f0'
    have D := C.fr f
    rw [ex]
    try simp only [Option.some.injEq, exists_eq_left', fi32, i10, i00, false_implies, true_implies, not_false_eq_true, not_true_eq_false, true_and, and_true, nI_1, lz0, lz1, ix0, ix11, ix2, D.sh.p89_22, D.sh.p89_23, D.sh.p89_24, D.sh.p89_28, D.sh.p89_32, D.sh.p89_33, D.sh.l103, D.sh.l104, D.sh.l105, D.sh.l106, D.sh.l108, D.sh.l109, D.rr.n, D.rr.nc, D.rr.np, D.rr.w, D.rr.h, D.rr.li, D.rr.mo, D.rs.bk, D.rs.yr, ix4, ix6, D.sh.p89_34, D.sh.l110, vp_nI (show q < 20 by omega) (show 20 < 2 ^ 31 by omega), nI_clamp (show q < 2 ^ 31 by omega), hM q (by omega)]
    exact h S' f
  · rw [e] at h
    try simp only [Option.some.injEq, exists_eq_left', fi32, i10, i00, false_implies, true_implies, not_false_eq_true, not_true_eq_false, true_and, and_true, nI_1, lz0, lz1, ix0, ix11, ix2]
    exact h S fr.rf
theorem d_dark {Q : mj_S → Int32 → Prop} (C : RI L S R s) (T : TKr l G S (r_nc R) t) (ht : ∀ c, c < r_nc R → t c ≤ 99) (h : ∀ S', fr DR S S' → Q S' (A_dark R s t)) : M_X11_dark l G 89 S Q := by
  have hn := C.rw.n
  unfold A_dark at h
  refine e_X11_dark (b_X11_dark_0 C.sh.k89 ?_)
  try simp only [Option.some.injEq, exists_eq_left', fi32, i10, i00, false_implies, true_implies, not_false_eq_true, not_true_eq_false, true_and, and_true, nI_1, lz0, lz1, ix0, ix11, ix2, C.sh.p89_22, C.sh.p89_23, C.sh.p89_24, C.sh.p89_28, C.sh.p89_32, C.sh.p89_33, C.sh.l103, C.sh.l104, C.sh.l105, C.sh.l106, C.sh.l108, C.sh.l109, C.rr.n, C.rr.nc, C.rr.np, C.rr.w, C.rr.h, C.rr.li, C.rr.mo, C.rs.bk, C.rs.yr, ix4, ix6, nI_e0 (show r_n R < 2 ^ 31 by omega)]
  refine ⟨fun e => ?_, fun e => by rw [if_pos e] at h; exact h S fr.rf⟩
  rw [if_neg e] at h
  refine s_layLit C T ht (by omega) (fun S' f0' hM => ?_)
  have f := DRb_DR f0'
  have D := C.fr f
  refine dn (P := fun q => V_X11_dark_17 l G 89 (bs q (fun q => decide (lit R (hg R s) t 0 (r_li R) q = 0))) (nI q) S' Q) (r_n R) ?_ ?_
  · refine b_X11_dark_17 D.sh.k89 ?_
    try simp only [Option.some.injEq, exists_eq_left', fi32, i10, i00, false_implies, true_implies, not_false_eq_true, not_true_eq_false, true_and, and_true, nI_1, lz0, lz1, ix0, ix11, ix2, D.sh.p89_22, D.sh.p89_23, D.sh.p89_24, D.sh.p89_28, D.sh.p89_32, D.sh.p89_33, D.sh.l103, D.sh.l104, D.sh.l105, D.sh.l106, D.sh.l108, D.sh.l109, D.rr.n, D.rr.nc, D.rr.np, D.rr.w, D.rr.h, D.rr.li, D.rr.mo, D.rs.bk, D.rs.yr, ix4, ix6, geT (show r_n R < 2 ^ 31 by omega)]
    exact h S' f
  · intro q hq ih
    have hl := lit_99 (R := R) (t := t) (H := hg R s) (a := 0) C.rw.li q
    refine b_X11_dark_17 D.sh.k89 ?_
    try simp only [Option.some.injEq, exists_eq_left', fi32, i10, i00, false_implies, true_implies, not_false_eq_true, not_true_eq_false, true_and, and_true, nI_1, lz0, lz1, ix0, ix11, ix2, D.sh.p89_22, D.sh.p89_23, D.sh.p89_24, D.sh.p89_28, D.sh.p89_32, D.sh.p89_33, D.sh.l103, D.sh.l104, D.sh.l105, D.sh.l106, D.sh.l108, D.sh.l109, D.rr.n, D.rr.nc, D.rr.np, D.rr.w, D.rr.h, D.rr.li, D.rr.mo, D.rs.bk, D.rs.yr, ix4, ix6, gtF hq (show r_n R < 2 ^ 31 by omega), D.sh.p89_34, D.sh.l110, vp_nI (show q < 20 by omega) (show 20 < 2 ^ 31 by omega), nI_clamp (show q < 2 ^ 31 by omega), hM q (by omega), nI_e0 (show lit R (hg R s) t 0 (r_li R) q < 2 ^ 31 by omega)]
    refine ⟨fun z => ?_, fun z => ?_⟩
    · rw [bs_s0' (by simp [z])] at ih; exact ih
    · rw [bs_s1 (by simp [z])] at ih; exact ih
theorem d_seen {x1 x2 : Int32} {Q : mj_S → Int32 → Prop} (C : RI L S R s) (T : TKr l G S (r_nc R) t) (ht : ∀ c, c < r_nc R → t c ≤ 99) (h : ∀ S', fr DR S S' → Q S' (A_seen R s t x1 x2)) : M_X11_seen l G 89 x1 x2 S Q := by
  have hn := C.rw.n
  unfold A_seen at h
  refine e_X11_seen (b_X11_seen_0 C.sh.k89 (s_risSquare C (fun q e => ?_) (fun e => ?_)))
  · obtain ⟨hq, ex⟩ := ixn_some (by omega) e
    rw [e] at h
    dsimp only at h
    try simp only [Option.some.injEq, exists_eq_left', fi32, i10, i00, false_implies, true_implies, not_false_eq_true, not_true_eq_false, true_and, and_true, nI_1, lz0, lz1, ix0, ix11, ix2]
    refine s_rin (fun q1 q2 => ?_) (fun q => ?_)
    · obtain ⟨n, n1, n2, en⟩ := y99 q1 q2
      rw [if_neg (fun z => by rcases z with z | z; exact q1 z; exact q2 z), en, nI_clamp (by omega)] at h
      try simp only [Option.some.injEq, exists_eq_left', fi32, i10, i00, false_implies, true_implies, not_false_eq_true, not_true_eq_false, true_and, and_true, nI_1, lz0, lz1, ix0, ix11, ix2]
      refine s_hanging C ?_
      rw [ex, en]
      refine s_layBright C T ht hq n2 (fun S' f0' hM => ?_)
      have f := DRb_DR f0'
      have D := C.fr f
      refine dn (P := fun p => V_X11_seen_35 l G 89 (bs p (fun p => !decide (lit R (hg R s) t q n p = 0))) (nI p) S' Q) (r_n R) ?_ ?_
      · refine b_X11_seen_35 D.sh.k89 ?_
        try simp only [Option.some.injEq, exists_eq_left', fi32, i10, i00, false_implies, true_implies, not_false_eq_true, not_true_eq_false, true_and, and_true, nI_1, lz0, lz1, ix0, ix11, ix2, D.sh.p89_22, D.sh.p89_23, D.sh.p89_24, D.sh.p89_28, D.sh.p89_32, D.sh.p89_33, D.sh.l103, D.sh.l104, D.sh.l105, D.sh.l106, D.sh.l108, D.sh.l109, D.rr.n, D.rr.nc, D.rr.np, D.rr.w, D.rr.h, D.rr.li, D.rr.mo, D.rs.bk, D.rs.yr, ix4, ix6, geT (show r_n R < 2 ^ 31 by omega)]
        exact h S' f
      · intro p hp ih
        have hl := lit_99 (R := R) (t := t) (H := hg R s) (a := q) n2 p
        have le0 : (nI (lit R (hg R s) t q n p) ≤ 0) = (lit R (hg R s) t q n p = 0) := propext ⟨fun z => by have := (nI_leI (b := 0) (by omega) (by omega)).mp z; omega, fun z => by rw [z]; decide⟩
        refine b_X11_seen_35 D.sh.k89 ?_
        try simp only [Option.some.injEq, exists_eq_left', fi32, i10, i00, false_implies, true_implies, not_false_eq_true, not_true_eq_false, true_and, and_true, nI_1, lz0, lz1, ix0, ix11, ix2, D.sh.p89_22, D.sh.p89_23, D.sh.p89_24, D.sh.p89_28, D.sh.p89_32, D.sh.p89_33, D.sh.l103, D.sh.l104, D.sh.l105, D.sh.l106, D.sh.l108, D.sh.l109, D.rr.n, D.rr.nc, D.rr.np, D.rr.w, D.rr.h, D.rr.li, D.rr.mo, D.rs.bk, D.rs.yr, ix4, ix6, gtF hp (show r_n R < 2 ^ 31 by omega), D.sh.p89_34, D.sh.l110, vp_nI (show p < 20 by omega) (show 20 < 2 ^ 31 by omega), nI_clamp (show p < 2 ^ 31 by omega), hM p (by omega), le0]
        refine ⟨fun z => ?_, fun z => ?_⟩
        · rw [bs_s0' (by simp [z])] at ih; exact ih
        · rw [bs_s1 (by simp [z])] at ih; exact ih
    · rw [if_pos q] at h
      try simp only [Option.some.injEq, exists_eq_left', fi32, i10, i00, false_implies, true_implies, not_false_eq_true, not_true_eq_false, true_and, and_true, nI_1, lz0, lz1, ix0, ix11, ix2]
      exact h S fr.rf
  · rw [e] at h
    try simp only [Option.some.injEq, exists_eq_left', fi32, i10, i00, false_implies, true_implies, not_false_eq_true, not_true_eq_false, true_and, and_true, nI_1, lz0, lz1, ix0, ix11, ix2]
    exact h S fr.rf
theorem d_hide {x1 x2 x3 : Int32} {Q : mj_S → Int32 → Prop} (C : RI L S R s) (T : TKr l G S (r_nc R) t) (ht : ∀ c, c < r_nc R → t c ≤ 99) (h : ∀ S', fr DR S S' → Q S' (A_hide R s t x1 x2 x3)) : M_X11_hide l G 89 x1 x2 x3 S Q := by
  have hn := C.rw.n
  have nc := C.rw.nc
  have h10 := pow10 nc
  unfold A_hide at h
  refine e_X11_hide (b_X11_hide_0 C.sh.k89 (s_risSquare C (fun a e => ?_) (fun e => ?_)))
  · obtain ⟨ha, ex⟩ := ixn_some (by omega) e
    try simp only [Option.some.injEq, exists_eq_left', fi32, i10, i00, false_implies, true_implies, not_false_eq_true, not_true_eq_false, true_and, and_true, nI_1, lz0, lz1, ix0, ix11, ix2]
    refine s_risSquare C (fun b e2 => ?_) (fun e2 => ?_)
    · obtain ⟨hb, ex2⟩ := ixn_some (by omega) e2
      rw [e, e2] at h
      dsimp only at h
      try simp only [Option.some.injEq, exists_eq_left', fi32, i10, i00, false_implies, true_implies, not_false_eq_true, not_true_eq_false, true_and, and_true, nI_1, lz0, lz1, ix0, ix11, ix2]
      refine s_rin (fun q1 q2 => ?_) (fun q => ?_)
      · obtain ⟨n, n1, n2, en⟩ := y99 q1 q2
        rw [if_neg (fun z => by rcases z with z | z; exact q1 z; exact q2 z), en, nI_clamp (by omega)] at h
        try simp only [Option.some.injEq, exists_eq_left', fi32, i10, i00, false_implies, true_implies, not_false_eq_true, not_true_eq_false, true_and, and_true, nI_1, lz0, lz1, ix0, ix11, ix2]
        refine s_hanging C ?_
        rw [ex, ex2, en]
        refine dn (P := fun k => ∀ U, fr DR S U → V_X11_hide_40 l G 89 (nI a) (nI b) (nI n) (hd R s t a b n k) (hg R s) (nI k) U Q) (2 ^ r_nc R) ?_ ?_ S fr.rf
        · intro U fU
          have E := C.fr fU
          refine b_X11_hide_40 E.sh.k89 ⟨fun _ => h U fU, fun z => absurd ?_ z⟩
          rw [E.rr.nc]
          show on (r_nc R) ≤ _
          rw [on_nI (by omega)]; exact nI_le (Nat.le_refl _) (by omega)
        · intro k hk ih U fU
          have E := C.fr fU
          have ih2 := ih U fU
          unfold hd at ih2
          refine b_X11_hide_40 E.sh.k89 ⟨fun z => absurd z ?_, fun _ => s_rdrawnBack E ⟨fun z => ?_, fun z => s_isFewer (fun hf => ?_) (fun hf => ?_)⟩⟩
          · rw [E.rr.nc]
            show ¬ on (r_nc R) ≤ _
            rw [on_nI (by omega)]; exact nI_ge hk (by omega)
          · rw [if_pos (Or.inl z)] at ih2
            try simp only [Option.some.injEq, exists_eq_left', fi32, i10, i00, false_implies, true_implies, not_false_eq_true, not_true_eq_false, true_and, and_true, nI_1, lz0, lz1, ix0, ix11, ix2]
            exact ih2
          · try simp only [Option.some.injEq, exists_eq_left', fi32, i10, i00, false_implies, true_implies, not_false_eq_true, not_true_eq_false, true_and, and_true, nI_1, lz0, lz1, ix0, ix11, ix2]
            refine s_layBright E (T.fr fU) ht ha n2 (fun U2 f2' hM => ?_)
            have f2 := DRb_DR f2'
            have E2 := E.fr f2
            have hl := lit_99 (R := R) (t := t) (H := hg R s ||| nI k) (a := a) n2 b
            have ih3 := ih U2 (fU.tr f2)
            unfold hd at ih3
            rw [if_neg (fun y => by rcases y with y | y; exact y z; exact hf y)] at ih3
            try simp only [Option.some.injEq, exists_eq_left', fi32, i10, i00, false_implies, true_implies, not_false_eq_true, not_true_eq_false, true_and, and_true, nI_1, lz0, lz1, ix0, ix11, ix2, E2.sh.p89_22, E2.sh.p89_23, E2.sh.p89_24, E2.sh.p89_28, E2.sh.p89_32, E2.sh.p89_33, E2.sh.l103, E2.sh.l104, E2.sh.l105, E2.sh.l106, E2.sh.l108, E2.sh.l109, E2.rr.n, E2.rr.nc, E2.rr.np, E2.rr.w, E2.rr.h, E2.rr.li, E2.rr.mo, E2.rs.bk, E2.rs.yr, ix4, ix6, E2.sh.p89_34, E2.sh.l110, vp_nI (show b < 20 by omega) (show 20 < 2 ^ 31 by omega), nI_clamp (show b < 2 ^ 31 by omega), hM b (by omega), nI_e0 (show lit R (hg R s ||| nI k) t a n b < 2 ^ 31 by omega)]
            refine ⟨fun y => ?_, fun y => ?_⟩
            · rw [if_neg (by unfold hdP; simp [y])] at ih3; exact ih3
            · rw [if_pos (by unfold hdP; simp [y])] at ih3; exact ih3
          · rw [if_pos (Or.inr hf)] at ih2
            try simp only [Option.some.injEq, exists_eq_left', fi32, i10, i00, false_implies, true_implies, not_false_eq_true, not_true_eq_false, true_and, and_true, nI_1, lz0, lz1, ix0, ix11, ix2]
            exact ih2
      · rw [if_pos q] at h
        try simp only [Option.some.injEq, exists_eq_left', fi32, i10, i00, false_implies, true_implies, not_false_eq_true, not_true_eq_false, true_and, and_true, nI_1, lz0, lz1, ix0, ix11, ix2]
        exact h S fr.rf
    · rw [e, e2] at h
      try simp only [Option.some.injEq, exists_eq_left', fi32, i10, i00, false_implies, true_implies, not_false_eq_true, not_true_eq_false, true_and, and_true, nI_1, lz0, lz1, ix0, ix11, ix2]
      exact h S fr.rf
  · rw [e] at h
    try simp only [Option.some.injEq, exists_eq_left', fi32, i10, i00, false_implies, true_implies, not_false_eq_true, not_true_eq_false, true_and, and_true, nI_1, lz0, lz1, ix0, ix11, ix2]
    exact h S fr.rf
end RL
