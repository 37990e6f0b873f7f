/-! what a curtain takes by a law: the class -/
def hd0 (st : List Int) : Int := st.headD 0
def wth (env : Nat → Int) : List cls → Int
  | [] => 0
  | c :: cs => if c.1.length = 0 ∨ hd0 (runs env c.1 []) ≠ 0 then hd0 (runs env c.2 []) else wth env cs
def enL : Nat → List cls → List Int32
  | _, [] => []
  | b, c :: cs => enC b c ++ enL (b + (enC b c).length) cs
theorem enA_enL : ∀ (cs : List cls) (ss : List Int32), enA ss cs = ss ++ enL ss.length cs
  | [], ss => by show ss = ss ++ []; rw [List.append_nil]
  | c :: cs, ss => by
    show enA (ss ++ enC ss.length c) cs = ss ++ (enC ss.length c ++ enL (ss.length + (enC ss.length c).length) cs)
    rw [enA_enL cs, List.length_append, List.append_assoc]
theorem wth_b {env : Nat → Int} (he : ∀ i, i < 6 → bdv (env i)) : ∀ (cs : List cls), (∀ c, c ∈ cs → clok c) → bdv (wth env cs)
  | [], _ => by show bdv 0; unfold bdv; omega
  | c :: cs, hc => by
    show bdv (if c.1.length = 0 ∨ hd0 (runs env c.1 []) ≠ 0 then hd0 (runs env c.2 []) else wth env cs)
    by_cases e : c.1.length = 0 ∨ hd0 (runs env c.1 []) ≠ 0
    · rw [if_pos e]
      obtain ⟨_, v, bv, rv⟩ := (hc c (List.mem_cons_self ..)).2 env he [] (by simp)
      rw [rv]; exact bv
    · rw [if_neg e]
      exact wth_b he cs (fun d hd => hc d (List.mem_cons_of_mem _ hd))
/-- from p on the steps ls lie in A -/
def AT (S : mj_S) (A N p : Nat) (ls : List Int32) : Prop := ∀ k, (h : k < ls.length) → p + k < N ∧ m_gi S A (p + k) = ls[k]
section CTK
variable {l : Launch} {G : mj_G} {L : Nat} {S : mj_S} {Q : mj_S → Int32 → Prop} {A N p : Nat} {a b : List Int32}
theorem AT.left (h : AT S A N p (a ++ b)) : AT S A N p a := fun k hk => by
  have := h k (by rw [List.length_append]; omega)
  rw [List.getElem_append_left hk] at this
  exact this
theorem AT.right (h : AT S A N p (a ++ b)) : AT S A N (p + a.length) b := fun k hk => by
  have := h (a.length + k) (by rw [List.length_append]; omega)
  rw [List.getElem_append_right (by omega)] at this
  simp only [Nat.add_sub_cancel_left] at this
  rw [Nat.add_assoc]
  exact this
theorem AT.f {S' : mj_S} (h : AT S A N p a) (hA : 25 ≤ A ∧ A ≤ 28) (f : fr Dk S S') : AT S' A N p a := fun k hk => ⟨(h k hk).1, (f.i _ _ (Dk_f (by omega) (by omega))).trans (h k hk).2⟩
theorem AT.run {ts : List tok} (h : AT S A N p (ts.map enc)) : ∀ k, (hk : k < ts.length) → p + k < N ∧ m_gi S A (p + k) = enc (ts[k]) := fun k hk => by
  have := h k (by rw [List.length_map]; exact hk)
  rw [List.getElem_map] at this
  exact this
theorem AT.hd {x : Int32} (h : AT S A N p (x :: b)) : p < N ∧ m_gi S A p = x := h 0 (by simp)
theorem c_ans {env : Nat → Int} {i : Nat} {ts : List tok} (hN : N ≤ 240) (hA : 25 ≤ A ∧ A ≤ 28) (hs : Sh L S) (h : AT S A N p (ts.map enc ++ [nI 262144])) (he : ∀ j, j < 6 → m_gi S 30 j = vI (env j)) (hb : ∀ j, j < 6 → bdv (env j)) (hi : i ≤ p) (hg : gs 20 ts) (K : SK S []) (hq : ∀ S', fr Dk S S' → Q S' (vI (hd0 (runs env ts [])))) : V_X2_worthBy_10 l G 23 A (nI N) (nI p) (nI i) S Q := by
  obtain ⟨g1, v, bv, rv⟩ := hg env hb [] (by simp)
  refine c_run hN hA ts [] p i S hs h.left.run he hi g1 (by simp) K (fun S' i' f' hi' K' => ?_)
  have h2 := (h.right.f hA f').hd
  rw [List.length_map] at h2
  rw [rv] at K' hq
  have hs' := hs.fr f'
  have hA' : m_kd S' A = 100 ∧ m_ln S' A = 240 := by
    have : A = 25 ∨ A = 26 ∨ A = 27 ∨ A = 28 := by omega
    rcases this with e | e | e | e <;> subst e
    · exact ⟨hs'.k25, hs'.l25⟩
    · exact ⟨hs'.k26, hs'.l26⟩
    · exact ⟨hs'.k27, hs'.l27⟩
    · exact ⟨hs'.k28, hs'.l28⟩
  exact c_at (sg := 4) (b := 0) hs' hA' hN h2.1 hi' h2.2 (by omega) (by omega) ⟨fun z => absurd z (by decide), fun z => absurd z (by decide), fun z => absurd z (by decide), fun _ => s_pop hs' K' (by simp) (fun S2 f2 K2 => hq S2 (f'.tr f2)), fun z => absurd z (by decide), fun z => absurd rfl z.2.2.2.1⟩
theorem c_worth {env : Nat → Int} (hN : N ≤ 240) (hA : 25 ≤ A ∧ A ≤ 28) (hb : ∀ j, j < 6 → bdv (env j)) : ∀ (cs : List cls) (p i : Nat) (S : mj_S), Sh L S → AT S A N p (enL p cs) → p + (enL p cs).length = N → (∀ j, j < 6 → m_gi S 30 j = vI (env j)) → i ≤ p → (∀ c, c ∈ cs → clok c) → SK S [] → (∀ S', fr Dk S S' → Q S' (vI (wth env cs))) → V_X2_worthBy_10 l G 23 A (nI N) (nI p) (nI i) S Q
  | [], p, i, S, hs, h, hp, he, hi, hc, K, hq => by
    have hp' : p + 0 = N := hp
    have hA' : m_kd S A = 100 := by
      have : A = 25 ∨ A = 26 ∨ A = 27 ∨ A = 28 := by omega
      rcases this with e | e | e | e <;> subst e
      · exact hs.k25
      · exact hs.k26
      · exact hs.k27
      · exact hs.k28
    exact b_X2_worthBy_10 hs.k23 hA' ⟨fun _ => hq S fr.rf, fun _ => ⟨fun _ => hq S fr.rf, fun z => absurd (nI_le (by omega) (by omega)) z⟩⟩
  | c :: cs, p, i, S, hs, h, hp, he, hi, hc, K, hq => by
    have hcc := hc c (List.mem_cons_self ..)
    have h' : AT S A N p (enC p c ++ enL (p + (enC p c).length) cs) := h
    have hp' : p + (enC p c ++ enL (p + (enC p c).length) cs).length = N := hp
    rw [List.length_append] at hp'
    have hq' : ∀ S', fr Dk S S' → Q S' (vI (if c.1.length = 0 ∨ hd0 (runs env c.1 []) ≠ 0 then hd0 (runs env c.2 []) else wth env cs)) := hq
    by_cases e : c.1.length = 0
    · rw [if_pos (Or.inl e)] at hq'
      have e2 : enC p c = c.2.map enc ++ [nI 262144] := by unfold enC; rw [if_pos e]
      have h1 := h'.left
      rw [e2] at h1
      exact c_ans hN hA hs h1 he hb hi hcc.2 K hq'
    · have hgc : gc 20 c.1 := by
        rcases hcc.1 with q | q
        · exact absurd q e
        · exact q
      obtain ⟨g1, v, bv, rv⟩ := hgc env hb [] (by simp)
      have e2 : enC p c = c.1.map enc ++ ([nI (196608 + (p + c.1.length + c.2.length + 2))] ++ (c.2.map enc ++ [nI 262144])) := by
        unfold enC; rw [if_neg e]; simp only [List.append_assoc]
      have e3 : (enC p c).length = c.1.length + c.2.length + 2 := by
        rw [e2]; simp only [List.length_append, List.length_map, List.length_singleton]; omega
      have h1 := h'.left
      rw [e2] at h1
      refine c_run hN hA c.1 [] p i S hs h1.left.run he hi g1 (by simp) K (fun S' i' f' hi' K' => ?_)
      have h2 := (h1.right.f hA f')
      rw [List.length_map] at h2
      have h3 := h2.left.hd
      have h4 := h2.right
      rw [List.length_singleton] at h4
      rw [rv] at K' hq'
      have hs' := hs.fr f'
      have hA' : m_kd S' A = 100 ∧ m_ln S' A = 240 := by
        have : A = 25 ∨ A = 26 ∨ A = 27 ∨ A = 28 := by omega
        rcases this with e | e | e | e <;> subst e
        · exact ⟨hs'.k25, hs'.l25⟩
        · exact ⟨hs'.k26, hs'.l26⟩
        · exact ⟨hs'.k27, hs'.l27⟩
        · exact ⟨hs'.k28, hs'.l28⟩
      have hle : p + c.1.length + c.2.length + 2 ≤ N := by omega
      refine c_at (sg := 3) (b := p + c.1.length + c.2.length + 2) hs' hA' hN h3.1 hi' h3.2 (by omega) (by omega) ⟨fun z => absurd z (by decide), fun z => absurd z (by decide), fun _ => s_pop hs' K' (by simp) (fun S2 f2 K2 => ⟨fun z v5 e5 => ?_, fun z v5 e5 => ?_⟩), fun z => absurd z (by decide), fun z => absurd z (by decide), fun z => absurd rfl z.2.2.1⟩
      · rw [e5]
        have hv : v ≠ 0 := fun y => z (by rw [y]; rfl)
        rw [if_pos (Or.inr (show hd0 [v] ≠ 0 from hv))] at hq'
        have f2' := f'.tr f2
        exact c_ans hN hA (hs.fr f2') (h4.f hA f2) (fun j hj => (f2'.i _ _ (Dk_f (by omega) (by omega))).trans (he j hj)) hb (by omega) hcc.2 K2 (fun S3 f3 => hq' S3 (f2'.tr f3))
      · rw [e5]
        have hv : v = 0 := (vI_eq (b := 0) bv.b (by unfold bdv; omega)).mp z
        rw [if_neg (fun y => y.elim e (fun y2 => y2 hv))] at hq'
        have f2' := f'.tr f2
        have h5 := h'.right
        rw [e3, show p + (c.1.length + c.2.length + 2) = p + c.1.length + c.2.length + 2 by omega] at h5 hp'
        exact c_worth hN hA hb cs _ _ S2 (hs.fr f2') (h5.f hA f2') (by rw [← hp']; omega) (fun j hj => (f2'.i _ _ (Dk_f (by omega) (by omega))).trans (he j hj)) (by omega) (fun d hd => hc d (List.mem_cons_of_mem _ hd)) K2 (fun S3 f3 => hq' S3 (f2'.tr f3))
end CTK
def envR (R : rm) (s : sc) (c i : Nat) : Int := if i = 0 then (r_ve R c : Int) else if i = 1 then (s_cl s c : Int) else if i = 2 then (r_gp R c : Int) else if i = 3 then (r_li R : Int) else if i = 4 then (s_yr s : Int) else (c : Int)
def tkW (R : rm) (h : Option (List cls)) (s : sc) (c : Nat) : Int := match h with
  | none => ((r_ve R c + s_cl s c / 10 : Nat) : Int)
  | some cs => wth (envR R s c) cs
def tkL (R : rm) (h : Option (List cls)) (s : sc) (c : Nat) : Nat := (max 1 (min 99 (tkW R h s c))).toNat
theorem tkL_ok (R : rm) (h : Option (List cls)) : t_ok R (tkL R h) := fun s c _ => by unfold tkL; omega
theorem mm_v {w : Int} (hw : bdv w) : mx 1 (mn 99 (vI w)) = nI ((max 1 (min 99 w)).toNat) := by
  have e1 : mn 99 (vI w) = vI (min 99 w) := by
    unfold mn
    have q : vI w < 99 ↔ w < 99 := by rw [Int32.lt_iff_toInt_lt, vI_t hw, show (99 : Int32).toInt = 99 from rfl]
    by_cases z : w < 99
    · rw [if_pos (q.mpr z), show min 99 w = w by omega]
    · rw [if_neg (fun y => z (q.mp y)), show min 99 w = 99 by omega]; rfl
  have hb : bdv (min 99 w) := by unfold bdv at *; omega
  rw [e1]
  unfold mx
  have q : 1 < vI (min 99 w) ↔ 1 < min 99 w := by rw [Int32.lt_iff_toInt_lt, vI_t hb, show (1 : Int32).toInt = 1 from rfl]
  rw [← vI_n]
  by_cases z : 1 < min 99 w
  · rw [if_pos (q.mpr z)]; congr 1; omega
  · rw [if_neg (fun y => z (q.mp y)), show (((max 1 (min 99 w)).toNat : Nat) : Int) = 1 by omega]; rfl
theorem d10 : ∀ a, a < 100 → nI a / 10 = nI (a / 10) := by decide +kernel
/-- the law that holds, as the class keeps it -/
def LCh (S : mj_S) (h : Option (List cls)) : Prop := match h with
  | none => m_gi S 23 1 = -1
  | some cs => ∃ i, i < 4 ∧ m_gi S 23 1 = nI i ∧ m_gi S 29 i = nI (enA [] cs).length ∧ (enA [] cs).length ≤ 240 ∧ (∀ k, (hk : k < (enA [] cs).length) → m_gi S (25 + i) k = (enA [] cs)[k]) ∧ ∀ c, c ∈ cs → clok c
theorem LCh.keep {S S' : mj_S} {h : Option (List cls)} (H : LCh S h) (k : ∀ a j, 23 ≤ a → a ≤ 29 → ¬ (a = 23 ∧ j = 6) → m_gi S' a j = m_gi S a j) : LCh S' h := by
  cases h with
  | none => exact (k _ _ (by omega) (by omega) (by omega)).trans H
  | some cs =>
    obtain ⟨i, hi, e1, e2, e3, e4, e5⟩ := H
    exact ⟨i, hi, (k _ _ (by omega) (by omega) (by omega)).trans e1, (k _ _ (by omega) (by omega) (by omega)).trans e2, e3, fun j hj => (k _ _ (by omega) (by omega) (by omega)).trans (e4 j hj), e5⟩
theorem DL_t {j : Nat} : DL 30 j = true := rfl
theorem Dk_DL {S S' : mj_S} (f : fr Dk S S') : fr DL S S' := f.wid (fun a j h => by
  unfold DL at h
  unfold Dk
  rw [Bool.or_eq_false_iff] at h
  rw [h.2, Bool.or_false]
  have := h.1
  rw [← Bool.not_eq_true] at this ⊢
  simp only [Bool.and_eq_true, Nat.ble_eq, Nat.beq_eq] at this ⊢
  omega)
section CTK2
variable {l : Launch} {G : mj_G} {L r x rs : Nat} {R : rm} {s : sc} {S : mj_S} {Q : mj_S → Int32 → Prop} {H : Option (List cls)}
theorem DL_DC' {S S' : mj_S} (f : fr DL S S') : fr DC S S' := f.wid (fun a j h => by
  unfold DC at h
  unfold DL
  rw [Bool.or_assoc, Bool.or_eq_false_iff] at h
  exact h.2)
theorem envR_b {c : Nat} (hR : r_wf R) (hw : s_wf R s) (hc : c < r_nc R) (hy : s_yr s ≤ 2000) : ∀ i, i < 6 → bdv (envR R s c i) := by
  intro i _
  have h1 := hR.ve hc
  have h2 := hw.cl hc
  have h3 := hR.gp hc
  have h4 := hR.li
  have h5 := hR.nc
  unfold envR bdv
  repeat' split
  all_goals omega
theorem c_takes {c : Nat} (C : CI L S r x rs R s) (K : LCh S H) (hc : c < r_nc R) (hy : s_yr s ≤ 2000) (h : ∀ S', fr DL S S' → Q S' (nI (tkL R H s c))) : M_X2_takes l G 23 x (nI c) S Q := by
  have h1 := C.rw.ve hc
  have h2 := C.sw.cl hc
  have h5 := C.rw.nc
  have hx := C.hx
  have hr := C.sn.irm
  have hcl : (nI c).toNatClampNeg = c := nI_clamp (by omega)
  have hin : vp_in (nI c) 10 := vp_nI (by omega) (by omega)
  have kx : m_kd S x = 7 := by rcases hx with e | e <;> subst e; exact C.sh.k50; exact C.sh.k62
  have fin : ∀ (w : Int) (S' : mj_S), bdv w → tkW R H s c = w → fr DL S S' → V_X2_takes_122 l G (vI w) S' Q := by
    intro w S' hw ew f'
    refine b_X2_takes_122 (s_mn (s_mx ?_))
    rw [mm_v hw, ← ew]
    exact h S' f'
  refine e_X2_takes (b_X2_takes_0 C.sh.k23 kx ⟨rs, C.sn.p, rs + 4, C.sh.rp11 hr, by rw [C.sh.rl11 hr]; exact hin, x + 10, C.sh.sp1 hx, by rw [C.sh.sl1 hx]; exact hin, by decide, fun v4 e4 => ?_⟩)
  have ve : ∀ {S'}, CI L S' r x rs R s → m_gi S' (rs + 4) c = nI (r_ve R c) := fun C' => (C'.sn.rc.2.2.1 c hc).2.2.2.1
  have gp : ∀ {S'}, CI L S' r x rs R s → m_gi S' (rs + 5) c = nI (r_gp R c) := fun C' => (C'.sn.rc.2.2.1 c hc).2.2.2.2
  have li : ∀ {S'}, CI L S' r x rs R s → m_gi S' rs 2 = nI (r_li R) := fun C' => C'.sn.rc.1.2.2.1
  rw [hcl, ve C, C.sn.cl hc, d10 _ (by omega), nI_add] at e4
  cases H with
  | none =>
    have K' : m_gi S 23 1 = -1 := K
    rw [K']
    refine s_wit (fun z => absurd (by decide) z) (fun _ => ⟨fun _ => ?_, fun z => absurd rfl z⟩)
    rw [e4, ← vI_n]
    exact fin _ S (by unfold bdv; omega) rfl fr.rf
  | some cs =>
    have K0 := K
    obtain ⟨i, hi, e1, _⟩ := K
    rw [e1]
    refine s_wit (fun _ _ => ⟨fun z => absurd z (by decide), fun _ => ?_⟩) (fun z => ?_)
    · refine ⟨30, C.sh.p23_4, rs + 4, C.sh.rp11 hr, by rw [C.sh.rl11 hr]; exact hin, by rw [C.sh.l30]; exact vp_nI (p := 0) (by omega) (by omega), fun S9 e9 => ?_⟩
      rw [hcl, ve C] at e9
      have f9 : fr DL S S9 := by rw [e9]; exact fr.si rfl
      have C9 := C.fr (DL_DC' f9)
      refine ⟨30, C9.sh.p23_4, x + 10, C9.sh.sp1 hx, by rw [C9.sh.sl1 hx]; exact hin, by rw [C9.sh.l30]; exact vp_nI (p := 1) (by omega) (by omega), fun S12 e12 => ?_⟩
      rw [hcl, C9.sn.cl hc] at e12
      have f12 : fr DL S S12 := f9.tr (by rw [e12]; exact fr.si rfl)
      have C12 := C.fr (DL_DC' f12)
      refine ⟨30, C12.sh.p23_4, rs + 5, C12.sh.rp12 hr, by rw [C12.sh.rl12 hr]; exact hin, by rw [C12.sh.l30]; exact vp_nI (p := 2) (by omega) (by omega), fun S15 e15 => ?_⟩
      rw [hcl, gp C12] at e15
      have f15 : fr DL S S15 := f12.tr (by rw [e15]; exact fr.si rfl)
      have C15 := C.fr (DL_DC' f15)
      refine ⟨30, C15.sh.p23_4, by rw [C15.sh.l30]; exact vp_nI (p := 3) (by omega) (by omega), fun S17 e17 => ?_⟩
      rw [li C15] at e17
      have f17 : fr DL S S17 := f15.tr (by rw [e17]; exact fr.si rfl)
      have C17 := C.fr (DL_DC' f17)
      refine ⟨30, C17.sh.p23_4, by rw [C17.sh.l30]; exact vp_nI (p := 4) (by omega) (by omega), fun S19 e19 => ?_⟩
      rw [C17.sn.yr] at e19
      have f19 : fr DL S S19 := f17.tr (by rw [e19]; exact fr.si rfl)
      have C19 := C.fr (DL_DC' f19)
      refine ⟨30, C19.sh.p23_4, by rw [C19.sh.l30]; exact vp_nI (p := 5) (by omega) (by omega), fun S21 e21 => ?_⟩
      have f21 : fr DL S S21 := f19.tr (by rw [e21]; exact fr.si rfl)
      have C21 := C.fr (DL_DC' f21)
      have hs := C21.sh
      have K21 : LCh S21 (some cs) := K0.keep (fun a j q1 q2 q3 => (DL_DC' f21).i a j (DC_law q1 q2 q3))
      obtain ⟨i', hi', e1', e2', e3', e4', e5'⟩ := K21
      have hin4 : vp_in (nI i') 4 := vp_nI hi' (by omega)
      have hcl' : (nI i').toNatClampNeg = i' := nI_clamp (by omega)
      refine ⟨24, hs.p23_2, ?_⟩
      rw [e1', hs.l24, hcl']
      have pA : m_gp S21 24 i' = some (25 + i') := by
        have : i' = 0 ∨ i' = 1 ∨ i' = 2 ∨ i' = 3 := by omega
        rcases this with e | e | e | e <;> subst e
        · exact hs.p24_0
        · exact hs.p24_1
        · exact hs.p24_2
        · exact hs.p24_3
      refine ⟨hin4, 25 + i', pA, 29, hs.p23_3, by rw [hs.l29]; exact hin4, ?_⟩
      rw [e2']
      have hA : 25 ≤ 25 + i' ∧ 25 + i' ≤ 28 := by omega
      have kA : m_kd S21 (25 + i') = 100 := by
        have : i' = 0 ∨ i' = 1 ∨ i' = 2 ∨ i' = 3 := by omega
        rcases this with e | e | e | e <;> subst e
        · exact hs.k25
        · exact hs.k26
        · exact hs.k27
        · exact hs.k28
      refine e_X2_worthBy (b_X2_worthBy_0 hs.k23 kA (fun S22 e22 => ?_))
      have f22 : fr Dk S21 S22 := by rw [e22]; exact fr.si rfl
      have eE : enA [] cs = enL 0 cs := by rw [enA_enL]; rfl
      have hat : AT S22 (25 + i') (enA [] cs).length 0 (enL 0 cs) := by
        intro k hk
        rw [← eE] at hk
        rw [Nat.zero_add, f22.i _ _ (Dk_f (by omega) (by omega)), e4' k hk]
        exact ⟨hk, by simp only [eE]⟩
      have hen : ∀ j, j < 6 → m_gi S22 30 j = vI (envR R s c j) := by
        intro j hj
        rw [f22.i _ _ (Dk_f (by omega) (by omega)), e21, m_gi_si, e19, m_gi_si, e17, m_gi_si, e15, m_gi_si, e12, m_gi_si, e9, m_gi_si]
        have : j = 0 ∨ j = 1 ∨ j = 2 ∨ j = 3 ∨ j = 4 ∨ j = 5 := by omega
        rcases this with e | e | e | e | e | e <;> subst e <;> rfl
      exact c_worth e3' hA (envR_b C.rw C.sw hc hy) cs 0 0 S22 (hs.fr f22) hat (by rw [Nat.zero_add, eE]) hen (Nat.le_refl 0) e5' ⟨by rw [e22, m_gi_si, if_pos ⟨rfl, rfl⟩]; rfl, fun k hk => absurd hk (Nat.not_lt_zero k)⟩ (fun S' f' => fin _ S' (wth_b (envR_b C.rw C.sw hc hy) cs e5') rfl (f21.tr (Dk_DL (f22.tr f'))))
    · rcases z with z | z
      · exact absurd z (nI_pos (by omega))
      · exact absurd z (nI_nlt (a := 3) (by omega) (by omega))
theorem CK_of (K : LCh S H) : CK l G L S R (tkL R H) := by
  intro S' r x rs s hz C hy S2 c Q f2 hc h
  exact c_takes (C.fr f2) (K.keep (fun a j q1 q2 q3 => (f2.i a j (DC_law q1 q2 q3)).trans (hz.2 a j q1 q2 q3))) hc hy h
end CTK2
