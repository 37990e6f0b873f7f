/-! a law is read: the reference, and what is sure of it -/
def clok (c : cls) : Prop := (c.1.length = 0 ∨ gc 20 c.1) ∧ gs 20 c.2
def Do (x a j : Nat) : Bool := Dm x a j || (Nat.beq a 89 && Nat.beq j 14)
theorem Do_f {x a j : Nat} (h : Do x a j = false) : Dm x a j = false := (Bool.or_eq_false_iff.mp h).1
theorem Do_m {x a j : Nat} (h : Dm x a j = true) : Do x a j = true := by
  unfold Do; rw [h, Bool.true_or]
theorem Do_14 {x : Nat} : Do x 89 14 = true := by
  unfold Do; exact Bool.or_true _
section RKK
variable {l : Launch} {G : mj_G} {L D : Nat} {S : mj_S} {t : Nat → Nat} {n p x d m : Nat} {ts : List tok} {cs : List cls} {Q : mj_S → Int32 → Prop}
theorem enC_len {b : Nat} {c : cls} : c.1.length + c.2.length ≤ (enC b c).length := by
  unfold enC
  split
  · simp only [List.length_append, List.length_map, List.length_singleton]; omega
  · simp only [List.length_append, List.length_map, List.length_singleton]; omega
theorem clsD_clok {w : cls × Nat} (e : clsD t n p = .inr w) : clok w.1 := by
  unfold clsD at e
  split at e
  · split at e
    · have key : ∀ r : lrs, (∀ v, r = .inr v → gc 16 v.1) → ans1 t n (fst_ r (fun ts e => cndO t n (unD t n 6) ts e)) = .inr w → clok w.1 := by
        intro r hg er
        cases ef : fst_ r (fun ts e => cndO t n (unD t n 6) ts e) with
        | inl j => rw [ef] at er; cases er
        | inr v =>
          have hne : gc 20 v.1 := by
            obtain ⟨u, e1, e2⟩ := fst_inr ef
            exact (cndO_gc (unD_gc 6) (hg u e1) e2).wd (by omega)
          rw [ans1_r ef] at er
          cases ea : ansR t n v.2 with
          | inl j => rw [ea] at er; cases er
          | inr s =>
            rw [ea] at er
            cases er
            unfold ansR at ea
            split at ea
            · exact ⟨Or.inr hne, (sumD_gs 6 _ _ ea).wd (by omega)⟩
            · cases ea
      split at e
      · exact key _ (fun v ev => (unD_gc 6 _ _ ev).wd (by omega)) e
      · cases es : sumD t n 6 (skp t n (skp t n p + 1) + 1) with
        | inl j => simp only [es] at e; cases e
        | inr v =>
          simp only [es] at e
          cases ek : kdC (cr t n (skp t n v.2)) with
          | none => simp only [ek] at e; cases e; exact ⟨Or.inl rfl, (sumD_gs 6 _ _ es).wd (by omega)⟩
          | some c =>
            simp only [ek] at e
            exact key _ (fun u eu => cmpD_gc ((sumD_gs 6 _ _ es).wd (by omega)) eu) e
    · cases e
  · cases e
theorem lawD_s {g : Nat} {cs : List cls} : lawD t n (g + 1) cs p = match clsD t n p with
    | .inl j => .inl j
    | .inr w => if n ≤ skp t n w.2 then .inr (cs ++ [w.1]) else if t (skp t n w.2) = 59 then lawD t n g (cs ++ [w.1]) (skp t n w.2 + 1) else .inl (skp t n w.2) := rfl
theorem lawD_ok (hn : n ≤ 240) (ht : ∀ i, i < n → t i < 256) : ∀ (g : Nat) (cs : List cls) (p : Nat) (ds : List cls), p ≤ n → (enA [] cs).length ≤ p → (∀ c, c ∈ cs → clok c) → lawD t n g cs p = .inr ds → (∀ c, c ∈ ds → clok c) ∧ (enA [] ds).length ≤ 240
  | 0, cs, p, ds, hp, hl, hc, e => by cases e
  | g + 1, cs, p, ds, hp, hl, hc, e => by
    rw [lawD_s] at e
    cases ec : clsD t n p with
    | inl j => simp only [ec] at e; cases e
    | inr w =>
      simp only [ec] at e
      have hw := clsD_ok hn ht (enA [] cs).length hp ec
      have hq := skp_b (t := t) hw.2.1
      have hl2 : (enA [] (cs ++ [w.1])).length ≤ w.2 := by rw [enA_snoc, List.length_append]; omega
      have hc2 : ∀ c, c ∈ cs ++ [w.1] → clok c := by
        intro c hm
        rcases List.mem_append.mp hm with h | h
        · exact hc c h
        · rw [List.mem_singleton] at h; rw [h]; exact clsD_clok ec
      by_cases e1 : n ≤ skp t n w.2
      · rw [if_pos e1] at e; cases e; exact ⟨hc2, by omega⟩
      · rw [if_neg e1] at e
        by_cases e2 : t (skp t n w.2) = 59
        · rw [if_pos e2] at e
          exact lawD_ok hn ht g _ _ ds (by omega) (by omega) hc2 e
        · rw [if_neg e2] at e; cases e
theorem lawD_lt (hn : n ≤ 240) (ht : ∀ i, i < n → t i < 256) : ∀ (g : Nat) (cs : List cls) (p j : Nat), p ≤ n → lawD t n g cs p = .inl j → j < 1000
  | 0, cs, p, j, hp, e => by cases e; omega
  | g + 1, cs, p, j, hp, e => by
    rw [lawD_s] at e
    cases ec : clsD t n p with
    | inl i => simp only [ec] at e; cases e; exact clsD_lt hn ht hp ec
    | inr w =>
      simp only [ec] at e
      have hw := clsD_ok hn ht 0 hp ec
      have hq := skp_b (t := t) hw.2.1
      by_cases e1 : n ≤ skp t n w.2
      · rw [if_pos e1] at e; cases e
      · rw [if_neg e1] at e
        by_cases e2 : t (skp t n w.2) = 59
        · rw [if_pos e2] at e
          exact lawD_lt hn ht g _ _ j (by omega) e
        · rw [if_neg e2] at e; cases e; omega
theorem r_lawV (hx : x ≤ 4) : ∀ (g : Nat) (cs : List cls) (p : Nat) (S : mj_S), g + cs.length = 240 → 2 * cs.length ≤ p → Sh L S → RLW S t n p x 0 (tks cs) → CT S x cs → (tks cs).length ≤ p → (∀ j, lawD t n g cs p = .inl j → ∀ S', fr (Dm x) S S' → Q S' (nI j)) → (∀ ds, lawD t n g cs p = .inr ds → ∀ S', fr (Dm x) S S' → LH S' x ds → Q S' (-1)) → M_X11_clause l G 89 S (fun S4 => V_X11_readLaw_9 l G 89 S4 Q)
  | 0, cs, p, S, hg, hp, hs, W, C, hl, h0, h1 => by
    have := W.pn
    omega
  | g + 1, cs, p, S, hg, hp, hs, W, C, hl, h0, h1 => by
    have hpn := W.pn
    have ht := W.1.tw
    rw [lawD_s] at h0 h1
    refine r_clause hs hx (by omega) W C hl (fun j ej S1 f1 a1 => ?_) (fun w ew S1 f1 W1 C1 => ?_)
    · simp only [ej] at h0
      have hj := clsD_lt hpn.2 ht hpn.1 ej
      have hne : ¬ nI j = -1 := nI_m1 (by omega)
      have hQ : Q S1 (nI j) := h0 j rfl S1 f1
      refine b_X11_readLaw_9 (hs.fr f1).k89 ⟨fun _ => b_X11_readLaw_43 (hs.fr f1).k89 (e_X11_atEnd (b_X11_atEnd_0 (hs.fr f1).k89 ⟨fun _ => ?_, fun z => ?_⟩)), fun z => ?_⟩
      · rw [a1]; exact hQ
      · rw [a1] at z; exact absurd z hne
      · rw [a1] at z; exact absurd z hne
    · simp only [ew] at h0 h1
      have hw := clsD_ok hpn.2 ht (enA [] cs).length hpn.1 ew
      have hq := skp_b (t := t) hw.2.1
      have hel := enC_len (b := (enA [] cs).length) (c := w.1)
      have hl2 : (tks (cs ++ [w.1])).length ≤ w.2 := by rw [tks_snoc, List.length_append, List.length_append]; omega
      refine b_X11_readLaw_9 (hs.fr f1).k89 ⟨fun z => absurd W1.2.1 z, fun _ => r_look W1 (fun S2 f2 W2 => ⟨fun z => ?_, fun z S3 e3 => ?_⟩)⟩
      · have f2' := f1.tr f2.dm
        refine b_X11_readLaw_43 (hs.fr f2').k89 (e_X11_atEnd (b_X11_atEnd_0 (hs.fr f2').k89 ⟨fun z => absurd W2.2.1 z, fun _ => r_look W2 (fun S3 f3 W3 => ?_)⟩))
        rw [skp_id W1.pn.1] at W3 ⊢
        refine ⟨fun z3 => ?_, fun z3 => ?_⟩
        · rw [if_pos ((cr_m1 ht).mp z3)] at h1
          rw [W3.2.1]
          exact h1 _ rfl S3 (f2'.tr f3.dm) ⟨(C1.f f2).f f3, W3.2.2.2.2.2⟩
        · have hlt : ¬ n ≤ skp t n w.2 := fun y => z3 ((cr_m1 ht).mpr y)
          have hno : ¬ t (skp t n w.2) = 59 := fun y => z ((cr_is ht (k := 59) (by omega)).mpr ⟨by omega, y⟩)
          rw [if_neg hlt, if_neg hno] at h0
          refine r_bad W3 (fun S4 f4 a4 b4 => ?_)
          rw [a4]
          exact h0 _ rfl S4 (f2'.tr (f3.tr f4).dm)
      · have z' := (cr_is ht (k := 59) (by omega)).mp z
        rw [if_neg (show ¬ n ≤ skp t n w.2 by omega), if_pos z'.2] at h0 h1
        have W3 := W2.st z'.1 e3
        have f3' := f1.tr (f2.tr W3.2).dm
        exact r_lawV hx g _ _ S3 (by rw [List.length_append, List.length_singleton]; omega) (by rw [List.length_append, List.length_singleton]; omega) (hs.fr f3') W3.1 ((C1.f f2).f W3.2) (by omega) (fun j ej S' f' => h0 j ej S' (f3'.tr f')) (fun ds eds S' f' H' => h1 ds eds S' (f3'.tr f') H')
theorem r_readLaw (hs : Sh L S) (hx : x ≤ 4) (hn : n ≤ 240) (h2 : m_gi S 89 2 = nI n) (h90 : ∀ i, i < n → m_gi S 90 i = nI (t i)) (ht : ∀ i, i < n → t i < 256) (h0 : ∀ j, lawD t n 240 [] 0 = .inl j → ∀ S', fr (Do x) S S' → Q S' (nI j)) (h1 : ∀ ds, lawD t n 240 [] 0 = .inr ds → ∀ S', fr (Do x) S S' → LH S' x ds → Q S' (-1)) : M_X11_readLaw l G 89 (nI x) S Q := by
  have hcl : (nI x).toNatClampNeg = x := nI_clamp (by omega)
  refine e_X11_readLaw (b_X11_readLaw_0 hs.k89 (e_X11_open (b_X11_open_0 hs.k89 (fun S1 e1 S2 e2 S3 e3 S4 e4 => ?_))))
  have f4 : fr (Do x) S S4 := by
    rw [e4, e3, e2, e1]
    exact (((fr.si Do_14).tr (fr.si (Do_m (Dm_l (Dl_t (by omega)))))).tr (fr.si (Do_m (Dm_l (Dl_t (by omega)))))).tr (fr.si (Do_m (Dm_l (Dl_t (by omega)))))
  have hs4 := hs.fr f4
  refine ⟨93, hs4.p89_8, by rw [hs4.l93]; exact vp_nI (by omega) (by omega), fun S6 e6 => ?_⟩
  rw [hcl] at e6
  have f6 : fr (Do x) S S6 := f4.tr (by rw [e6]; exact fr.si (Do_m (Dm_l (Dl_t (by omega)))))
  have hs6 := hs.fr f6
  refine ⟨94, hs6.p89_9, by rw [hs6.l94]; exact vp_nI (by omega) (by omega), fun S8 e8 => ?_⟩
  rw [hcl] at e8
  have f8 : fr (Do x) S S8 := f6.tr (by rw [e8]; exact fr.si (Do_m (Dm_t (by omega))))
  have hs8 := hs.fr f8
  have g8 : ∀ a j, m_gi S8 a j = if a = 94 ∧ j = x then 0 else if a = 93 ∧ j = x then 0 else if a = 89 ∧ j = 5 then 0 else if a = 89 ∧ j = 4 then -1 else if a = 89 ∧ j = 3 then 0 else if a = 89 ∧ j = 14 then nI x else m_gi S a j := fun a j => by rw [e8, m_gi_si, e6, m_gi_si, e4, m_gi_si, e3, m_gi_si, e2, m_gi_si, e1, m_gi_si]
  have W8 : RLW S8 t n 0 x 0 (tks []) := by
    refine ⟨⟨⟨hs8.k89, hs8.l90, hs8.p89_1⟩, ?_, ?_, by omega, hn, fun i hi => ?_, ht⟩, ?_, ?_, ?_, ?_, fun i hi => absurd hi (Nat.not_lt_zero i)⟩
    · rw [g8, if_neg (by omega), if_neg (by omega), if_neg (by omega), if_neg (by omega), if_neg (by omega), if_neg (by omega)]; exact h2
    · rw [g8, if_neg (by omega), if_neg (by omega), if_neg (by omega), if_neg (by omega), if_pos (by omega)]; rfl
    · rw [g8, if_neg (by omega), if_neg (by omega), if_neg (by omega), if_neg (by omega), if_neg (by omega), if_neg (by omega)]; exact h90 i hi
    · rw [g8, if_neg (by omega), if_neg (by omega), if_neg (by omega), if_pos (by omega)]
    · rw [g8, if_neg (by omega), if_neg (by omega), if_pos (by omega)]; rfl
    · rw [g8, if_neg (by omega), if_neg (by omega), if_neg (by omega), if_neg (by omega), if_neg (by omega), if_pos (by omega)]
    · rw [g8, if_neg (by omega), if_pos (by omega)]; rfl
  have C8 : CT S8 x [] := ⟨by rw [g8, if_pos (by omega)]; rfl, fun i hi => absurd hi (Nat.not_lt_zero i)⟩
  have wd : ∀ S', fr (Dm x) S8 S' → fr (Do x) S S' := fun S' f' => f8.tr (f'.wid (fun a j h => Do_f h))
  exact r_lawV hx 240 [] 0 S8 rfl (by simp) hs8 W8 C8 (by simp [tks]) (fun j ej S' f' => h0 j ej S' (wd S' f')) (fun ds eds S' f' H' => h1 ds eds S' (wd S' f') H')
end RKK
