/-! light: the least that is closed -/
def ad (R : rm) (a b : Nat) : Prop := (b = a + 1 ∧ a < r_n R ∧ a % r_w R + 1 < r_w R) ∨ (a = b + 1 ∧ b < r_n R ∧ b % r_w R + 1 < r_w R) ∨ (b = a + r_w R ∧ a + r_w R < r_n R) ∨ (a = b + r_w R ∧ b + r_w R < r_n R)
def lcl (R : rm) (W : Nat → Nat → Nat) (g : Nat → Nat) : Prop := ∀ a b, ad R a b → g a ≤ g b + W a b
def relax (f : Nat → Nat) (a b w : Nat) : Nat → Nat := if f b + w < f a then (fun q => if q = b then f a - w else f q) else if f a + w < f b then (fun q => if q = a then f b - w else f q) else f
theorem rx_mono (f : Nat → Nat) (a b w x : Nat) : f x ≤ relax f a b w x := by
  unfold relax
  by_cases h1 : f b + w < f a
  · rw [if_pos h1]; try dsimp only
    by_cases e : x = b
    · rw [if_pos e, e]; omega
    · rw [if_neg e]; exact Nat.le_refl _
  · rw [if_neg h1]
    by_cases h2 : f a + w < f b
    · rw [if_pos h2]; try dsimp only
      by_cases e : x = a
      · rw [if_pos e, e]; omega
      · rw [if_neg e]; exact Nat.le_refl _
    · rw [if_neg h2]; exact Nat.le_refl _
theorem rx_sound {f g : Nat → Nat} {a b w : Nat} (h1 : g a ≤ g b + w) (h2 : g b ≤ g a + w) (h : ∀ x, f x ≤ g x) (x : Nat) : relax f a b w x ≤ g x := by
  have ha := h a
  have hb := h b
  have hx := h x
  unfold relax
  by_cases q1 : f b + w < f a
  · rw [if_pos q1]; try dsimp only
    by_cases e : x = b
    · rw [if_pos e, e]; omega
    · rw [if_neg e]; exact hx
  · rw [if_neg q1]
    by_cases q2 : f a + w < f b
    · rw [if_pos q2]; try dsimp only
      by_cases e : x = a
      · rw [if_pos e, e]; omega
      · rw [if_neg e]; exact hx
    · rw [if_neg q2]; exact hx
theorem rx_ab (f : Nat → Nat) (a b w : Nat) : f a ≤ relax f a b w b + w ∧ f b ≤ relax f a b w a + w := by
  unfold relax
  by_cases q1 : f b + w < f a
  · rw [if_pos q1]; try dsimp only
    rw [if_pos rfl]
    refine ⟨by omega, ?_⟩
    by_cases e : a = b
    · rw [if_pos e]; omega
    · rw [if_neg e]; omega
  · rw [if_neg q1]
    by_cases q2 : f a + w < f b
    · rw [if_pos q2]; try dsimp only
      rw [if_pos rfl]
      refine ⟨?_, by omega⟩
      by_cases e : b = a
      · rw [if_pos e]; omega
      · rw [if_neg e]; omega
    · rw [if_neg q2]; omega
def ca (R : rm) (W : Nat → Nat → Nat) (q : Nat) (f : Nat → Nat) : Nat → Nat := if q % r_w R + 1 < r_w R then relax f q (q + 1) (W q (q + 1)) else f
def cb (R : rm) (W : Nat → Nat → Nat) (q : Nat) (f : Nat → Nat) : Nat → Nat := if q + r_w R < r_n R then relax f q (q + r_w R) (W q (q + r_w R)) else f
def cry (R : rm) (W : Nat → Nat → Nat) : Nat → (Nat → Nat) → Nat → Nat
  | 0, f => f
  | q + 1, f => cb R W q (ca R W q (cry R W q f))
section LT
variable {R : rm} {W : Nat → Nat → Nat}
theorem ca_mono (q : Nat) (f : Nat → Nat) (x : Nat) : f x ≤ ca R W q f x := by
  unfold ca
  split
  · exact rx_mono ..
  · exact Nat.le_refl _
theorem cb_mono (q : Nat) (f : Nat → Nat) (x : Nat) : f x ≤ cb R W q f x := by
  unfold cb
  split
  · exact rx_mono ..
  · exact Nat.le_refl _
theorem cry_mono (f : Nat → Nat) (x : Nat) : ∀ q, f x ≤ cry R W q f x
  | 0 => Nat.le_refl _
  | q + 1 => Nat.le_trans (cry_mono f x q) (Nat.le_trans (ca_mono q _ x) (cb_mono q _ x))
theorem cry_sound (hW : ∀ a b, W a b = W b a) {f g : Nat → Nat} (hg : lcl R W g) (h : ∀ x, f x ≤ g x) : ∀ q, q ≤ r_n R → ∀ x, cry R W q f x ≤ g x
  | 0, _ => h
  | q + 1, hq => by
    have ih := cry_sound hW hg h q (by omega)
    have h1 : ∀ x, ca R W q (cry R W q f) x ≤ g x := by
      intro x
      unfold ca
      split
      · rename_i e
        refine rx_sound (hg q (q + 1) (Or.inl ⟨rfl, by omega, e⟩)) ?_ ih x
        rw [hW]; exact hg (q + 1) q (Or.inr (Or.inl ⟨rfl, by omega, e⟩))
      · exact ih x
    intro x
    show cb R W q (ca R W q (cry R W q f)) x ≤ g x
    unfold cb
    split
    · rename_i e
      refine rx_sound (hg q (q + r_w R) (Or.inr (Or.inr (Or.inl ⟨rfl, e⟩)))) ?_ h1 x
      rw [hW]; exact hg (q + r_w R) q (Or.inr (Or.inr (Or.inr ⟨rfl, e⟩)))
    · exact h1 x
theorem cry_rx (f : Nat → Nat) {c : Nat} : ∀ q, c < q → (c % r_w R + 1 < r_w R → f c ≤ cry R W q f (c + 1) + W c (c + 1) ∧ f (c + 1) ≤ cry R W q f c + W c (c + 1)) ∧ (c + r_w R < r_n R → f c ≤ cry R W q f (c + r_w R) + W c (c + r_w R) ∧ f (c + r_w R) ≤ cry R W q f c + W c (c + r_w R))
  | 0, h => absurd h (by omega)
  | q + 1, h => by
    by_cases e : c = q
    · subst e
      constructor
      · intro h1
        have r := rx_ab (cry R W c f) c (c + 1) (W c (c + 1))
        have e1 : ca R W c (cry R W c f) = relax (cry R W c f) c (c + 1) (W c (c + 1)) := if_pos h1
        rw [← e1] at r
        have m1 := cb_mono (R := R) (W := W) c (ca R W c (cry R W c f)) (c + 1)
        have m2 := cb_mono (R := R) (W := W) c (ca R W c (cry R W c f)) c
        have n1 := cry_mono (R := R) (W := W) f c c
        have n2 := cry_mono (R := R) (W := W) f (c + 1) c
        show f c ≤ cb R W c (ca R W c (cry R W c f)) (c + 1) + _ ∧ f (c + 1) ≤ cb R W c (ca R W c (cry R W c f)) c + _
        omega
      · intro h1
        have r := rx_ab (ca R W c (cry R W c f)) c (c + r_w R) (W c (c + r_w R))
        have e1 : cb R W c (ca R W c (cry R W c f)) = relax (ca R W c (cry R W c f)) c (c + r_w R) (W c (c + r_w R)) := if_pos h1
        rw [← e1] at r
        have m1 := ca_mono (R := R) (W := W) c (cry R W c f) (c + r_w R)
        have m2 := ca_mono (R := R) (W := W) c (cry R W c f) c
        have n1 := cry_mono (R := R) (W := W) f c c
        have n2 := cry_mono (R := R) (W := W) f (c + r_w R) c
        show f c ≤ cb R W c (ca R W c (cry R W c f)) (c + r_w R) + _ ∧ f (c + r_w R) ≤ cb R W c (ca R W c (cry R W c f)) c + _
        omega
    · have ih := cry_rx f (c := c) q (by omega)
      have up : ∀ x, cry R W q f x ≤ cry R W (q + 1) f x := fun x => Nat.le_trans (ca_mono q _ x) (cb_mono q _ x)
      have u1 := up c
      have u2 := up (c + 1)
      have u3 := up (c + r_w R)
      constructor
      · intro h1
        have := ih.1 h1
        omega
      · intro h1
        have := ih.2 h1
        omega
theorem cry_ad (hW : ∀ a b, W a b = W b a) (hR : r_wf R) (f : Nat → Nat) {a b : Nat} (h : ad R a b) : f a ≤ cry R W (r_n R) f b + W a b := by
  rcases h with ⟨e, h1, h2⟩ | ⟨e, h1, h2⟩ | ⟨e, h1⟩ | ⟨e, h1⟩
  · rw [e]; exact ((cry_rx f (r_n R) h1).1 h2).1
  · rw [e, hW]; exact ((cry_rx f (r_n R) h1).1 h2).2
  · rw [e]; exact ((cry_rx f (r_n R) (by omega)).2 h1).1
  · rw [e, hW]; exact ((cry_rx f (r_n R) (by omega)).2 h1).2
theorem ad_lt (hR : r_wf R) {a b : Nat} (h : ad R a b) : a < r_n R ∧ b < r_n R := by
  rcases h with ⟨e, h1, h2⟩ | ⟨e, h1, h2⟩ | ⟨e, h1⟩ | ⟨e, h1⟩
  · have := r_right h1 h2; unfold r_n; unfold r_n at h1; omega
  · have := r_right h1 h2; unfold r_n; unfold r_n at h1; omega
  · omega
  · omega
def it (R : rm) (W : Nat → Nat → Nat) : Nat → (Nat → Nat) → Nat → Nat
  | 0, f => f
  | k + 1, f => cry R W (r_n R) (it R W k f)
theorem it_mono (f : Nat → Nat) (x : Nat) : ∀ k, f x ≤ it R W k f x
  | 0 => Nat.le_refl _
  | k + 1 => Nat.le_trans (it_mono f x k) (cry_mono _ x (r_n R))
theorem it_sound (hW : ∀ a b, W a b = W b a) {f g : Nat → Nat} (hg : lcl R W g) (h : ∀ x, f x ≤ g x) : ∀ k x, it R W k f x ≤ g x
  | 0 => h
  | k + 1 => cry_sound hW hg (it_sound hW hg h k) (r_n R) (Nat.le_refl _)
theorem it_fix {f : Nat → Nat} {k : Nat} (h : cry R W (r_n R) (it R W k f) = it R W k f) : ∀ m, k ≤ m → it R W m f = it R W k f
  | 0, hm => by rw [show k = 0 by omega]
  | m + 1, hm => by
    by_cases e : k = m + 1
    · rw [e]
    · show cry R W (r_n R) (it R W m f) = _
      rw [it_fix h m (by omega)]; exact h
theorem ex_least {P : Nat → Prop} (h : ∃ n, P n) : ∃ n, P n ∧ ∀ m, P m → n ≤ m := by
  obtain ⟨n, hn⟩ := h
  induction n using Nat.strongRecOn with
  | _ n ih =>
    by_cases e : ∃ m, m < n ∧ P m
    · obtain ⟨m, h1, h2⟩ := e
      exact ih m h1 h2
    · exact ⟨n, hn, fun m hm => Nat.le_of_not_lt (fun z => e ⟨m, z, hm⟩)⟩
theorem lg_ex (R : rm) (W : Nat → Nat → Nat) (a n : Nat) : ∃ g : Nat → Nat, lcl R W g ∧ n ≤ g a ∧ ∀ h, lcl R W h → n ≤ h a → ∀ x, g x ≤ h x := by
  have ex : ∀ q, ∃ v, (∃ h, lcl R W h ∧ n ≤ h a ∧ h q = v) ∧ ∀ m, (∃ h, lcl R W h ∧ n ≤ h a ∧ h q = m) → v ≤ m := fun q => ex_least ⟨n, fun _ => n, fun _ _ _ => Nat.le_add_right _ _, Nat.le_refl _, rfl⟩
  refine ⟨fun q => Classical.choose (ex q), ?_, ?_, ?_⟩
  · intro x y hxy
    obtain ⟨h, h1, h2, h3⟩ := (Classical.choose_spec (ex y)).1
    have := (Classical.choose_spec (ex x)).2 (h x) ⟨h, h1, h2, rfl⟩
    have := h1 x y hxy
    try dsimp only
    omega
  · obtain ⟨h, h1, h2, h3⟩ := (Classical.choose_spec (ex a)).1
    try dsimp only
    omega
  · intro h h1 h2 x
    exact (Classical.choose_spec (ex x)).2 (h x) ⟨h, h1, h2, rfl⟩
theorem cnt_mono {T U : Nat → Bool} (h : ∀ q, T q = true → U q = true) : ∀ n, cnt T n ≤ cnt U n
  | 0 => Nat.le_refl _
  | n + 1 => by
    have ih := cnt_mono h n
    unfold cnt
    by_cases e : T n = true
    · rw [if_pos e, if_pos (h n e)]; omega
    · rw [if_neg e]; split <;> omega
theorem cnt_lt {T U : Nat → Bool} (h : ∀ q, T q = true → U q = true) {i : Nat} (h1 : T i = false) (h2 : U i = true) : ∀ n, i < n → cnt T n < cnt U n
  | 0, hn => absurd hn (by omega)
  | n + 1, hn => by
    unfold cnt
    by_cases e : i = n
    · have := cnt_mono h n
      rw [← e, h1, h2, if_neg (by decide), if_pos rfl]
      rw [← e] at this
      omega
    · have ih := cnt_lt h h1 h2 n (by omega)
      by_cases e2 : T n = true
      · rw [if_pos e2, if_pos (h n e2)]; omega
      · rw [if_neg e2]; split <;> omega
theorem cnt_full {T : Nat → Bool} : ∀ n, n ≤ cnt T n → ∀ q, q < n → T q = true
  | 0, _, q, hq => absurd hq (by omega)
  | n + 1, h, q, hq => by
    unfold cnt at h
    have := cnt_le (T := T) n
    by_cases e : T n = true
    · rw [if_pos e] at h
      by_cases e2 : q = n
      · rw [e2]; exact e
      · exact cnt_full n (by omega) q (by omega)
    · rw [if_neg e] at h; omega
/-- one that is largest -/
theorem ex_max {U : Nat → Prop} {g : Nat → Nat} {M : Nat} (hM : ∀ q, U q → g q ≤ M) : ∀ k q, U q → M ≤ g q + k → ∃ m, U m ∧ ∀ z, U z → g z ≤ g m
  | 0, q, hq, h => ⟨q, hq, fun z hz => by have := hM z hz; omega⟩
  | k + 1, q, hq, h => by
    by_cases e : ∃ z, U z ∧ g q < g z
    · obtain ⟨z, h1, h2⟩ := e
      exact ex_max hM k z h1 (by omega)
    · exact ⟨q, hq, fun z hz => Nat.le_of_not_lt (fun y => e ⟨z, hz, y⟩)⟩
/-- what is first lit -/
def f0 (a n : Nat) : Nat → Nat := fun q => if q = a then n else 0
theorem lt_is (hR : r_wf R) (hW : ∀ a b, W a b = W b a) (hW1 : ∀ a b, 1 ≤ W a b) {a n : Nat} (ha : a < r_n R) : lcl R W (it R W (r_n R) (f0 a n)) ∧ n ≤ it R W (r_n R) (f0 a n) a ∧ ∀ h, lcl R W h → n ≤ h a → ∀ x, it R W (r_n R) (f0 a n) x ≤ h x := by
  have f0a : f0 a n a = n := if_pos rfl
  have base : ∀ h : Nat → Nat, n ≤ h a → ∀ x, f0 a n x ≤ h x := by
    intro h h1 x
    unfold f0
    by_cases e : x = a
    · rw [if_pos e, e]; exact h1
    · rw [if_neg e]; omega
  have third : ∀ h, lcl R W h → n ≤ h a → ∀ k x, it R W k (f0 a n) x ≤ h x := fun h h1 h2 k x => it_sound hW h1 (base h h2) k x
  have second : ∀ k, n ≤ it R W k (f0 a n) a := fun k => by
    have := it_mono (R := R) (W := W) (f0 a n) a k
    rw [f0a] at this; exact this
  refine ⟨?_, second _, fun h h1 h2 => third h h1 h2 _⟩
  obtain ⟨g, g1, g2, g3⟩ := lg_ex R W a n
  have gM : ∀ q, g q ≤ n := fun q => g3 (fun _ => n) (fun _ _ _ => Nat.le_add_right _ _) (Nat.le_refl _) q
  have tight : ∀ q, q ≠ a → 0 < g q → ∃ p, ad R p q ∧ g p = g q + W p q := by
    intro q hq hpos
    by_cases e : ∃ p, ad R p q ∧ g p = g q + W p q
    · exact e
    · exfalso
      have hlt : ∀ p, ad R p q → g p < g q + W p q := fun p hp => by
        have := g1 p q hp
        rcases Nat.lt_or_ge (g p) (g q + W p q) with z | z
        · exact z
        · exact absurd ⟨p, hp, by omega⟩ e
      have := g3 (fun x => if x = q then g q - 1 else g x) ?_ ?_ q
      · try dsimp only at this
        rw [if_pos rfl] at this
        omega
      · intro x y hxy
        try dsimp only
        have h1 := g1 x y hxy
        by_cases ey : y = q
        · rw [if_pos ey]
          rw [ey] at hxy h1 ⊢
          have h2 := hlt x hxy
          by_cases ex : x = q
          · rw [if_pos ex]; omega
          · rw [if_neg ex]; omega
        · rw [if_neg ey]
          by_cases ex : x = q
          · rw [if_pos ex]
            rw [ex] at h1 ⊢
            omega
          · rw [if_neg ex]; exact h1
      · try dsimp only
        rw [if_neg (fun z => hq z.symm)]; exact g2
  -- each pass settles one more
  have key : ∀ k, min (k + 1) (r_n R) ≤ cnt (fun q => decide (it R W k (f0 a n) q = g q)) (r_n R) := by
    intro k
    induction k with
    | zero =>
      have hp := cnt_pos (T := fun q => decide (it R W 0 (f0 a n) q = g q)) (m := a) (by
        have h1 := gM a
        have : it R W 0 (f0 a n) a = g a := by show f0 a n a = g a; rw [f0a]; omega
        exact decide_eq_true this) (r_n R) ha
      omega
    | succ k ih =>
      have mono : ∀ q, decide (it R W k (f0 a n) q = g q) = true → decide (it R W (k + 1) (f0 a n) q = g q) = true := by
        intro q hq
        rw [decide_eq_true_iff] at hq ⊢
        have h1 := third g g1 g2 (k + 1) q
        have h2 : it R W k (f0 a n) q ≤ it R W (k + 1) (f0 a n) q := cry_mono _ q (r_n R)
        omega
      by_cases e : ∃ q, q < r_n R ∧ it R W k (f0 a n) q ≠ g q
      · obtain ⟨q0, q1, q2⟩ := e
        obtain ⟨q, ⟨h1, h2⟩, h3⟩ := ex_max (U := fun q => q < r_n R ∧ it R W k (f0 a n) q ≠ g q) (g := g) (M := n) (fun q _ => gM q) n q0 ⟨q1, q2⟩ (by omega)
        have hle := third g g1 g2 k q
        have hqa : q ≠ a := by
          intro z
          rw [z] at h2 hle
          have := second k
          have := gM a
          omega
        obtain ⟨p, p1, p2⟩ := tight q hqa (by omega)
        have hWp := hW1 p q
        have hp : it R W k (f0 a n) p = g p := by
          by_cases z : it R W k (f0 a n) p = g p
          · exact z
          · have := h3 p ⟨(ad_lt hR p1).1, z⟩
            omega
        have hq' : it R W (k + 1) (f0 a n) q = g q := by
          have u1 := cry_ad hW hR (it R W k (f0 a n)) p1
          have u2 := third g g1 g2 (k + 1) q
          have u3 : it R W (k + 1) (f0 a n) q = cry R W (r_n R) (it R W k (f0 a n)) q := rfl
          omega
        have := cnt_lt (T := fun q => decide (it R W k (f0 a n) q = g q)) (U := fun q => decide (it R W (k + 1) (f0 a n) q = g q)) mono (i := q) (decide_eq_false h2) (decide_eq_true hq') (r_n R) h1
        omega
      · have all : ∀ q, q < r_n R → it R W k (f0 a n) q = g q := fun q hq => Classical.byContradiction (fun z => e ⟨q, hq, z⟩)
        have : ∀ m, m ≤ r_n R → m ≤ cnt (fun q => decide (it R W k (f0 a n) q = g q)) m := by
          intro m
          induction m with
          | zero => intro _; exact Nat.zero_le _
          | succ m ihm =>
            intro hm
            have := ihm (by omega)
            show m + 1 ≤ cnt _ m + (if decide (it R W k (f0 a n) m = g m) = true then 1 else 0)
            rw [if_pos (decide_eq_true (all m (by omega)))]; omega
        have h1 := this (r_n R) (Nat.le_refl _)
        have h2 := cnt_mono mono (r_n R)
        omega
  have full := cnt_full (T := fun q => decide (it R W (r_n R) (f0 a n) q = g q)) (r_n R) (by have := key (r_n R); omega)
  intro x y hxy
  have hx := full x (ad_lt hR hxy).1
  have hy := full y (ad_lt hR hxy).2
  rw [decide_eq_true_iff] at hx hy
  rw [hx, hy]; exact g1 x y hxy
/-- and only that one -/
theorem lt_uni (hR : r_wf R) (hW : ∀ a b, W a b = W b a) (hW1 : ∀ a b, 1 ≤ W a b) {a n : Nat} (ha : a < r_n R) {f : Nat → Nat} (h1 : lcl R W f) (h2 : n ≤ f a) (h3 : ∀ h, lcl R W h → n ≤ h a → ∀ x, f x ≤ h x) : f = it R W (r_n R) (f0 a n) := by
  have := lt_is hR hW hW1 (n := n) ha
  funext x
  exact Nat.le_antisymm (h3 _ this.1 this.2.1 x) (this.2.2 f h1 h2 x)
end LT
/-! the weight of a side -/
def wgt (R : rm) (H : Int32) (t : Nat → Nat) (a b : Nat) : Nat := 1 + (match bw R (min a b) (max a b) (r_nc R) with
  | none => 0
  | some c => if bt H c = true then t c else 0)
theorem wgt_s (R : rm) (H : Int32) (t : Nat → Nat) (a b : Nat) : wgt R H t a b = wgt R H t b a := by unfold wgt; rw [Nat.min_comm, Nat.max_comm]
theorem wgt_1 (R : rm) (H : Int32) (t : Nat → Nat) (a b : Nat) : 1 ≤ wgt R H t a b := Nat.le_add_right _ _
/-- how bright -/
def lit (R : rm) (H : Int32) (t : Nat → Nat) (a n : Nat) : Nat → Nat := it R (wgt R H t) (r_n R) (f0 a n)
/-- the class's sums -/
def wk (R : rm) (H : Int32) (t : Nat → Nat) (d q : Nat) : Nat → Nat
  | 0 => 1
  | k + 1 => wk R H t d q k + (if bt H k = true ∧ r_rl R k = d ∧ r_nr R k = q then t k else 0)
theorem wk_no {R : rm} {H : Int32} {t : Nat → Nat} {d q : Nat} : ∀ {k : Nat}, (∀ c, c < k → ¬ (bt H c = true ∧ r_rl R c = d ∧ r_nr R c = q)) → wk R H t d q k = 1
  | 0, _ => rfl
  | k + 1, h => by
    have ih := wk_no (t := t) (k := k) (fun c hc => h c (by omega))
    show wk R H t d q k + _ = 1
    rw [ih, if_neg (h k (by omega))]
theorem wk_one {R : rm} {H : Int32} {t : Nat → Nat} {d q c : Nat} (hR : r_wf R) (h : bt H c = true ∧ r_rl R c = d ∧ r_nr R c = q) : ∀ {k : Nat}, k ≤ r_nc R → c < k → wk R H t d q k = 1 + t c
  | 0, _, hc => absurd hc (by omega)
  | k + 1, hk, hc => by
    show wk R H t d q k + _ = 1 + t c
    by_cases e : c = k
    · subst e
      rw [if_pos h, wk_no (fun c' hc' z => ?_)]
      have := hR.ne (show c' < r_nc R by omega) (show c < r_nc R by omega) (by rw [z.2.2, h.2.2]) (by rw [z.2.1, h.2.1])
      omega
    · have hz : ¬ (bt H k = true ∧ r_rl R k = d ∧ r_nr R k = q) := by
        intro z
        have := hR.ne (show c < r_nc R by omega) (show k < r_nc R by omega) (by rw [z.2.2, h.2.2]) (by rw [z.2.1, h.2.1])
        omega
      rw [wk_one hR h (k := k) (by omega) (by omega), if_neg hz]; rfl
theorem wk_0 {R : rm} {H : Int32} {t : Nat → Nat} {q : Nat} (hR : r_wf R) (hq : q % r_w R + 1 < r_w R) : wk R H t 0 q (r_nc R) = wgt R H t q (q + 1) := by
  unfold wgt
  rw [Nat.min_eq_left (by omega), Nat.max_eq_right (by omega)]
  cases e : bw R q (q + 1) (r_nc R) with
  | none =>
    exact wk_no (fun c hc z => bw_none e hc ⟨z.2.2, by rw [← z.2.2]; exact ((rl_of hR hc).1.mpr z.2.1).1⟩)
  | some c =>
    have hc := bw_some e
    try dsimp only
    have hrl : r_rl R c = 0 := (rl_of hR hc.1).1.mp ⟨by rw [hc.2.1]; exact hc.2.2, by rw [hc.2.1]; exact hq⟩
    by_cases hb : bt H c = true
    · rw [if_pos hb, wk_one hR ⟨hb, hrl, hc.2.1⟩ (Nat.le_refl _) hc.1]
    · rw [if_neg hb]
      refine wk_no (fun c' hc' z => ?_)
      have : c' = c := hR.ne hc' hc.1 (by rw [z.2.2, hc.2.1]) (by rw [z.2.1, hrl])
      rw [this] at z; exact hb z.1
theorem wk_1 {R : rm} {H : Int32} {t : Nat → Nat} {q : Nat} (hR : r_wf R) : wk R H t 1 q (r_nc R) = wgt R H t q (q + r_w R) := by
  unfold wgt
  rw [Nat.min_eq_left (by omega), Nat.max_eq_right (by omega)]
  cases e : bw R q (q + r_w R) (r_nc R) with
  | none =>
    exact wk_no (fun c hc z => bw_none e hc ⟨z.2.2, by rw [← z.2.2]; exact (rl_of hR hc).2.mpr z.2.1⟩)
  | some c =>
    have hc := bw_some e
    try dsimp only
    have hrl : r_rl R c = 1 := (rl_of hR hc.1).2.mp (by rw [hc.2.1]; exact hc.2.2)
    by_cases hb : bt H c = true
    · rw [if_pos hb, wk_one hR ⟨hb, hrl, hc.2.1⟩ (Nat.le_refl _) hc.1]
    · rw [if_neg hb]
      refine wk_no (fun c' hc' z => ?_)
      have : c' = c := hR.ne hc' hc.1 (by rw [z.2.2, hc.2.1]) (by rw [z.2.1, hrl])
      rw [this] at z; exact hb z.1
theorem ad_nx {R : rm} (hR : r_wf R) {a b : Nat} (ha : a < r_n R) : ad R a b ↔ ∃ way, way < 4 ∧ nx R a way = some b := by
  have key := rE_jE hR 0 (a := a) (b := b) ha
  have e1 : rE R 0 a b ↔ ∃ way, way < 4 ∧ nx R a way = some b := by
    constructor
    · rintro ⟨w, h1, h2, _⟩; exact ⟨w, h1, h2⟩
    · rintro ⟨w, h1, h2⟩
      refine ⟨w, h1, h2, ?_⟩
      rintro ⟨c, _, h4⟩
      rw [b_0] at h4; cases h4
  have no : ∀ {P : Nat → Prop}, ¬ ∃ c, c < r_nc R ∧ bt (0 : Int32) c = true ∧ P c := by
    rintro P ⟨c, _, h, _⟩; rw [b_0] at h; cases h
  have e2 : jE R 0 a b ↔ ad R a b := by
    unfold jE cp_E ad
    rw [pr_b hR, pr_b hR, pb_b hR, pb_b hR]
    simp only [no, not_false_eq_true, and_true]
  rw [← e1, key, e2]
