/-! rooms and scenes, as numbers -/
abbrev rm : Type := (Nat → Nat) × (Nat → Nat → Nat)
def r_w (R : rm) : Nat := R.1 0
def r_h (R : rm) : Nat := R.1 1
def r_li (R : rm) : Nat := R.1 2
def r_mo (R : rm) : Nat := R.1 3
def r_nc (R : rm) : Nat := R.1 4
def r_np (R : rm) : Nat := R.1 5
def r_n (R : rm) : Nat := r_w R * r_h R
def r_nr (R : rm) (c : Nat) : Nat := R.2 0 c
def r_rl (R : rm) (c : Nat) : Nat := R.2 1 c
def r_ve (R : rm) (c : Nat) : Nat := R.2 2 c
def r_gp (R : rm) (c : Nat) : Nat := R.2 4 c
def r_mi (R : rm) (p : Nat) : Nat := R.2 7 p
def r_fr (R : rm) (c : Nat) : Nat := r_nr R c + (if r_rl R c = 0 then 1 else r_w R)
abbrev sc : Type := (Nat → Nat) × Int32 × (Nat → Nat) × Nat
def s_cl (s : sc) (c : Nat) : Nat := s.1 c
def s_bk (s : sc) : Int32 := s.2.1
def s_pl (s : sc) (p : Nat) : Nat := s.2.2.1 p
def s_yr (s : sc) : Nat := s.2.2.2
def r_wf (R : rm) : Prop := (r_w R ≤ 5 ∧ r_h R ≤ 4 ∧ r_nc R ≤ 10 ∧ r_np R ≤ 6 ∧ r_li R ≤ 99 ∧ r_mo R ≤ 9) ∧ (∀ c, c < r_nc R → r_nr R c < r_n R ∧ (r_rl R c = 0 ∧ r_nr R c % r_w R + 1 < r_w R ∨ r_rl R c = 1 ∧ r_nr R c + r_w R < r_n R) ∧ r_ve R c ≤ 9 ∧ r_gp R c ≤ 9) ∧ (∀ c d, c < r_nc R → d < c → ¬ (r_nr R c = r_nr R d ∧ r_rl R c = r_rl R d)) ∧ (∀ p, p < r_np R → 1 ≤ r_mi R p ∧ r_mi R p ≤ 9) ∧ (0 < r_n R → 0 < r_np R)
def s_wf (R : rm) (s : sc) : Prop := (∀ c, c < r_nc R → s_cl s c ≤ 99) ∧ cp_in (s_bk s) (r_nc R) ∧ ∀ p, p < r_np R → s_pl s p < r_n R
section RWF
variable {R : rm} {s : sc}
theorem r_wf.w (h : r_wf R) : r_w R ≤ 5 := h.1.1
theorem r_wf.h (h : r_wf R) : r_h R ≤ 4 := h.1.2.1
theorem r_wf.nc (h : r_wf R) : r_nc R ≤ 10 := h.1.2.2.1
theorem r_wf.np (h : r_wf R) : r_np R ≤ 6 := h.1.2.2.2.1
theorem r_wf.li (h : r_wf R) : r_li R ≤ 99 := h.1.2.2.2.2.1
theorem r_wf.mo (h : r_wf R) : r_mo R ≤ 9 := h.1.2.2.2.2.2
theorem r_wf.n (h : r_wf R) : r_n R ≤ 20 := Nat.mul_le_mul h.w h.h
theorem r_wf.nr (h : r_wf R) {c : Nat} (hc : c < r_nc R) : r_nr R c < r_n R := (h.2.1 c hc).1
theorem r_wf.rl (h : r_wf R) {c : Nat} (hc : c < r_nc R) : r_rl R c = 0 ∧ r_nr R c % r_w R + 1 < r_w R ∨ r_rl R c = 1 ∧ r_nr R c + r_w R < r_n R := (h.2.1 c hc).2.1
theorem r_wf.ve (h : r_wf R) {c : Nat} (hc : c < r_nc R) : r_ve R c ≤ 9 := (h.2.1 c hc).2.2.1
theorem r_wf.gp (h : r_wf R) {c : Nat} (hc : c < r_nc R) : r_gp R c ≤ 9 := (h.2.1 c hc).2.2.2
theorem r_wf.mi (h : r_wf R) {p : Nat} (hp : p < r_np R) : 1 ≤ r_mi R p ∧ r_mi R p ≤ 9 := h.2.2.2.1 p hp
theorem r_wf.np1 (h : r_wf R) (hn : 0 < r_n R) : 0 < r_np R := h.2.2.2.2 hn
theorem r_wf.ne (h : r_wf R) {c d : Nat} (hc : c < r_nc R) (hd : d < r_nc R) (e1 : r_nr R c = r_nr R d) (e2 : r_rl R c = r_rl R d) : c = d := by
  rcases Nat.lt_trichotomy c d with q | q | q
  · exact absurd ⟨e1.symm, e2.symm⟩ (h.2.2.1 d c hd q)
  · exact q
  · exact absurd ⟨e1, e2⟩ (h.2.2.1 c d hc q)
/-- a square with one to its right -/
theorem r_right {w h q : Nat} (hq : q < w * h) (hr : q % w + 1 < w) : q + 1 < w * h := by
  have h1 := Nat.div_add_mod q w
  have h2 : q / w < h := Nat.div_lt_of_lt_mul hq
  have h3 : w * (q / w + 1) ≤ w * h := Nat.mul_le_mul_left w h2
  rw [Nat.mul_add, Nat.mul_one] at h3
  omega
theorem r_wf.fr (h : r_wf R) {c : Nat} (hc : c < r_nc R) : r_fr R c < r_n R := by
  unfold r_fr
  rcases h.rl hc with q | q
  · rw [if_pos q.1]; exact r_right (h.nr hc) q.2
  · rw [if_neg (by omega)]; exact q.2
theorem s_wf.cl (h : s_wf R s) {c : Nat} (hc : c < r_nc R) : s_cl s c ≤ 99 := h.1 c hc
theorem s_wf.bk (h : s_wf R s) : cp_in (s_bk s) (r_nc R) := h.2.1
theorem s_wf.pl (h : s_wf R s) {p : Nat} (hp : p < r_np R) : s_pl s p < r_n R := h.2.2 p hp
end RWF
def wi (R : rm) : Int32 := bs (r_n R) (fun q => decide (q % r_w R + 1 < r_w R))
def de (R : rm) : Int32 := bs (r_n R) (fun q => decide (q + r_w R < r_n R))
/-! the class's cells -/
def RC (S : mj_S) (r : Nat) (R : rm) : Prop := (m_gi S r 0 = nI (r_w R) ∧ m_gi S r 1 = nI (r_h R) ∧ m_gi S r 2 = nI (r_li R) ∧ m_gi S r 3 = nI (r_mo R)) ∧ (m_gi S r 4 = nI (r_n R) ∧ m_gi S r 5 = wi R ∧ m_gi S r 6 = de R ∧ m_gi S r 7 = nI (r_nc R) ∧ m_gi S r 15 = nI (r_np R)) ∧ (∀ c, c < r_nc R → m_gi S (r + 1) c = nI (r_nr R c) ∧ m_gi S (r + 2) c = nI (r_fr R c) ∧ m_gi S (r + 3) c = nI (r_rl R c) ∧ m_gi S (r + 4) c = nI (r_ve R c) ∧ m_gi S (r + 5) c = nI (r_gp R c)) ∧ ∀ p, p < r_np R → m_gi S (r + 7) p = nI (r_mi R p)
section RCS
variable {S S' : mj_S} {r : Nat} {R : rm}
theorem RC.w (h : RC S r R) : m_gi S r 0 = nI (r_w R) := h.1.1
theorem RC.h (h : RC S r R) : m_gi S r 1 = nI (r_h R) := h.1.2.1
theorem RC.li (h : RC S r R) : m_gi S r 2 = nI (r_li R) := h.1.2.2.1
theorem RC.mo (h : RC S r R) : m_gi S r 3 = nI (r_mo R) := h.1.2.2.2
theorem RC.n (h : RC S r R) : m_gi S r 4 = nI (r_n R) := h.2.1.1
theorem RC.wi (h : RC S r R) : m_gi S r 5 = wi R := h.2.1.2.1
theorem RC.de (h : RC S r R) : m_gi S r 6 = de R := h.2.1.2.2.1
theorem RC.nc (h : RC S r R) : m_gi S r 7 = nI (r_nc R) := h.2.1.2.2.2.1
theorem RC.np (h : RC S r R) : m_gi S r 15 = nI (r_np R) := h.2.1.2.2.2.2
theorem RC.nr (h : RC S r R) {c : Nat} (hc : c < r_nc R) : m_gi S (r + 1) c = nI (r_nr R c) := (h.2.2.1 c hc).1
theorem RC.fr (h : RC S r R) {c : Nat} (hc : c < r_nc R) : m_gi S (r + 2) c = nI (r_fr R c) := (h.2.2.1 c hc).2.1
theorem RC.rl (h : RC S r R) {c : Nat} (hc : c < r_nc R) : m_gi S (r + 3) c = nI (r_rl R c) := (h.2.2.1 c hc).2.2.1
theorem RC.ve (h : RC S r R) {c : Nat} (hc : c < r_nc R) : m_gi S (r + 4) c = nI (r_ve R c) := (h.2.2.1 c hc).2.2.2.1
theorem RC.gp (h : RC S r R) {c : Nat} (hc : c < r_nc R) : m_gi S (r + 5) c = nI (r_gp R c) := (h.2.2.1 c hc).2.2.2.2
theorem RC.mi (h : RC S r R) {p : Nat} (hp : p < r_np R) : m_gi S (r + 7) p = nI (r_mi R p) := h.2.2.2 p hp
theorem RC.keep (h : RC S r R) (k : ∀ a j, r ≤ a → a ≤ r + 8 → m_gi S' a j = m_gi S a j) : RC S' r R := by
  have k0 : ∀ j, m_gi S' r j = m_gi S r j := fun j => k r j (Nat.le_refl _) (by omega)
  refine ⟨⟨(k0 _).trans h.w, (k0 _).trans h.h, (k0 _).trans h.li, (k0 _).trans h.mo⟩, ⟨(k0 _).trans h.n, (k0 _).trans h.wi, (k0 _).trans h.de, (k0 _).trans h.nc, (k0 _).trans h.np⟩, fun c hc => ⟨(k _ _ (by omega) (by omega)).trans (h.nr hc), (k _ _ (by omega) (by omega)).trans (h.fr hc), (k _ _ (by omega) (by omega)).trans (h.rl hc), (k _ _ (by omega) (by omega)).trans (h.ve hc), (k _ _ (by omega) (by omega)).trans (h.gp hc)⟩, fun p hp => (k _ _ (by omega) (by omega)).trans (h.mi hp)⟩
end RCS
/-- a scene's cells -/
def SC (S : mj_S) (x rs : Nat) (R : rm) (s : sc) : Prop := (m_gp S x 0 = some rs ∧ (rs = 32 ∨ rs = 41 ∨ rs = 51) ∧ RC S rs R) ∧ (∀ c, c < r_nc R → m_gi S (x + 10) c = nI (s_cl s c)) ∧ m_gi S x 3 = s_bk s ∧ (∀ p, p < r_np R → m_gi S (x + 11) p = nI (s_pl s p)) ∧ m_gi S x 4 = nI (s_yr s)
/-- cells 32 to 73, the references and the shapes are as they were -/
def kz (S S' : mj_S) : Prop := S'.1 = S.1 ∧ (∀ a j, 32 ≤ a → a ≤ 73 → m_gi S' a j = m_gi S a j) ∧ ∀ a j, m_gp S' a j = m_gp S a j
section SCS
variable {S S' : mj_S} {L x rs r : Nat} {R : rm} {s : sc}
theorem SC.p (h : SC S x rs R s) : m_gp S x 0 = some rs := h.1.1
theorem SC.hrs (h : SC S x rs R s) : rs = 32 ∨ rs = 41 ∨ rs = 51 := h.1.2.1
theorem SC.irm (h : SC S x rs R s) : isRm rs := by
  rcases h.hrs with e | e | e
  · exact Or.inr (Or.inl e)
  · exact Or.inr (Or.inr (Or.inl e))
  · exact Or.inr (Or.inr (Or.inr (Or.inl e)))
theorem SC.rc (h : SC S x rs R s) : RC S rs R := h.1.2.2
theorem SC.cl (h : SC S x rs R s) {c : Nat} (hc : c < r_nc R) : m_gi S (x + 10) c = nI (s_cl s c) := h.2.1 c hc
theorem SC.bk (h : SC S x rs R s) : m_gi S x 3 = s_bk s := h.2.2.1
theorem SC.pl (h : SC S x rs R s) {p : Nat} (hp : p < r_np R) : m_gi S (x + 11) p = nI (s_pl s p) := h.2.2.2.1 p hp
theorem SC.yr (h : SC S x rs R s) : m_gi S x 4 = nI (s_yr s) := h.2.2.2.2
theorem SC.keep (h : SC S x rs R s) (hx : isSc x) (k : kz S S') : SC S' x rs R s := by
  have h1 : 50 ≤ x ∧ x ≤ 62 := by rcases hx with e | e <;> omega
  have h2 : 32 ≤ rs ∧ rs ≤ 51 := by rcases h.hrs with e | e | e <;> omega
  refine ⟨⟨(k.2.2 _ _).trans h.p, h.hrs, h.rc.keep (fun a j q1 q2 => k.2.1 a j (by omega) (by omega))⟩, fun c hc => (k.2.1 _ _ (by omega) (by omega)).trans (h.cl hc), (k.2.1 _ _ (by omega) (by omega)).trans h.bk, fun p hp => (k.2.1 _ _ (by omega) (by omega)).trans (h.pl hp), (k.2.1 _ _ (by omega) (by omega)).trans h.yr⟩
theorem DC_kz {a j : Nat} (h1 : 32 ≤ a) (h2 : a ≤ 73) : DC a j = false := by
  unfold DC
  have e1 : Nat.ble 79 a = false := by rw [← Bool.not_eq_true, Nat.ble_eq]; omega
  have e2 : Nat.ble a 31 = false := by rw [← Bool.not_eq_true, Nat.ble_eq]; omega
  have e3 : Nat.beq a 23 = false := by rw [← Bool.not_eq_true, Nat.beq_eq]; omega
  rw [e1, e2, e3]; simp
theorem fr.kz (f : fr DC S S') : kz S S' := ⟨f.1, fun a j h1 h2 => f.i a j (DC_kz h1 h2), f.2.2.2⟩
theorem kz.rf : kz S S := ⟨rfl, fun _ _ _ _ => rfl, fun _ _ => rfl⟩
theorem kz.tr {S'' : mj_S} (h1 : kz S S') (h2 : kz S' S'') : kz S S'' := ⟨h2.1.trans h1.1, fun a j q1 q2 => (h2.2.1 a j q1 q2).trans (h1.2.1 a j q1 q2), fun a j => (h2.2.2 a j).trans (h1.2.2 a j)⟩
theorem Sh.kz (h : Sh L S) (k : kz S S') : Sh L S' := ⟨k.1.trans h.1, fun x hx => (k.2.2 _ _).trans (h.2 x hx)⟩
/-- the class's view of its room and of a scene -/
def CI (L : Nat) (S : mj_S) (r x rs : Nat) (R : rm) (s : sc) : Prop := Sh L S ∧ r_wf R ∧ s_wf R s ∧ (r = 32 ∨ r = 41) ∧ isSc x ∧ m_gp S 6 5 = some r ∧ RC S r R ∧ SC S x rs R s
theorem CI.sh (h : CI L S r x rs R s) : Sh L S := h.1
theorem CI.rw (h : CI L S r x rs R s) : r_wf R := h.2.1
theorem CI.sw (h : CI L S r x rs R s) : s_wf R s := h.2.2.1
theorem CI.hr (h : CI L S r x rs R s) : r = 32 ∨ r = 41 := h.2.2.2.1
theorem CI.hx (h : CI L S r x rs R s) : isSc x := h.2.2.2.2.1
theorem CI.p (h : CI L S r x rs R s) : m_gp S 6 5 = some r := h.2.2.2.2.2.1
theorem CI.rc (h : CI L S r x rs R s) : RC S r R := h.2.2.2.2.2.2.1
theorem CI.sn (h : CI L S r x rs R s) : SC S x rs R s := h.2.2.2.2.2.2.2
theorem CI.irm (h : CI L S r x rs R s) : isRm r := by
  rcases h.hr with e | e
  · exact Or.inr (Or.inl e)
  · exact Or.inr (Or.inr (Or.inl e))
theorem CI.keep (h : CI L S r x rs R s) (k : kz S S') : CI L S' r x rs R s := by
  have h2 : 32 ≤ r ∧ r ≤ 41 := by rcases h.hr with e | e <;> omega
  exact ⟨h.sh.kz k, h.rw, h.sw, h.hr, h.hx, (k.2.2 _ _).trans h.p, h.rc.keep (fun a j q1 q2 => k.2.1 a j (by omega) (by omega)), h.sn.keep h.hx k⟩
theorem CI.fr (h : CI L S r x rs R s) (f : fr DC S S') : CI L S' r x rs R s := h.keep f.kz
end SCS
/-! what hangs, what has fallen, what is open -/
def fa (R : rm) (s : sc) : Int32 := bs (r_nc R) (fun c => decide (s_cl s c = 0))
def hg (R : rm) (s : sc) : Int32 := bs (r_nc R) (fun c => !bt (s_bk s) c && !decide (s_cl s c = 0))
def db (R : rm) (s : sc) : Int32 := s_bk s &&& (fa R s ^^^ (-1))
theorem hg_cl {R : rm} {s : sc} (hR : r_wf R) : (al (r_nc R) &&& (s_bk s ^^^ (-1))) &&& (fa R s ^^^ (-1)) = hg R s := by
  apply b_ext
  intro i hi
  have hn : r_nc R ≤ 20 := Nat.le_trans hR.nc (by omega)
  unfold fa hg
  rw [b_and, b_and, b_not _ hi, b_not _ hi, b_al hn, b_bs _ _ (by omega), b_bs _ _ (by omega)]
  cases decide (i < r_nc R) <;> cases bt (s_bk s) i <;> cases decide (s_cl s i = 0) <;> rfl
def on (q : Nat) : Int32 := (1 : Int32) <<< (nI q &&& 31)
theorem b_on {q i : Nat} (hq : q < 32) (hi : i < 32) : bt (on q) i = decide (i = q) := b_one q hq hi
/-- is the side that the rail t has at q taken by one of the first k curtains that H has -/
def bk (R : rm) (H : Int32) (t q : Nat) : Nat → Bool
  | 0 => false
  | k + 1 => bk R H t q k || (bt H k && decide (r_rl R k = t) && decide (r_nr R k = q))
def pr (R : rm) (H : Int32) (k : Nat) : Int32 := bs (r_n R) (fun q => decide (q % r_w R + 1 < r_w R) && !bk R H 0 q k)
def pb (R : rm) (H : Int32) (k : Nat) : Int32 := bs (r_n R) (fun q => decide (q + r_w R < r_n R) && !bk R H 1 q k)
theorem bk_true {R : rm} {H : Int32} {t q : Nat} : ∀ {k : Nat}, bk R H t q k = true ↔ ∃ c, c < k ∧ bt H c = true ∧ r_rl R c = t ∧ r_nr R c = q
  | 0 => by
    constructor
    · intro h; cases h
    · rintro ⟨c, h, _⟩; omega
  | k + 1 => by
    have ih := @bk_true R H t q k
    constructor
    · intro h
      have h' : (bk R H t q k || (bt H k && decide (r_rl R k = t) && decide (r_nr R k = q))) = true := h
      rw [Bool.or_eq_true, Bool.and_eq_true, Bool.and_eq_true, decide_eq_true_iff, decide_eq_true_iff] at h'
      rcases h' with h' | h'
      · obtain ⟨c, h1, h2⟩ := ih.mp h'
        exact ⟨c, by omega, h2⟩
      · exact ⟨k, by omega, h'.1.1, h'.1.2, h'.2⟩
    · intro ⟨c, h1, h2, h3, h4⟩
      show (bk R H t q k || (bt H k && decide (r_rl R k = t) && decide (r_nr R k = q))) = true
      rw [Bool.or_eq_true, Bool.and_eq_true, Bool.and_eq_true, decide_eq_true_iff, decide_eq_true_iff]
      by_cases e : c = k
      · subst e; exact Or.inr ⟨⟨h2, h3⟩, h4⟩
      · exact Or.inl (ih.mpr ⟨c, by omega, h2, h3, h4⟩)
theorem bs_off {p q : Nat → Bool} {n j : Nat} (hn : n ≤ 32) (hj : j < n) (h : ∀ i, i < n → q i = (p i && !decide (i = j))) : bs n p &&& (on j ^^^ (-1)) = bs n q := by
  apply b_ext
  intro i hi
  rw [b_and, b_not _ hi, b_on (by omega) hi, b_bs _ _ hn, b_bs _ _ hn]
  by_cases e : i < n
  · rw [h i e]; cases p i <;> simp [e]
  · simp [e]
theorem pr_0 {R : rm} {H : Int32} : pr R H 0 = wi R := bs_cong (fun i _ => by simp [bk])
theorem pb_0 {R : rm} {H : Int32} : pb R H 0 = de R := bs_cong (fun i _ => by simp [bk])
theorem bk_s0 {R : rm} {H : Int32} {t q k : Nat} (h : bt H k = false ∨ r_rl R k ≠ t) : bk R H t q (k + 1) = bk R H t q k := by
  show (bk R H t q k || (bt H k && decide (r_rl R k = t) && decide (r_nr R k = q))) = _
  rcases h with h | h <;> simp [h]
theorem bk_s1 {R : rm} {H : Int32} {t q k : Nat} (h : bt H k = true) (h2 : r_rl R k = t) : bk R H t q (k + 1) = (bk R H t q k || decide (q = r_nr R k)) := by
  show (bk R H t q k || (bt H k && decide (r_rl R k = t) && decide (r_nr R k = q))) = _
  rw [h, decide_eq_true h2]
  have : decide (r_nr R k = q) = decide (q = r_nr R k) := by
    by_cases e : q = r_nr R k
    · simp [e]
    · simp only [e, decide_false, decide_eq_false_iff_not]; exact fun z => e z.symm
  rw [this]; rfl
theorem pr_s0 {R : rm} {H : Int32} {k : Nat} (h : bt H k = false ∨ r_rl R k ≠ 0) : pr R H (k + 1) = pr R H k := bs_cong (fun i _ => by rw [bk_s0 h])
theorem pb_s0 {R : rm} {H : Int32} {k : Nat} (h : bt H k = false ∨ r_rl R k ≠ 1) : pb R H (k + 1) = pb R H k := bs_cong (fun i _ => by rw [bk_s0 h])
theorem pr_s1 {R : rm} {H : Int32} {k : Nat} (hR : r_wf R) (hk : k < r_nc R) (h : bt H k = true) (h2 : r_rl R k = 0) : pr R H k &&& (on (r_nr R k) ^^^ (-1)) = pr R H (k + 1) := by
  have := hR.n
  exact bs_off (by omega) (hR.nr hk) (fun i _ => by rw [bk_s1 h h2]; cases decide (i % r_w R + 1 < r_w R) <;> cases bk R H 0 i k <;> cases decide (i = r_nr R k) <;> rfl)
theorem pb_s1 {R : rm} {H : Int32} {k : Nat} (hR : r_wf R) (hk : k < r_nc R) (h : bt H k = true) (h2 : r_rl R k = 1) : pb R H k &&& (on (r_nr R k) ^^^ (-1)) = pb R H (k + 1) := by
  have := hR.n
  exact bs_off (by omega) (hR.nr hk) (fun i _ => by rw [bk_s1 h h2]; cases decide (i + r_w R < r_n R) <;> cases bk R H 1 i k <;> cases decide (i = r_nr R k) <;> rfl)
/-- what is joined to x when H hangs -/
def jn (R : rm) (H x : Int32) : Int32 := cp_go (pr R H (r_nc R)) (pb R H (r_nc R)) (r_w R) 20 x
def jE (R : rm) (H : Int32) : Nat → Nat → Prop := cp_E (pr R H (r_nc R)) (pb R H (r_nc R)) (r_w R)
theorem j_box {R : rm} (hR : r_wf R) (H : Int32) : cp_box (pr R H (r_nc R)) (pb R H (r_nc R)) (r_w R) (r_n R) := by
  have hn := hR.n
  constructor
  · intro a ha
    unfold pr at ha
    rw [b_bs _ _ (by omega)] at ha
    simp at ha
    exact r_right ha.1 ha.2.1
  · intro a ha
    unfold pb at ha
    rw [b_bs _ _ (by omega)] at ha
    simp at ha
    exact ha.2.1
theorem jn_is {R : rm} (hR : r_wf R) (H : Int32) {x : Int32} (hx : cp_in x (r_n R)) : cp_is (jE R H) x (jn R H x) := by
  have hn := hR.n
  exact cp_go_is hR.w (j_box hR H) hn 20 x hx (fun _ h => h) (fun y h _ => h) (by omega)
theorem al_cl {R : rm} (hR : r_wf R) (H : Int32) : cp_cl (jE R H) (al (r_n R)) := by
  have hn := hR.n
  intro a b ha hE
  rw [b_al hn, decide_eq_true_iff] at ha ⊢
  have hb := j_box hR H
  rcases hE with ⟨e, h⟩ | ⟨e, h⟩ | ⟨e, h⟩ | ⟨e, h⟩
  · have := hb.1 a h; omega
  · omega
  · have := hb.2 a h; omega
  · omega
theorem jn_in {R : rm} (hR : r_wf R) (H : Int32) {x : Int32} (hx : cp_in x (r_n R)) : cp_in (jn R H x) (r_n R) := by
  have hn := hR.n
  intro i hi
  have := (jn_is hR H hx).2.2 (al (r_n R)) (fun j hj => by rw [b_al hn, decide_eq_true_iff]; exact hx j hj) (al_cl hR H) i hi
  rw [b_al hn, decide_eq_true_iff] at this
  exact this
theorem on_in {q n : Nat} (h : q < n) (hn : n ≤ 32) : cp_in (on q) n := by
  intro i hi
  have h32 := b_lt hi
  rw [b_on (by omega) h32, decide_eq_true_iff] at hi
  omega
theorem jn_self {R : rm} (hR : r_wf R) (H : Int32) {q : Nat} (hq : q < r_n R) : bt (jn R H (on q)) q = true := by
  have hn := hR.n
  exact (jn_is hR H (on_in hq (by omega))).1 q (by rw [b_on (by omega) (by omega)]; simp)
