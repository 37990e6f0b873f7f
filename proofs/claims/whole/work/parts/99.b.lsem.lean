/-! a law's worth -/
def clp (v : Int) : Int := max (-1000000) (min 1000000 v)
def bdv (v : Int) : Prop := -1000000 ≤ v ∧ v ≤ 1000000
theorem clp_b (v : Int) : bdv (clp v) := by unfold bdv clp; omega
def opv (c : Nat) (a b : Int) : Int := if c = 2 then clp (a + b) else if c = 3 then clp (a - b) else if c = 4 then clp (a * b) else if c = 5 then (if b = 0 then 0 else clp (Int.tdiv a b)) else if c = 6 then (if a = b then 1 else 0) else if c = 7 then (if a < b then 1 else 0) else if c = 8 then (if b < a then 1 else 0) else if c = 10 then (if a ≠ 0 ∧ b ≠ 0 then 1 else 0) else (if a ≠ 0 ∨ b ≠ 0 then 1 else 0)
theorem opv_b (c : Nat) (a b : Int) : bdv (opv c a b) := by
  unfold opv
  repeat' split
  all_goals first
    | exact clp_b _
    | (unfold bdv; omega)
theorem opv_01 {c : Nat} (h : 6 ≤ c) (a b : Int) : opv c a b = 0 ∨ opv c a b = 1 := by
  unfold opv
  rw [if_neg (by omega), if_neg (by omega), if_neg (by omega), if_neg (by omega)]
  repeat' split
  all_goals first
    | exact Or.inl rfl
    | exact Or.inr rfl
def z01 (a : Int) : Prop := a = 0 ∨ a = 1
def run1 (env : Nat → Int) (k : tok) (st : List Int) : List Int := if k.1 = 0 then (k.2 : Int) :: st else if k.1 = 1 then env k.2 :: st else if k.1 = 9 then (match st with
    | a :: r => (1 - a) :: r
    | [] => []) else match st with
    | b :: a :: r => opv k.1 a b :: r
    | st => st
def stp (H : Nat) (k : tok) (st : List Int) : Prop := (k.1 = 0 ∧ k.2 < 10000 ∧ st.length < H) ∨ (k.1 = 1 ∧ k.2 < 6 ∧ st.length < H) ∨ (2 ≤ k.1 ∧ k.1 ≤ 8 ∧ k.2 = 0 ∧ ∃ a b r, st = b :: a :: r ∧ bdv a ∧ bdv b) ∨ (k.1 = 9 ∧ k.2 = 0 ∧ ∃ a r, st = a :: r ∧ z01 a) ∨ ((k.1 = 10 ∨ k.1 = 11) ∧ k.2 = 0 ∧ ∃ a b r, st = b :: a :: r ∧ z01 a ∧ z01 b)
def runs (env : Nat → Int) : List tok → List Int → List Int
  | [], st => st
  | k :: ts, st => runs env ts (run1 env k st)
def good (env : Nat → Int) (H : Nat) : List tok → List Int → Prop
  | [], _ => True
  | k :: ts, st => stp H k st ∧ good env H ts (run1 env k st)
theorem runs_app (env : Nat → Int) : ∀ (ts us : List tok) (st : List Int), runs env (ts ++ us) st = runs env us (runs env ts st)
  | [], us, st => rfl
  | k :: ts, us, st => runs_app env ts us (run1 env k st)
theorem good_app (env : Nat → Int) (H : Nat) : ∀ (ts us : List tok) (st : List Int), good env H ts st → good env H us (runs env ts st) → good env H (ts ++ us) st
  | [], us, st, _, h => h
  | k :: ts, us, st, h1, h2 => ⟨h1.1, good_app env H ts us (run1 env k st) h1.2 h2⟩
/-- ts puts one number, with at most D places; and one truth -/
def gs (D : Nat) (ts : List tok) : Prop := ∀ env : Nat → Int, (∀ i, i < 6 → bdv (env i)) → ∀ st : List Int, st.length + D ≤ 32 → good env 32 ts st ∧ ∃ v, bdv v ∧ runs env ts st = v :: st
def gc (D : Nat) (ts : List tok) : Prop := ∀ env : Nat → Int, (∀ i, i < 6 → bdv (env i)) → ∀ st : List Int, st.length + D ≤ 32 → good env 32 ts st ∧ ∃ v, z01 v ∧ runs env ts st = v :: st
theorem gs.wd {D D' : Nat} {ts : List tok} (h : gs D ts) (hD : D ≤ D') : gs D' ts := fun env he st hl => h env he st (by omega)
theorem gc.wd {D D' : Nat} {ts : List tok} (h : gc D ts) (hD : D ≤ D') : gc D' ts := fun env he st hl => h env he st (by omega)
theorem gs.op {D c : Nat} {ts us : List tok} (h1 : gs (D + 1) ts) (h2 : gs D us) (hc : 2 ≤ c ∧ c ≤ 5) : gs (D + 1) (ts ++ us ++ [(c, 0)]) := by
  intro env he st hl
  obtain ⟨g1, v, bv, r1⟩ := h1 env he st hl
  obtain ⟨g2, u, bu, r2⟩ := h2 env he (v :: st) (by simp only [List.length_cons]; omega)
  have r12 : runs env (ts ++ us) st = u :: v :: st := by rw [runs_app, r1, r2]
  refine ⟨good_app env 32 _ _ st (good_app env 32 ts us st g1 (by rw [r1]; exact g2)) ?_, opv c v u, opv_b _ _ _, ?_⟩
  · rw [r12]
    exact ⟨Or.inr (Or.inr (Or.inl ⟨hc.1, by show c ≤ 8; omega, rfl, v, u, st, rfl, bv, bu⟩)), trivial⟩
  · rw [runs_app, r12]
    show run1 env (c, 0) (u :: v :: st) = _
    unfold run1
    rw [if_neg (show ¬ c = 0 by omega), if_neg (show ¬ c = 1 by omega), if_neg (show ¬ c = 9 by omega)]
theorem gs.cmp {D c : Nat} {ts us : List tok} (h1 : gs (D + 1) ts) (h2 : gs D us) (hc : 6 ≤ c ∧ c ≤ 8) : gc (D + 1) (ts ++ us ++ [(c, 0)]) := by
  intro env he st hl
  obtain ⟨g1, v, bv, r1⟩ := h1 env he st hl
  obtain ⟨g2, u, bu, r2⟩ := h2 env he (v :: st) (by simp only [List.length_cons]; omega)
  have r12 : runs env (ts ++ us) st = u :: v :: st := by rw [runs_app, r1, r2]
  refine ⟨good_app env 32 _ _ st (good_app env 32 ts us st g1 (by rw [r1]; exact g2)) ?_, opv c v u, opv_01 hc.1 _ _, ?_⟩
  · rw [r12]
    exact ⟨Or.inr (Or.inr (Or.inl ⟨by show 2 ≤ c; omega, hc.2, rfl, v, u, st, rfl, bv, bu⟩)), trivial⟩
  · rw [runs_app, r12]
    show run1 env (c, 0) (u :: v :: st) = _
    unfold run1
    rw [if_neg (show ¬ c = 0 by omega), if_neg (show ¬ c = 1 by omega), if_neg (show ¬ c = 9 by omega)]
theorem gc.op {D c : Nat} {ts us : List tok} (h1 : gc (D + 1) ts) (h2 : gc D us) (hc : c = 10 ∨ c = 11) : gc (D + 1) (ts ++ us ++ [(c, 0)]) := by
  intro env he st hl
  obtain ⟨g1, v, bv, r1⟩ := h1 env he st hl
  obtain ⟨g2, u, bu, r2⟩ := h2 env he (v :: st) (by simp only [List.length_cons]; omega)
  have r12 : runs env (ts ++ us) st = u :: v :: st := by rw [runs_app, r1, r2]
  refine ⟨good_app env 32 _ _ st (good_app env 32 ts us st g1 (by rw [r1]; exact g2)) ?_, opv c v u, opv_01 (by omega) _ _, ?_⟩
  · rw [r12]
    exact ⟨Or.inr (Or.inr (Or.inr (Or.inr ⟨hc, rfl, v, u, st, rfl, bv, bu⟩))), trivial⟩
  · rw [runs_app, r12]
    show run1 env (c, 0) (u :: v :: st) = _
    unfold run1
    rw [if_neg (show ¬ c = 0 by omega), if_neg (show ¬ c = 1 by omega), if_neg (show ¬ c = 9 by omega)]
theorem gc.nt {D : Nat} {ts : List tok} (h1 : gc D ts) : gc D (ts ++ [(9, 0)]) := by
  intro env he st hl
  obtain ⟨g1, v, bv, r1⟩ := h1 env he st hl
  refine ⟨good_app env 32 _ _ st g1 ?_, 1 - v, ?_, ?_⟩
  · rw [r1]
    exact ⟨Or.inr (Or.inr (Or.inr (Or.inl ⟨rfl, rfl, v, st, rfl, bv⟩))), trivial⟩
  · unfold z01 at *; omega
  · rw [runs_app, r1]; rfl
theorem gs.num {v : Nat} (h : v < 10000) : gs 1 [(0, v)] := fun env he st hl => ⟨⟨Or.inl ⟨rfl, h, by omega⟩, trivial⟩, (v : Int), by unfold bdv; omega, rfl⟩
theorem gs.let_ {k : Nat} (h : k < 6) : gs 1 [(1, k)] := fun env he st hl => ⟨⟨Or.inr (Or.inl ⟨rfl, h, by omega⟩), trivial⟩, env k, he k h, rfl⟩
section GP
variable {t : Nat → Nat} {n : Nat}
theorem pnm_gs : ∀ (k v p : Nat) {w : List tok × Nat}, v * 10 ^ k + 10 ^ k ≤ 10000 → pnm t n k v p = .inr w → gs 1 w.1
  | 0, v, p, w, hv, e => by
    unfold pnm at e
    split at e
    · cases e
    · cases e; exact gs.num (by simp only [Nat.pow_zero, Nat.mul_one] at hv; omega)
  | k + 1, v, p, w, hv, e => by
    have e' : (if dg t n p = true then pnm t n k (10 * v + (t p - 48)) (p + 1) else .inr ([(0, v)], p)) = (.inr w : lrs) := e
    by_cases d : dg t n p = true
    · rw [if_pos d] at e'
      have hd : t p - 48 ≤ 9 := by unfold dg at d; rw [decide_eq_true_iff] at d; omega
      refine pnm_gs k _ _ ?_ e'
      have a : (10 * v + (t p - 48)) * 10 ^ k ≤ (10 * v + 9) * 10 ^ k := Nat.mul_le_mul_right _ (by omega)
      have b : (10 * v + 9) * 10 ^ k + 10 ^ k = v * 10 ^ (k + 1) + 10 ^ (k + 1) := by
        rw [Nat.pow_succ, Nat.add_mul, Nat.mul_comm (10 ^ k) 10, ← Nat.mul_assoc, Nat.mul_comm v 10]
        omega
      omega
    · rw [if_neg d] at e'
      cases e'
      refine gs.num ?_
      have h1 : 1 ≤ 10 ^ (k + 1) := Nat.pos_of_ne_zero (by simp)
      have : v * 1 ≤ v * 10 ^ (k + 1) := Nat.mul_le_mul_left _ h1
      omega
theorem lpp_gs {D : Nat} {kd : Int32 → Option Nat} {body : Nat → lrs} (hk : ∀ x c, kd x = some c → 2 ≤ c ∧ c ≤ 5) (hb : ∀ q w, body q = .inr w → gs D w.1) : ∀ (g : Nat) (ts : List tok) (p : Nat) {w : List tok × Nat}, gs (D + 1) ts → lpp t n kd body g ts p = .inr w → gs (D + 1) w.1
  | 0, ts, p, w, h, e => by cases e; exact h
  | g + 1, ts, p, w, h, e => by
    have e' : (match kd (cr t n (skp t n p)) with
      | none => (.inr (ts, skp t n p) : lrs)
      | some c => match body (skp t n p + 1) with
        | .inl j => .inl j
        | .inr w => lpp t n kd body g (ts ++ w.1 ++ [(c, 0)]) w.2) = .inr w := e
    cases ek : kd (cr t n (skp t n p)) with
    | none => rw [ek] at e'; cases e'; exact h
    | some c =>
      rw [ek] at e'
      cases eb : body (skp t n p + 1) with
      | inl j => simp only [eb] at e'; cases e'
      | inr v =>
        simp only [eb] at e'
        exact lpp_gs hk hb g _ _ (h.op (hb _ _ eb) (hk _ _ ek)) e'
theorem lpp_gc {D : Nat} {kd : Int32 → Option Nat} {body : Nat → lrs} (hk : ∀ x c, kd x = some c → c = 10 ∨ c = 11) (hb : ∀ q w, body q = .inr w → gc D w.1) : ∀ (g : Nat) (ts : List tok) (p : Nat) {w : List tok × Nat}, gc (D + 1) ts → lpp t n kd body g ts p = .inr w → gc (D + 1) w.1
  | 0, ts, p, w, h, e => by cases e; exact h
  | g + 1, ts, p, w, h, e => by
    have e' : (match kd (cr t n (skp t n p)) with
      | none => (.inr (ts, skp t n p) : lrs)
      | some c => match body (skp t n p + 1) with
        | .inl j => .inl j
        | .inr w => lpp t n kd body g (ts ++ w.1 ++ [(c, 0)]) w.2) = .inr w := e
    cases ek : kd (cr t n (skp t n p)) with
    | none => rw [ek] at e'; cases e'; exact h
    | some c =>
      rw [ek] at e'
      cases eb : body (skp t n p + 1) with
      | inl j => simp only [eb] at e'; cases e'
      | inr v =>
        simp only [eb] at e'
        exact lpp_gc hk hb g _ _ (h.op (hb _ _ eb) (hk _ _ ek)) e'
theorem fst_inr {r : lrs} {k : List tok → Nat → lrs} {w : List tok × Nat} (e : fst_ r k = .inr w) : ∃ v, r = .inr v ∧ k v.1 v.2 = .inr w := by
  unfold fst_ at e
  cases r with
  | inl j => cases e
  | inr v => exact ⟨v, rfl, e⟩
theorem kdT_c (x : Int32) (c : Nat) (h : kdT x = some c) : 2 ≤ c ∧ c ≤ 5 := by
  unfold kdT at h
  split at h
  · cases h; omega
  · split at h
    · cases h; omega
    · cases h
theorem kdS_c (x : Int32) (c : Nat) (h : kdS x = some c) : 2 ≤ c ∧ c ≤ 5 := by
  unfold kdS at h
  split at h
  · cases h; omega
  · split at h
    · cases h; omega
    · cases h
theorem kdC_c (x : Int32) (c : Nat) (h : kdC x = some c) : 6 ≤ c ∧ c ≤ 8 := by
  unfold kdC at h
  split at h
  · cases h; omega
  · split at h
    · cases h; omega
    · split at h
      · cases h; omega
      · cases h
theorem kdA_c (x : Int32) (c : Nat) (h : kdA x = some c) : c = 10 ∨ c = 11 := by
  unfold kdA at h
  split at h
  · cases h; omega
  · cases h
theorem kdO_c (x : Int32) (c : Nat) (h : kdO x = some c) : c = 10 ∨ c = 11 := by
  unfold kdO at h
  split at h
  · cases h; omega
  · cases h
theorem cld_gs {c : Nat} {r : lrs} {w : List tok × Nat} (e : cld t n c r = .inr w) : ∃ v, r = .inr v ∧ v.1 = w.1 := by
  unfold cld at e
  cases r with
  | inl j => cases e
  | inr v =>
    refine ⟨v, rfl, ?_⟩
    have e' : (if cr t n (skp t n v.2) = nI c then (.inr (v.1, skp t n v.2 + 1) : lrs) else .inl (skp t n v.2)) = .inr w := e
    split at e'
    · cases e'; rfl
    · cases e'
theorem pat_gs {D : Nat} {sm : Option (Nat → lrs)} (hD : 1 ≤ D) (hs : ∀ f, sm = some f → ∀ q w, f q = .inr w → gs D w.1) (p : Nat) (w : List tok × Nat) (e : pat t n sm p = .inr w) : gs D w.1 := by
  unfold pat at e
  split at e
  · exact (pnm_gs 4 0 _ (by decide) e).wd hD
  · split at e
    · cases sm with
      | none => cases e
      | some f =>
        obtain ⟨v, h1, h2⟩ := cld_gs e
        rw [← h2]
        exact hs f rfl _ _ h1
    · cases el : ltr (cr t n (skp t n p)) 6 0 with
      | none => rw [el] at e; cases e
      | some k =>
        rw [el] at e
        have := ltr_lt el
        cases e
        exact (gs.let_ (by omega)).wd hD
theorem ptm_gs {D : Nat} {sm : Option (Nat → lrs)} (hD : 1 ≤ D) (hs : ∀ f, sm = some f → ∀ q w, f q = .inr w → gs D w.1) (p : Nat) (w : List tok × Nat) (e : ptm t n sm p = .inr w) : gs (D + 1) w.1 := by
  obtain ⟨v, h1, h2⟩ := fst_inr e
  exact lpp_gs kdT_c (fun q w e => pat_gs hD hs q w e) 240 _ _ ((pat_gs hD hs _ _ h1).wd (by omega)) h2
theorem psm_gs {D : Nat} {sm : Option (Nat → lrs)} (hD : 1 ≤ D) (hs : ∀ f, sm = some f → ∀ q w, f q = .inr w → gs D w.1) (p : Nat) (w : List tok × Nat) (e : psm t n sm p = .inr w) : gs (D + 2) w.1 := by
  obtain ⟨v, h1, h2⟩ := fst_inr e
  exact lpp_gs (D := D + 1) kdS_c (fun q w e => ptm_gs hD hs q w e) 240 _ _ ((ptm_gs hD hs _ _ h1).wd (by omega)) h2
theorem sumD_gs : ∀ (k p : Nat) (w : List tok × Nat), sumD t n k p = .inr w → gs (3 + 2 * k) w.1
  | 0, p, w, e => psm_gs (D := 1) (by omega) (fun f h => by cases h) p w e
  | k + 1, p, w, e => (psm_gs (D := 3 + 2 * k) (by omega) (fun f h q w e => by cases h; exact sumD_gs k q w e) p w e).wd (by omega)
theorem cmpD_gc {k p : Nat} {ts : List tok} {w : List tok × Nat} (h : gs (4 + 2 * k) ts) (e : cmpD t n k ts p = .inr w) : gc (4 + 2 * k) w.1 := by
  unfold cmpD at e
  cases ek : kdC (cr t n (skp t n p)) with
  | none => rw [ek] at e; cases e
  | some c =>
    rw [ek] at e
    obtain ⟨v, h1, h2⟩ := fst_inr e
    cases h2
    have := gs.cmp (D := 3 + 2 * k) (h.wd (by omega)) (sumD_gs k _ _ h1) (kdC_c _ _ ek)
    exact this.wd (by omega)
theorem cndO_gc {D : Nat} {u : Nat → lrs} {ts : List tok} {p : Nat} {w : List tok × Nat} (hu : ∀ q w, u q = .inr w → gc D w.1) (h : gc D ts) (e : cndO t n u ts p = .inr w) : gc (D + 2) w.1 := by
  obtain ⟨v, h1, h2⟩ := fst_inr e
  have a : gc (D + 1) v.1 := lpp_gc kdA_c hu 240 _ _ (h.wd (by omega)) h1
  refine lpp_gc (D := D + 1) kdO_c (fun q w' e' => ?_) 240 _ _ (a.wd (by omega)) h2
  obtain ⟨v', h1', h2'⟩ := fst_inr e'
  exact lpp_gc kdA_c hu 240 _ _ ((hu _ _ h1').wd (by omega)) h2'
theorem unD_gc : ∀ (k p : Nat) (w : List tok × Nat), unD t n k p = .inr w → gc (4 + 2 * k) w.1
  | 0, p, w, e => by
    have e' : (if cr t n (skp t n p) = 33 ∨ cr t n (skp t n p) = 40 then (.inl (skp t n p) : lrs) else fst_ (sumD t n 0 p) (fun ts e => cmpD t n 0 ts e)) = .inr w := e
    split at e'
    · cases e'
    · obtain ⟨v, h1, h2⟩ := fst_inr e'
      exact cmpD_gc ((sumD_gs 0 _ _ h1).wd (by omega)) h2
  | k + 1, p, w, e => by
    have e' : (if cr t n (skp t n p) = 33 then fst_ (unD t n k (skp t n p + 1)) (fun ts e => .inr (ts ++ [(9, 0)], e)) else if cr t n (skp t n p) = 40 then cld t n 41 (fst_ (unD t n k (skp t n p + 1)) (fun ts e => cndO t n (unD t n k) ts e)) else fst_ (sumD t n (k + 1) p) (fun ts e => cmpD t n (k + 1) ts e)) = (.inr w : lrs) := e
    split at e'
    · obtain ⟨v, h1, h2⟩ := fst_inr e'
      cases h2
      exact (unD_gc k _ _ h1).nt.wd (by omega)
    · split at e'
      · obtain ⟨v, h1, h2⟩ := cld_gs e'
        obtain ⟨v', h1', h2'⟩ := fst_inr h1
        rw [← h2]
        exact (cndO_gc (unD_gc k) (unD_gc k _ _ h1') h2').wd (by omega)
      · obtain ⟨v, h1, h2⟩ := fst_inr e'
        exact cmpD_gc ((sumD_gs (k + 1) _ _ h1).wd (by omega)) h2
end GP
