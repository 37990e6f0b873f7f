/-! a law's text: what it tells -/
abbrev tok : Type := Nat × Nat
abbrev lrs : Type := Nat ⊕ (List tok × Nat)
/-- a number of at most four digits from p on, n being read -/
def pnm (t : Nat → Nat) (n : Nat) : Nat → Nat → Nat → lrs
  | 0, v, p => if dg t n p = true then .inl p else .inr ([(0, v)], p)
  | k + 1, v, p => if dg t n p = true then pnm t n k (10 * v + (t p - 48)) (p + 1) else .inr ([(0, v)], p)
def ltr (c : Int32) : Nat → Nat → Option Nat
  | 0, _ => none
  | m + 1, k => if nI (tb LL k) = c then some k else ltr c m (k + 1)
/-- what is closed by the sign c -/
def cld (t : Nat → Nat) (n : Nat) (c : Nat) (r : lrs) : lrs := match r with
  | .inl j => .inl j
  | .inr w => if cr t n (skp t n w.2) = nI c then .inr (w.1, skp t n w.2 + 1) else .inl (skp t n w.2)
def pat (t : Nat → Nat) (n : Nat) (sm : Option (Nat → lrs)) (p : Nat) : lrs := if dg t n (skp t n p) = true then pnm t n 4 0 (skp t n p) else if cr t n (skp t n p) = 91 then (match sm with
    | none => .inl (skp t n p)
    | some f => cld t n 93 (f (skp t n p + 1))) else match ltr (cr t n (skp t n p)) 6 0 with
    | some k => .inr ([(1, k)], skp t n p + 1)
    | none => .inl (skp t n p)
/-- go on as long as there is a sign of the kind -/
def lpp (t : Nat → Nat) (n : Nat) (kd : Int32 → Option Nat) (body : Nat → lrs) : Nat → List tok → Nat → lrs
  | 0, ts, p => .inr (ts, skp t n p)
  | g + 1, ts, p => match kd (cr t n (skp t n p)) with
    | none => .inr (ts, skp t n p)
    | some c => match body (skp t n p + 1) with
      | .inl j => .inl j
      | .inr w => lpp t n kd body g (ts ++ w.1 ++ [(c, 0)]) w.2
def fst_ (r : lrs) (k : List tok → Nat → lrs) : lrs := match r with
  | .inl j => .inl j
  | .inr w => k w.1 w.2
def kdT (c : Int32) : Option Nat := if c = 42 then some 4 else if c = 47 then some 5 else none
def kdS (c : Int32) : Option Nat := if c = 43 then some 2 else if c = 45 then some 3 else none
def kdC (c : Int32) : Option Nat := if c = 61 then some 6 else if c = 60 then some 7 else if c = 62 then some 8 else none
def kdA (c : Int32) : Option Nat := if c = 38 then some 10 else none
def kdO (c : Int32) : Option Nat := if c = 124 then some 11 else none
def ptm (t : Nat → Nat) (n : Nat) (sm : Option (Nat → lrs)) (p : Nat) : lrs := fst_ (pat t n sm p) (fun ts e => lpp t n kdT (pat t n sm) 240 ts e)
def psm (t : Nat → Nat) (n : Nat) (sm : Option (Nat → lrs)) (p : Nat) : lrs := fst_ (ptm t n sm p) (fun ts e => lpp t n kdS (ptm t n sm) 240 ts e)
/-- a sum that may be nested k deep -/
def sumD (t : Nat → Nat) (n : Nat) : Nat → Nat → lrs
  | 0 => psm t n none
  | k + 1 => psm t n (some (sumD t n k))
/-- a comparison, its first sum ts being read up to p -/
def cmpD (t : Nat → Nat) (n k : Nat) (ts : List tok) (p : Nat) : lrs := match kdC (cr t n (skp t n p)) with
  | none => .inl (skp t n p)
  | some c => fst_ (sumD t n k (skp t n p + 1)) (fun us e => .inr (ts ++ us ++ [(c, 0)], e))
def andO (t : Nat → Nat) (n : Nat) (u : Nat → lrs) (ts : List tok) (p : Nat) : lrs := lpp t n kdA u 240 ts p
def truO (t : Nat → Nat) (n : Nat) (u : Nat → lrs) (p : Nat) : lrs := fst_ (u p) (fun ts e => andO t n u ts e)
def orsO (t : Nat → Nat) (n : Nat) (u : Nat → lrs) (ts : List tok) (p : Nat) : lrs := lpp t n kdO (truO t n u) 240 ts p
/-- a condition whose first unit ts was read up to p -/
def cndO (t : Nat → Nat) (n : Nat) (u : Nat → lrs) (ts : List tok) (p : Nat) : lrs := fst_ (andO t n u ts p) (fun us e => orsO t n u us e)
def unD (t : Nat → Nat) (n : Nat) : Nat → Nat → lrs
  | 0, p => if cr t n (skp t n p) = 33 ∨ cr t n (skp t n p) = 40 then .inl (skp t n p) else fst_ (sumD t n 0 p) (fun ts e => cmpD t n 0 ts e)
  | k + 1, p => if cr t n (skp t n p) = 33 then fst_ (unD t n k (skp t n p + 1)) (fun ts e => .inr (ts ++ [(9, 0)], e)) else if cr t n (skp t n p) = 40 then cld t n 41 (fst_ (unD t n k (skp t n p + 1)) (fun ts e => cndO t n (unD t n k) ts e)) else fst_ (sumD t n (k + 1) p) (fun ts e => cmpD t n (k + 1) ts e)
abbrev cls : Type := List tok × List tok
/-- the answer of a clause, its test being read -/
def ansD (t : Nat → Nat) (n : Nat) (ts : List tok) (p : Nat) : Nat ⊕ (cls × Nat) := if cr t n (skp t n p) = 63 then (match sumD t n 6 (skp t n p + 1) with
    | .inl j => .inl j
    | .inr w => .inr ((ts, w.1), w.2)) else .inl (skp t n p)
def ans1 (t : Nat → Nat) (n : Nat) (r : lrs) : Nat ⊕ (cls × Nat) := match r with
  | .inl j => .inl j
  | .inr w => ansD t n w.1 w.2
def clsD (t : Nat → Nat) (n : Nat) (p : Nat) : Nat ⊕ (cls × Nat) :=
  if cr t n (skp t n p) = 121 then (
    if cr t n (skp t n (skp t n p + 1)) = 58 then (
      if cr t n (skp t n (skp t n (skp t n p + 1) + 1)) = 33 ∨ cr t n (skp t n (skp t n (skp t n p + 1) + 1)) = 40 then ans1 t n (fst_ (unD t n 6 (skp t n (skp t n p + 1) + 1)) (fun ts e => cndO t n (unD t n 6) ts e))
      else match sumD t n 6 (skp t n (skp t n p + 1) + 1) with
        | .inl j => .inl j
        | .inr w => match kdC (cr t n (skp t n w.2)) with
          | none => .inr (([], w.1), skp t n w.2)
          | some _ => ans1 t n (fst_ (cmpD t n 6 w.1 w.2) (fun ts e => cndO t n (unD t n 6) ts e)))
    else .inl (skp t n (skp t n p + 1)))
  else .inl (skp t n p)
def lawD (t : Nat → Nat) (n : Nat) : Nat → List cls → Nat → Nat ⊕ List cls
  | 0, _, p => .inl p
  | g + 1, cs, p => match clsD t n p with
    | .inl j => .inl j
    | .inr w => if n ≤ skp t n w.2 then .inr (cs ++ [w.1]) else if t (skp t n w.2) = 59 then lawD t n g (cs ++ [w.1]) (skp t n w.2 + 1) else .inl (skp t n w.2)
/-! places and lengths: a reading that gives ts goes on from p to e -/
def rok (n p : Nat) (r : lrs) : Prop := match r with
  | .inl j => j < 1000
  | .inr w => p < w.2 ∧ w.2 ≤ n ∧ w.1.length + p ≤ w.2
def rok2 (n p : Nat) (ts : List tok) (r : lrs) : Prop := match r with
  | .inl j => j < 1000
  | .inr w => p ≤ w.2 ∧ w.2 ≤ n ∧ w.1.length + p ≤ w.2 + ts.length
section LPL
variable {t : Nat → Nat} {n : Nat}
theorem pnm_ok (hn : n ≤ 240) : ∀ (k v p q : Nat), p ≤ n → q < p → rok n q (pnm t n k v p)
  | 0, v, p, q, hp, hq => by
    unfold pnm
    by_cases d : dg t n p = true
    · rw [if_pos d]; show p < 1000; omega
    · rw [if_neg d]; exact ⟨hq, hp, show 1 + q ≤ p by omega⟩
  | k + 1, v, p, q, hp, hq => by
    show rok n q (if dg t n p = true then pnm t n k (10 * v + (t p - 48)) (p + 1) else .inr ([(0, v)], p))
    by_cases d : dg t n p = true
    · rw [if_pos d]
      have : p < n := by unfold dg at d; rw [decide_eq_true_iff] at d; exact d.1
      exact pnm_ok hn k _ (p + 1) q this (by omega)
    · rw [if_neg d]; exact ⟨hq, hp, show 1 + q ≤ p by omega⟩
end LPL
