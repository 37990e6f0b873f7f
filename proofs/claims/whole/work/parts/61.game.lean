/-! games -/
/-- what p has when H hangs -/
def shr (R : rm) (s : sc) (H : Int32) (p : Nat) : Int32 := if lo R s (jn R H (on (s_pl s p))) (r_np R) = some p then (2 : Int32) * bc (jn R H (on (s_pl s p))) else bc (jn R H (on (s_pl s p)))
/-- what p turns by drawing c -/
def tu (R : rm) (s : sc) (p c : Nat) : Int32 := if c < r_nc R ∧ ¬ s_cl s c = 0 ∧ ri R (st R s (s_pl s p)) c = true then on c else 0
def gm (R : rm) (s : sc) (p q x y w : Nat) : Int32 := shr R s (hg R s ^^^ (tu R s p x ||| tu R s q y)) w
/-- nobody does better by one of the first k -/
def rsk (R : rm) (s : sc) (p q x y : Nat) : Nat → Bool
  | 0 => true
  | k + 1 => rsk R s p q x y k && !decide (gm R s p q x y p < gm R s p q k y p) && !decide (gm R s p q x y q < gm R s p q x k q)
theorem rsk_f {R : rm} {s : sc} {p q x y k : Nat} (h : rsk R s p q x y k = false) : ∀ {m : Nat}, k ≤ m → rsk R s p q x y m = false
  | 0, hm => by rw [show k = 0 by omega] at h; exact h
  | m + 1, hm => by
    by_cases e : k = m + 1
    · rw [← e]; exact h
    · have := rsk_f h (m := m) (by omega)
      unfold rsk; rw [this]; rfl
def rowf (T : Nat → Nat → Bool) (i : Int32) (x : Nat) (f : Int32) : Nat → Int32 × Option Int32
  | 0 => (f, none)
  | k + 1 => match (rowf T i x f k).2 with
    | some v => ((rowf T i x f k).1, some v)
    | none => if T x k = true then (if (rowf T i x f k).1 = i then ((rowf T i x f k).1, some ((10 : Int32) * nI x + nI k)) else ((rowf T i x f k).1 + 1, none)) else ((rowf T i x f k).1, none)
def allf (T : Nat → Nat → Bool) (i : Int32) (n : Nat) : Nat → Int32 × Option Int32
  | 0 => (0, none)
  | k + 1 => match (allf T i n k).2 with
    | some v => ((allf T i n k).1, some v)
    | none => rowf T i k (allf T i n k).1 n
def resf (T : Nat → Nat → Bool) (i : Int32) (n : Nat) : Int32 := match (allf T i n n).2 with
  | some v => v
  | none => if i = -1 then (allf T i n n).1 else -1
theorem rowf_k {T : Nat → Nat → Bool} {i f v : Int32} {x k : Nat} (h : (rowf T i x f k).2 = some v) : ∀ {m : Nat}, k ≤ m → (rowf T i x f m).2 = some v
  | 0, hm => by rw [show k = 0 by omega] at h; exact h
  | m + 1, hm => by
    by_cases e : k = m + 1
    · rw [← e]; exact h
    · have := rowf_k h (m := m) (by omega)
      unfold rowf; rw [this]
theorem allf_k {T : Nat → Nat → Bool} {i v : Int32} {n k : Nat} (h : (allf T i n k).2 = some v) : ∀ {m : Nat}, k ≤ m → (allf T i n m).2 = some v
  | 0, hm => by rw [show k = 0 by omega] at h; exact h
  | m + 1, hm => by
    by_cases e : k = m + 1
    · rw [← e]; exact h
    · have := allf_k h (m := m) (by omega)
      unfold allf; rw [this]
/-- a found one is the answer -/
theorem resf_of {T : Nat → Nat → Bool} {i v : Int32} {n x k : Nat} (hx : x < n) (hk : k ≤ n) (h0 : (allf T i n x).2 = none) (h : (rowf T i x (allf T i n x).1 k).2 = some v) : resf T i n = v := by
  have a := rowf_k h hk
  have b : (allf T i n (x + 1)).2 = some v := by unfold allf; rw [h0]; exact a
  have c := allf_k b (show x + 1 ≤ n by omega)
  unfold resf; rw [c]
/-- the search through all pairs, whatever tests a pair -/
theorem search {T : Nat → Nat → Bool} {i : Int32} {n : Nat} {A : Int32 → Nat → Prop} {B : Int32 → Nat → Nat → Prop} {Qf : Int32 → Prop} (hA0 : ∀ f, (if i = -1 then Qf f else Qf (-1)) → A f n) (hA1 : ∀ f x, x < n → B f x 0 → A f x) (hB0 : ∀ f x, A f (x + 1) → B f x n) (hB1 : ∀ f x y, x < n → y < n → (T x y = true → f = i → Qf ((10 : Int32) * nI x + nI y)) → (T x y = true → ¬ f = i → B (f + 1) x (y + 1)) → (T x y = false → B f x (y + 1)) → B f x y) (h : Qf (resf T i n)) : A 0 0 := by
  refine dn (P := fun x => (allf T i n x).2 = none → A (allf T i n x).1 x) n ?_ ?_ rfl
  · intro e
    refine hA0 _ ?_
    unfold resf at h
    rw [e] at h
    dsimp only at h
    by_cases z : i = -1
    · rw [if_pos z] at h ⊢; exact h
    · rw [if_neg z] at h ⊢; exact h
  · intro x hx ih e
    refine hA1 _ _ hx ?_
    refine dn (P := fun y => (rowf T i x (allf T i n x).1 y).2 = none → B (rowf T i x (allf T i n x).1 y).1 x y) n ?_ ?_ rfl
    · intro e2
      refine hB0 _ _ ?_
      have e3 : allf T i n (x + 1) = rowf T i x (allf T i n x).1 n := by
        show (match (allf T i n x).2 with
          | some v => ((allf T i n x).1, some v)
          | none => rowf T i x (allf T i n x).1 n) = _
        rw [e]
      rw [e3] at ih
      exact ih e2
    · intro y hy ih2 e2
      refine hB1 _ _ _ hx hy (fun t1 t2 => ?_) (fun t1 t2 => ?_) (fun t1 => ?_)
      · have : (rowf T i x (allf T i n x).1 (y + 1)).2 = some ((10 : Int32) * nI x + nI y) := by
          unfold rowf; rw [e2]; dsimp only; rw [if_pos t1, if_pos t2]
        rw [resf_of hx (by omega) e this] at h; exact h
      · have : rowf T i x (allf T i n x).1 (y + 1) = ((rowf T i x (allf T i n x).1 y).1 + 1, none) := by
          rw [rowf]; rw [e2]; dsimp only; rw [if_pos t1, if_neg t2]
        rw [this] at ih2; exact ih2 rfl
      · have : rowf T i x (allf T i n x).1 (y + 1) = ((rowf T i x (allf T i n x).1 y).1, none) := by
          rw [rowf]; rw [e2]; dsimp only; rw [if_neg (by rw [t1]; decide)]
        rw [this] at ih2; exact ih2 rfl
theorem tu_in {R : rm} {s : sc} {p c : Nat} (hR : r_wf R) : cp_in (tu R s p c) (r_nc R) := by
  have nc := hR.nc
  unfold tu
  split
  · rename_i h; exact on_in h.1 (by omega)
  · intro i hi; rw [b_0] at hi; cases hi
theorem tu_cl {R : rm} {s : sc} {p c : Nat} (hR : r_wf R) (hc : c ≤ r_nc R) : on c &&& (bs (r_nc R) (ri R (st R s (s_pl s p))) &&& (fa R s ^^^ (-1))) = tu R s p c := by
  have nc := hR.nc
  apply b_ext
  intro i hi
  unfold tu fa
  rw [b_and, b_and, b_not _ hi, b_on (by omega) hi, b_bs _ _ (by omega), b_bs _ _ (by omega)]
  by_cases e : i = c
  · subst e
    by_cases h1 : i < r_nc R
    · by_cases h2 : s_cl s i = 0
      · rw [if_neg (fun z => z.2.1 h2), b_0]; simp [h2, h1]
      · cases h3 : ri R (st R s (s_pl s p)) i with
        | true => rw [if_pos ⟨h1, h2, rfl⟩, b_on hi hi]; simp [h1, h2]
        | false => rw [if_neg (fun z => by cases z.2.2), b_0]; simp
    · rw [if_neg (fun z => h1 z.1), b_0]; simp [h1]
  · have : bt (if c < r_nc R ∧ ¬ s_cl s c = 0 ∧ ri R (st R s (s_pl s p)) c = true then on c else 0) i = false := by
      split
      · rw [b_on (by omega) hi]; simp [e]
      · rw [b_0]
    rw [this]; simp [e]
theorem and_dist (a b c d e : Int32) : ((a &&& b) ||| (c &&& d)) &&& e = (a &&& (b &&& e)) ||| (c &&& (d &&& e)) := by
  apply b_ext
  intro i _
  simp only [b_and, b_or]
  cases bt a i <;> cases bt b i <;> cases bt c i <;> cases bt d i <;> cases bt e i <;> rfl
def A_game (R : rm) (s : sc) (x1 x2 x3 x4 x5 : Int32) : Int32 := if ixn (r_np R) x1 = none ∨ ixn (r_np R) x2 = none ∨ x1 = x2 ∨ ixn (r_nc R + 1) x3 = none ∨ ixn (r_nc R + 1) x4 = none ∨ ixn 2 x5 = none then -1000000 else gm R s x1.toNatClampNeg x2.toNatClampNeg x3.toNatClampNeg x4.toNatClampNeg (if x5 = 0 then x1.toNatClampNeg else x2.toNatClampNeg)
def A_rests (R : rm) (s : sc) (x1 x2 x3 : Int32) : Int32 := if ixn (r_np R) x1 = none ∨ ixn (r_np R) x2 = none ∨ x1 = x2 ∨ ¬ (-1 : Int32) ≤ x3 then -1 else resf (fun x y => rsk R s x1.toNatClampNeg x2.toNatClampNeg x y (r_nc R + 1)) x3 (r_nc R + 1)
def A_treaty (R : rm) (s : sc) (x1 x2 : Int32) : Int32 := if ixn (r_np R) x1 = none ∨ ixn (r_np R) x2 = none ∨ x1 = x2 then -1 else if rsk R s x1.toNatClampNeg x2.toNatClampNeg (r_nc R) (r_nc R) (r_nc R + 1) = true then 1 else 0
theorem ix11m (c k : Nat) : nI c * (11 : Int32) + nI k = nI (c * 11 + k) := by rw [show (11 : Int32) = nI 11 from rfl, nI_mul, nI_add]
section GM
variable {l : Launch} {G : mj_G} {L r x rs : Nat} {R : rm} {s : sc} {S : mj_S}
theorem s_arePlayers {x1 x2 : Int32} {Q : mj_S → Int32 → Prop} (C : CI L S r x rs R s) (h1 : ∀ p q, ixn (r_np R) x1 = some p → ixn (r_np R) x2 = some q → ¬ x1 = x2 → Q S 1) (h0 : (ixn (r_np R) x1 = none ∨ ixn (r_np R) x2 = none ∨ x1 = x2) → Q S 0) : M_X10_arePlayers l G 6 x1 x2 S Q := by
  refine e_X10_arePlayers (b_X10_arePlayers_0 C.sh.k6 (s_isPerson C (fun p e => ?_) (fun e => ?_)))
  · try simp only [Option.some.injEq, exists_eq_left', fi32, i10, i00, false_implies, true_implies, not_false_eq_true, not_true_eq_false, true_and, and_true, nI_1, lz0, lz1, ix0, ix11, ix2]
    refine s_isPerson C (fun q e2 => ?_) (fun e2 => ?_)
    · try simp only [Option.some.injEq, exists_eq_left', fi32, i10, i00, false_implies, true_implies, not_false_eq_true, not_true_eq_false, true_and, and_true, nI_1, lz0, lz1, ix0, ix11, ix2]
      exact ⟨fun z => h0 (Or.inr (Or.inr z)), fun z => h1 p q e e2 z⟩
    · try simp only [Option.some.injEq, exists_eq_left', fi32, i10, i00, false_implies, true_implies, not_false_eq_true, not_true_eq_false, true_and, and_true, nI_1, lz0, lz1, ix0, ix11, ix2]
      exact h0 (Or.inr (Or.inl e2))
  · try simp only [Option.some.injEq, exists_eq_left', fi32, i10, i00, false_implies, true_implies, not_false_eq_true, not_true_eq_false, true_and, and_true, nI_1, lz0, lz1, ix0, ix11, ix2]
    exact h0 (Or.inl e)
theorem s_shareOf {p : Nat} {H : Int32} {Q : mj_S → Int32 → Prop} (C : CI L S r 50 rs R s) (F : FL S R H) (hp : p < r_np R) (h : Q S (shr R s H p)) : M_X10_shareOf l G 6 (nI p) S Q := by
  have np := C.rw.np
  have hin : vp_in (nI p) 6 := vp_nI (by omega) (by omega)
  unfold shr at h
  refine e_X10_shareOf (b_X10_shareOf_0 C.sh.k6 ?_)
  try simp only [Option.some.injEq, exists_eq_left', fi32, i10, i00, false_implies, true_implies, not_false_eq_true, not_true_eq_false, true_and, and_true, nI_1, lz0, lz1, ix0, ix11, ix2, C.p, C.sh.p6_0, C.sh.p6_4, C.sh.p6_7, C.sh.p6_8, C.sh.p6_9, C.sh.p6_10, C.sh.p6_11, C.sh.p6_12, C.sh.p6_13, C.sh.p50_1, C.sh.p50_2, C.sh.l60, C.sh.l61, C.rc.w, C.rc.h, C.rc.li, C.rc.mo, C.rc.n, C.rc.nc, C.rc.np, C.sh.rp8 C.irm, C.sh.rl8 C.irm, C.sh.rp9 C.irm, C.sh.rl9 C.irm, C.sh.rp10 C.irm, C.sh.rl10 C.irm, C.sh.rp11 C.irm, C.sh.rl11 C.irm, C.sh.rp12 C.irm, C.sh.rl12 C.irm, C.sh.rp16 C.irm, C.sh.rl16 C.irm, hin, nI_clamp (show p < 2 ^ 31 by omega), C.sn.pl hp]
  rw [show ((1 : Int32) <<< (nI (s_pl s p) &&& 31)) = on (s_pl s p) from rfl]
  refine s_reach C.sh F (s_bc (s_lordIn C ?_))
  try simp only [Option.some.injEq, exists_eq_left', fi32, i10, i00, false_implies, true_implies, not_false_eq_true, not_true_eq_false, true_and, and_true, nI_1, lz0, lz1, ix0, ix11, ix2, oI_e (o := lo R s (jn R H (on (s_pl s p))) (r_np R)) (p := p) (fun m z => by have := lo_lt z; omega) (by omega)]
  exact ⟨fun z => by rw [if_neg z] at h; exact h, fun z => by rw [if_pos z] at h; exact h⟩
theorem c_game {x1 x2 x3 x4 x5 : Int32} {Q : mj_S → Int32 → Prop} (C : CI L S r 50 rs R s) (h : ∀ S', fr DC S S' → Q S' (A_game R s x1 x2 x3 x4 x5)) : M_X10_game l G 6 x1 x2 x3 x4 x5 S Q := by
  have np := C.rw.np
  have nc := C.rw.nc
  have hn := C.rw.n
  unfold A_game at h
  refine e_X10_game (b_X10_game_0 C.sh.k6 (s_arePlayers C (fun p q e1 e2 ne => ?_) (fun e => ?_)))
  · obtain ⟨hp, ep⟩ := ixn_some (by omega) e1
    obtain ⟨hq, eq⟩ := ixn_some (by omega) e2
    try simp only [Option.some.injEq, exists_eq_left', fi32, i10, i00, false_implies, true_implies, not_false_eq_true, not_true_eq_false, true_and, and_true, nI_1, lz0, lz1, ix0, ix11, ix2]
    refine s_witN (n := 1) (by omega) (fun w e5 => ?_) (fun e5 => ?_)
    · try simp only [Option.some.injEq, exists_eq_left', fi32, i10, i00, false_implies, true_implies, not_false_eq_true, not_true_eq_false, true_and, and_true, nI_1, lz0, lz1, ix0, ix11, ix2, C.p, C.sh.p6_0, C.sh.p6_4, C.sh.p6_7, C.sh.p6_8, C.sh.p6_9, C.sh.p6_10, C.sh.p6_11, C.sh.p6_12, C.sh.p6_13, C.sh.p50_1, C.sh.p50_2, C.sh.l60, C.sh.l61, C.rc.w, C.rc.h, C.rc.li, C.rc.mo, C.rc.n, C.rc.nc, C.rc.np, C.sh.rp8 C.irm, C.sh.rl8 C.irm, C.sh.rp9 C.irm, C.sh.rl9 C.irm, C.sh.rp10 C.irm, C.sh.rl10 C.irm, C.sh.rp11 C.irm, C.sh.rl11 C.irm, C.sh.rp12 C.irm, C.sh.rl12 C.irm, C.sh.rp16 C.irm, C.sh.rl16 C.irm]
      refine s_witN (by omega) (fun a e3 => ?_) (fun e3 => ?_)
      · obtain ⟨ha, ea⟩ := ixn_some (by omega) e3
        try simp only [Option.some.injEq, exists_eq_left', fi32, i10, i00, false_implies, true_implies, not_false_eq_true, not_true_eq_false, true_and, and_true, nI_1, lz0, lz1, ix0, ix11, ix2, C.p, C.sh.p6_0, C.sh.p6_4, C.sh.p6_7, C.sh.p6_8, C.sh.p6_9, C.sh.p6_10, C.sh.p6_11, C.sh.p6_12, C.sh.p6_13, C.sh.p50_1, C.sh.p50_2, C.sh.l60, C.sh.l61, C.rc.w, C.rc.h, C.rc.li, C.rc.mo, C.rc.n, C.rc.nc, C.rc.np, C.sh.rp8 C.irm, C.sh.rl8 C.irm, C.sh.rp9 C.irm, C.sh.rl9 C.irm, C.sh.rp10 C.irm, C.sh.rl10 C.irm, C.sh.rp11 C.irm, C.sh.rl11 C.irm, C.sh.rp12 C.irm, C.sh.rl12 C.irm, C.sh.rp16 C.irm, C.sh.rl16 C.irm]
        refine s_witN (by omega) (fun b e4 => ?_) (fun e4 => ?_)
        · obtain ⟨hb, eb⟩ := ixn_some (by omega) e4
          rw [if_neg (by rw [e1, e2, e3, e4, e5]; simp [ne])] at h
          try simp only [Option.some.injEq, exists_eq_left', fi32, i10, i00, false_implies, true_implies, not_false_eq_true, not_true_eq_false, true_and, and_true, nI_1, lz0, lz1, ix0, ix11, ix2, C.p, C.sh.p6_0, C.sh.p6_4, C.sh.p6_7, C.sh.p6_8, C.sh.p6_9, C.sh.p6_10, C.sh.p6_11, C.sh.p6_12, C.sh.p6_13, C.sh.p50_1, C.sh.p50_2, C.sh.l60, C.sh.l61, C.rc.w, C.rc.h, C.rc.li, C.rc.mo, C.rc.n, C.rc.nc, C.rc.np, C.sh.rp8 C.irm, C.sh.rl8 C.irm, C.sh.rp9 C.irm, C.sh.rl9 C.irm, C.sh.rp10 C.irm, C.sh.rl10 C.irm, C.sh.rp11 C.irm, C.sh.rl11 C.irm, C.sh.rp12 C.irm, C.sh.rl12 C.irm, C.sh.rp16 C.irm, C.sh.rl16 C.irm]
          refine s_fallen C ?_
          rw [ep, eq, ea, eb]
          rw [ep, eq, ea, eb, nI_clamp (by omega), nI_clamp (by omega), nI_clamp (by omega), nI_clamp (by omega)] at h
          refine s_rightsOf C hp (fun S1 f1 => s_rightsOf (C.fr f1) hq (fun S2 f2 => ?_))
          have D := (C.fr f1).fr f2
          try simp only [Option.some.injEq, exists_eq_left', fi32, i10, i00, false_implies, true_implies, not_false_eq_true, not_true_eq_false, true_and, and_true, nI_1, lz0, lz1, ix0, ix11, ix2, D.p, D.sh.p6_0, D.sh.p6_4, D.sh.p6_7, D.sh.p6_8, D.sh.p6_9, D.sh.p6_10, D.sh.p6_11, D.sh.p6_12, D.sh.p6_13, D.sh.p50_1, D.sh.p50_2, D.sh.l60, D.sh.l61, D.rc.w, D.rc.h, D.rc.li, D.rc.mo, D.rc.n, D.rc.nc, D.rc.np, D.sh.rp8 D.irm, D.sh.rl8 D.irm, D.sh.rp9 D.irm, D.sh.rl9 D.irm, D.sh.rp10 D.irm, D.sh.rl10 D.irm, D.sh.rp11 D.irm, D.sh.rl11 D.irm, D.sh.rp12 D.irm, D.sh.rl12 D.irm, D.sh.rp16 D.irm, D.sh.rl16 D.irm]
          refine s_hung D (s_part D.sh D.rw D.irm D.r51 D.rc fun S3 f3 F => ?_)
          have hF : hg R s ^^^ (((((1 : Int32) <<< (nI a &&& 31)) &&& bs (r_nc R) (ri R (st R s (s_pl s p)))) ||| (((1 : Int32) <<< (nI b &&& 31)) &&& bs (r_nc R) (ri R (st R s (s_pl s q))))) &&& (fa R s ^^^ (-1))) = hg R s ^^^ (tu R s p a ||| tu R s q b) := by
            rw [and_dist, show ((1 : Int32) <<< (nI a &&& 31)) = on a from rfl, show ((1 : Int32) <<< (nI b &&& 31)) = on b from rfl, tu_cl D.rw (by omega), tu_cl D.rw (by omega)]
          rw [hF] at F
          have E := D.fr f3
          have h' := h S3 ((f1.tr f2).tr f3)
          refine ⟨fun z => ?_, fun z => ?_⟩
          · rw [if_neg z] at h'
            exact b_X10_game_122 E.sh.k6 (s_shareOf E F hq h')
          · rw [if_pos z] at h'
            exact b_X10_game_122 E.sh.k6 (s_shareOf E F hp h')
        · rw [if_pos (by rw [e4]; simp)] at h
          try simp only [Option.some.injEq, exists_eq_left', fi32, i10, i00, false_implies, true_implies, not_false_eq_true, not_true_eq_false, true_and, and_true, nI_1, lz0, lz1, ix0, ix11, ix2]
          exact h S fr.rf
      · rw [if_pos (by rw [e3]; simp)] at h
        try simp only [Option.some.injEq, exists_eq_left', fi32, i10, i00, false_implies, true_implies, not_false_eq_true, not_true_eq_false, true_and, and_true, nI_1, lz0, lz1, ix0, ix11, ix2]
        exact h S fr.rf
    · rw [if_pos (by rw [e5]; simp)] at h
      try simp only [Option.some.injEq, exists_eq_left', fi32, i10, i00, false_implies, true_implies, not_false_eq_true, not_true_eq_false, true_and, and_true, nI_1, lz0, lz1, ix0, ix11, ix2]
      exact h S fr.rf
  · rw [if_pos (by rcases e with e | e | e; exact Or.inl e; exact Or.inr (Or.inl e); exact Or.inr (Or.inr (Or.inl e)))] at h
    try simp only [Option.some.injEq, exists_eq_left', fi32, i10, i00, false_implies, true_implies, not_false_eq_true, not_true_eq_false, true_and, and_true, nI_1, lz0, lz1, ix0, ix11, ix2]
    exact h S fr.rf
/-- the table is laid up to (x, y) -/
def TB (S : mj_S) (R : rm) (s : sc) (p q x y : Nat) : Prop := m_gi S 85 0 = nI (r_nc R + 1) ∧ ∀ a b, a ≤ r_nc R → b ≤ r_nc R → (a < x ∨ (a = x ∧ b < y)) → m_gi S 86 (a * 11 + b) = gm R s p q a b p ∧ m_gi S 87 (a * 11 + b) = gm R s p q a b q
theorem s_put {a b d : Nat} {v w : Int32} {Q : mj_S → Prop} (hs : Sh L S) (hd : m_gi S 85 0 = nI (d + 1)) (hd11 : d ≤ 10) (ha : a ≤ d) (hb : b ≤ d) (h : Q (m_si (m_si S 86 (a * 11 + b) v) 87 (a * 11 + b) w)) : M_X9_put l G 85 (nI a) (nI b) v w S Q := by
  have hin : vp_in (nI (a * 11 + b)) 121 := vp_nI (by omega) (by omega)
  refine e_X9_put (b_X9_put_0 hs.k85 ?_)
  rw [hd, nI_pred]
  refine s_witN (by omega) (fun _ _ => ?_) (fun e => ?_)
  · rw [hd, nI_pred]
    try simp only [Option.some.injEq, exists_eq_left', fi32, i10, i00, false_implies, true_implies, not_false_eq_true, not_true_eq_false, true_and, and_true, nI_1, lz0, lz1, ix0, ix11, ix2]
    refine s_witN (by omega) (fun _ _ => ?_) (fun e => ?_)
    · try simp only [Option.some.injEq, exists_eq_left', fi32, i10, i00, false_implies, true_implies, not_false_eq_true, not_true_eq_false, true_and, and_true, nI_1, lz0, lz1, ix0, ix11, ix2, hs.p85_1, hs.l86, ix11m, hin, nI_clamp (show a * 11 + b < 2 ^ 31 by omega)]
      intro S1 e1
      have h1 : Sh L S1 := by rw [e1]; exact hs.si
      try simp only [Option.some.injEq, exists_eq_left', fi32, i10, i00, false_implies, true_implies, not_false_eq_true, not_true_eq_false, true_and, and_true, nI_1, lz0, lz1, ix0, ix11, ix2, h1.p85_2, h1.l87, hin]
      intro S2 e2
      rw [e2, e1]; exact h
    · rw [ixn_nI (by omega) (by omega)] at e; cases e
  · rw [ixn_nI (by omega) (by omega)] at e; cases e
theorem s_playAll {p q : Nat} {Q : mj_S → Prop} (C : CI L S r 50 rs R s) (hp : p < r_np R) (hq : q < r_np R) (h : ∀ S', fr DC S S' → TB S' R s p q (r_nc R + 1) 0 → Q S') : M_X10_playAll l G 6 (nI p) (nI q) S Q := by
  have np := C.rw.np
  have nc := C.rw.nc
  have hn := C.rw.n
  refine e_X10_playAll (b_X10_playAll_0 C.sh.k6 ⟨50, C.sh.p6_7, s_fallen C (fun v4 e4 => s_rightsOf C hp (fun S1 f1 v7 e7 => s_rightsOf (C.fr f1) hq (fun S2 f2 v10 e10 => ?_)))⟩)
  have D := (C.fr f1).fr f2
  have fD := f1.tr f2
  try simp only [Option.some.injEq, exists_eq_left', fi32, i10, i00, false_implies, true_implies, not_false_eq_true, not_true_eq_false, true_and, and_true, nI_1, lz0, lz1, ix0, ix11, ix2, D.p, D.sh.p6_0, D.sh.p6_4, D.sh.p6_7, D.sh.p6_8, D.sh.p6_9, D.sh.p6_10, D.sh.p6_11, D.sh.p6_12, D.sh.p6_13, D.sh.p50_1, D.sh.p50_2, D.sh.l60, D.sh.l61, D.rc.w, D.rc.h, D.rc.li, D.rc.mo, D.rc.n, D.rc.nc, D.rc.np, D.sh.rp8 D.irm, D.sh.rl8 D.irm, D.sh.rp9 D.irm, D.sh.rl9 D.irm, D.sh.rp10 D.irm, D.sh.rl10 D.irm, D.sh.rp11 D.irm, D.sh.rl11 D.irm, D.sh.rp12 D.irm, D.sh.rl12 D.irm, D.sh.rp16 D.irm, D.sh.rl16 D.irm]
  refine s_hung D ?_
  try simp only [Option.some.injEq, exists_eq_left', fi32, i10, i00, false_implies, true_implies, not_false_eq_true, not_true_eq_false, true_and, and_true, nI_1, lz0, lz1, ix0, ix11, ix2, D.p, D.sh.p6_0, D.sh.p6_4, D.sh.p6_7, D.sh.p6_8, D.sh.p6_9, D.sh.p6_10, D.sh.p6_11, D.sh.p6_12, D.sh.p6_13, D.sh.p50_1, D.sh.p50_2, D.sh.l60, D.sh.l61, D.rc.w, D.rc.h, D.rc.li, D.rc.mo, D.rc.n, D.rc.nc, D.rc.np, D.sh.rp8 D.irm, D.sh.rl8 D.irm, D.sh.rp9 D.irm, D.sh.rl9 D.irm, D.sh.rp10 D.irm, D.sh.rl10 D.irm, D.sh.rp11 D.irm, D.sh.rl11 D.irm, D.sh.rp12 D.irm, D.sh.rl12 D.irm, D.sh.rp16 D.irm, D.sh.rl16 D.irm]
  refine e_X9_lay (b_X9_lay_0 D.sh.k85 (s_mn (fun S3 e3 => ?_)))
  have hmn : mn (nI (r_nc R + 1)) 11 = nI (r_nc R + 1) := by
    unfold mn
    exact if_neg (nI_nlt (a := 11) (by omega) (by omega))
  have f3 : fr DC S2 S3 := by rw [e3]; exact fr.si rfl
  have g0 : m_gi S3 85 0 = nI (r_nc R + 1) := by rw [e3, m_gi_si, if_pos ⟨rfl, rfl⟩, hmn]
  have cutF : ∀ a b, a ≤ r_nc R → b ≤ r_nc R → hg R s ^^^ ((((1 : Int32) <<< (nI a &&& 31)) &&& v7) ||| (((1 : Int32) <<< (nI b &&& 31)) &&& v10)) = hg R s ^^^ (tu R s p a ||| tu R s q b) := by
    intro a b ha hb
    rw [e7, e10, e4, show ((1 : Int32) <<< (nI a &&& 31)) = on a from rfl, show ((1 : Int32) <<< (nI b &&& 31)) = on b from rfl, tu_cl D.rw ha, tu_cl D.rw hb]
  refine dn (P := fun a => ∀ T, fr DC S T → TB T R s p q a 0 → V_X10_playAll_56 l G 6 (nI p) (nI q) v7 v10 (hg R s) (nI a) T Q) (r_nc R + 1) ?_ ?_ S3 (fD.tr f3) ⟨g0, fun a b _ _ z => by omega⟩
  · intro T f hT
    have E := C.fr f
    refine b_X10_playAll_56 E.sh.k6 ⟨r, E.p, fun _ => h T f hT, fun z => absurd ?_ z⟩
    rw [E.rc.nc]; exact nI_lt (by omega) (by omega)
  · intro a ha ih T f hT
    have E := C.fr f
    refine b_X10_playAll_56 E.sh.k6 ⟨r, E.p, fun z => absurd z (by rw [E.rc.nc]; exact nI_nlt (by omega) (by omega)), fun _ => ?_⟩
    refine dn (P := fun b => ∀ T, fr DC S T → TB T R s p q a b → V_X10_playAll_71 l G 6 (nI p) (nI q) v7 v10 (hg R s) (nI a) (nI b) T Q) (r_nc R + 1) ?_ ?_ T f hT
    · intro T f hT
      have E := C.fr f
      refine b_X10_playAll_71 E.sh.k6 ⟨r, E.p, fun _ v ev => ?_, fun z => absurd ?_ z⟩
      · rw [ev, nI_1]
        exact ih T f ⟨hT.1, fun a' b' z1 z2 z3 => hT.2 a' b' z1 z2 (by omega)⟩
      · rw [E.rc.nc]; exact nI_lt (by omega) (by omega)
    · intro b hb ih2 T f hT
      have E := C.fr f
      refine b_X10_playAll_71 E.sh.k6 ⟨r, E.p, fun z => absurd z (by rw [E.rc.nc]; exact nI_nlt (by omega) (by omega)), fun _ => ⟨79, E.sh.p6_10, r, E.p, ?_⟩⟩
      rw [cutF a b (by omega) (by omega)]
      refine s_partF E.sh E.rw E.irm E.r51 E.rc fun T2 f2 F => ?_
      have E2 := E.fr (DF_DC f2)
      refine ⟨85, E2.sh.p6_12, s_shareOf E2 F hp (s_shareOf E2 F hq ?_)⟩
      have g0 : m_gi T2 85 0 = nI (r_nc R + 1) := (f2.i _ _ rfl).trans hT.1
      refine s_put E2.sh g0 (by omega) (by omega) (by omega) (fun v ev => ?_)
      rw [ev, nI_1]
      refine ih2 _ ((f.tr (DF_DC f2)).tr ((fr.si rfl).tr (fr.si rfl))) ⟨?_, fun a' b' z1 z2 z3 => ?_⟩
      · rw [m_gi_si, if_neg (by omega), m_gi_si, if_neg (by omega)]; exact g0
      · rw [m_gi_si, m_gi_si, m_gi_si, m_gi_si, if_neg (show ¬ (86 = 87 ∧ a' * 11 + b' = a * 11 + b) by omega), if_neg (show ¬ (87 = 86 ∧ a' * 11 + b' = a * 11 + b) by omega)]
        by_cases e : a' * 11 + b' = a * 11 + b
        · have ea : a' = a := by omega
          have eb : b' = b := by omega
          rw [if_pos ⟨rfl, e⟩, if_pos ⟨rfl, e⟩, ea, eb]
          exact ⟨rfl, rfl⟩
        · rw [if_neg (fun z => e z.2), if_neg (fun z => e z.2), f2.i _ _ rfl, f2.i _ _ rfl]
          exact hT.2 a' b' z1 z2 (by omega)
theorem s_restsAt {p q a b : Nat} {Q : mj_S → Int32 → Prop} (hs : Sh L S) (hR : r_wf R) (hT : TB S R s p q (r_nc R + 1) 0) (ha : a ≤ r_nc R) (hb : b ≤ r_nc R) (h1 : rsk R s p q a b (r_nc R + 1) = true → Q S 1) (h0 : rsk R s p q a b (r_nc R + 1) = false → Q S 0) : M_X9_restsAt l G 85 (nI a) (nI b) S Q := by
  have nc := hR.nc
  refine e_X9_restsAt (b_X9_restsAt_0 hs.k85 ?_)
  rw [hT.1, nI_pred]
  refine s_witN (by omega) (fun _ _ => ?_) (fun e => ?_)
  · rw [hT.1, nI_pred]
    try simp only [Option.some.injEq, exists_eq_left', fi32, i10, i00, false_implies, true_implies, not_false_eq_true, not_true_eq_false, true_and, and_true, nI_1, lz0, lz1, ix0, ix11, ix2]
    refine s_witN (by omega) (fun _ _ => ?_) (fun e => ?_)
    · try simp only [Option.some.injEq, exists_eq_left', fi32, i10, i00, false_implies, true_implies, not_false_eq_true, not_true_eq_false, true_and, and_true, nI_1, lz0, lz1, ix0, ix11, ix2]
      rw [ix11m]
      refine dn (P := fun c => rsk R s p q a b c = true → V_X9_restsAt_40 l G 85 (nI a) (nI b) (nI (a * 11 + b)) (nI c) S Q) (r_nc R + 1) ?_ ?_ rfl
      · intro e
        refine b_X9_restsAt_40 hs.k85 ?_
        try simp only [Option.some.injEq, exists_eq_left', fi32, i10, i00, false_implies, true_implies, not_false_eq_true, not_true_eq_false, true_and, and_true, nI_1, lz0, lz1, ix0, ix11, ix2, hT.1, geT (show r_nc R + 1 < 2 ^ 31 by omega)]
        exact h1 e
      · intro c hc ih e
        have i1 : vp_in (nI (c * 11 + b)) 121 := vp_nI (by omega) (by omega)
        have i2 : vp_in (nI (a * 11 + c)) 121 := vp_nI (by omega) (by omega)
        have i3 : vp_in (nI (a * 11 + b)) 121 := vp_nI (by omega) (by omega)
        have t1 := hT.2 c b (by omega) hb (by omega)
        have t2 := hT.2 a c ha (by omega) (by omega)
        have t3 := hT.2 a b ha hb (by omega)
        unfold rsk at ih
        rw [e] at ih
        have no : rsk R s p q a b (c + 1) = false → Q S 0 := fun z => h0 (rsk_f z (by omega))
        unfold rsk at no
        rw [e] at no
        refine b_X9_restsAt_40 hs.k85 ?_
        try simp only [Option.some.injEq, exists_eq_left', fi32, i10, i00, false_implies, true_implies, not_false_eq_true, not_true_eq_false, true_and, and_true, nI_1, lz0, lz1, ix0, ix11, ix2, hT.1, gtF hc (show r_nc R + 1 < 2 ^ 31 by omega), hs.p85_1, hs.p85_2, hs.l86, hs.l87, ix11m, i1, i2, i3, nI_clamp (show c * 11 + b < 2 ^ 31 by omega), nI_clamp (show a * 11 + c < 2 ^ 31 by omega), nI_clamp (show a * 11 + b < 2 ^ 31 by omega), t1.1, t2.2, t3.1, t3.2]
        refine ⟨fun z => no (by simp [z]), fun z => ⟨fun z2 => ih (by simp [z, Int32.not_lt.mpr z2]), fun z2 => no (by simp [z]; exact Int32.not_le.mp z2)⟩⟩
    · rw [ixn_nI (by omega) (by omega)] at e; cases e
  · rw [ixn_nI (by omega) (by omega)] at e; cases e
theorem c_rests {x1 x2 x3 : Int32} {Q : mj_S → Int32 → Prop} (C : CI L S r 50 rs R s) (h : ∀ S', fr DC S S' → Q S' (A_rests R s x1 x2 x3)) : M_X10_rests l G 6 x1 x2 x3 S Q := by
  have np := C.rw.np
  have nc := C.rw.nc
  unfold A_rests at h
  refine e_X10_rests (b_X10_rests_0 C.sh.k6 (s_arePlayers C (fun p q e1 e2 ne => ?_) (fun e => ?_)))
  · obtain ⟨hp, ep⟩ := ixn_some (by omega) e1
    obtain ⟨hq, eq⟩ := ixn_some (by omega) e2
    try simp only [Option.some.injEq, exists_eq_left', fi32, i10, i00, false_implies, true_implies, not_false_eq_true, not_true_eq_false, true_and, and_true, nI_1, lz0, lz1, ix0, ix11, ix2]
    refine ⟨fun z => ?_, fun z => ?_⟩
    · rw [if_neg (by rw [e1, e2]; simp [ne, z]), ep, eq, nI_clamp (by omega), nI_clamp (by omega)] at h
      rw [ep, eq]
      refine s_playAll C hp hq (fun S' f hT => ?_)
      have D := C.fr f
      refine search (i := x3) (n := r_nc R + 1) (A := fun f' a => V_X10_rests_28 l G 6 x3 f' (nI a) S' Q) (B := fun f' a b => V_X10_rests_43 l G 6 x3 f' (nI a) (nI b) S' Q) (Qf := fun v => Q S' v) ?_ ?_ ?_ ?_ (h S' f)
      · intro f' hf
        refine b_X10_rests_28 D.sh.k6 ⟨r, D.p, fun _ => ⟨fun z => by rw [if_neg z] at hf; exact hf, fun z => by rw [if_pos z] at hf; exact hf⟩, fun z => absurd ?_ z⟩
        rw [D.rc.nc]; exact nI_lt (by omega) (by omega)
      · intro f' a ha hB
        exact b_X10_rests_28 D.sh.k6 ⟨r, D.p, fun z => absurd z (by rw [D.rc.nc]; exact nI_nlt (by omega) (by omega)), fun _ => hB⟩
      · intro f' a hA
        refine b_X10_rests_43 D.sh.k6 ⟨r, D.p, fun _ v ev => by rw [ev, nI_1]; exact hA, fun z => absurd ?_ z⟩
        rw [D.rc.nc]; exact nI_lt (by omega) (by omega)
      · intro f' a b ha hb k1 k2 k3
        refine b_X10_rests_43 D.sh.k6 ⟨r, D.p, fun z => absurd z (by rw [D.rc.nc]; exact nI_nlt (by omega) (by omega)), fun _ => ⟨85, D.sh.p6_12, s_restsAt D.sh D.rw hT (by omega) (by omega) (fun e => ?_) (fun e => ?_)⟩⟩
        · try simp only [Option.some.injEq, exists_eq_left', fi32, i10, i00, false_implies, true_implies, not_false_eq_true, not_true_eq_false, true_and, and_true, nI_1, lz0, lz1, ix0, ix11, ix2]
          exact ⟨fun z => k2 e z, fun z => k1 e z⟩
        · try simp only [Option.some.injEq, exists_eq_left', fi32, i10, i00, false_implies, true_implies, not_false_eq_true, not_true_eq_false, true_and, and_true, nI_1, lz0, lz1, ix0, ix11, ix2]
          exact k3 e
    · rw [if_pos (Or.inr (Or.inr (Or.inr z)))] at h
      exact h S fr.rf
  · rw [if_pos (by rcases e with e | e | e; exact Or.inl e; exact Or.inr (Or.inl e); exact Or.inr (Or.inr (Or.inl e)))] at h
    try simp only [Option.some.injEq, exists_eq_left', fi32, i10, i00, false_implies, true_implies, not_false_eq_true, not_true_eq_false, true_and, and_true, nI_1, lz0, lz1, ix0, ix11, ix2]
    exact h S fr.rf
theorem c_treaty {x1 x2 : Int32} {Q : mj_S → Int32 → Prop} (C : CI L S r 50 rs R s) (h : ∀ S', fr DC S S' → Q S' (A_treaty R s x1 x2)) : M_X10_treaty l G 6 x1 x2 S Q := by
  have np := C.rw.np
  unfold A_treaty at h
  refine e_X10_treaty (b_X10_treaty_0 C.sh.k6 (s_arePlayers C (fun p q e1 e2 ne => ?_) (fun e => ?_)))
  · obtain ⟨hp, ep⟩ := ixn_some (by omega) e1
    obtain ⟨hq, eq⟩ := ixn_some (by omega) e2
    try simp only [Option.some.injEq, exists_eq_left', fi32, i10, i00, false_implies, true_implies, not_false_eq_true, not_true_eq_false, true_and, and_true, nI_1, lz0, lz1, ix0, ix11, ix2]
    rw [if_neg (by rw [e1, e2]; simp [ne]), ep, eq, nI_clamp (by omega), nI_clamp (by omega)] at h
    rw [ep, eq]
    refine s_playAll C hp hq (fun S' f hT => ?_)
    have D := C.fr f
    try simp only [Option.some.injEq, exists_eq_left', fi32, i10, i00, false_implies, true_implies, not_false_eq_true, not_true_eq_false, true_and, and_true, nI_1, lz0, lz1, ix0, ix11, ix2, D.p, D.sh.p6_0, D.sh.p6_4, D.sh.p6_7, D.sh.p6_8, D.sh.p6_9, D.sh.p6_10, D.sh.p6_11, D.sh.p6_12, D.sh.p6_13, D.sh.p50_1, D.sh.p50_2, D.sh.l60, D.sh.l61, D.rc.w, D.rc.h, D.rc.li, D.rc.mo, D.rc.n, D.rc.nc, D.rc.np, D.sh.rp8 D.irm, D.sh.rl8 D.irm, D.sh.rp9 D.irm, D.sh.rl9 D.irm, D.sh.rp10 D.irm, D.sh.rl10 D.irm, D.sh.rp11 D.irm, D.sh.rl11 D.irm, D.sh.rp12 D.irm, D.sh.rl12 D.irm, D.sh.rp16 D.irm, D.sh.rl16 D.irm]
    refine s_restsAt D.sh D.rw hT (Nat.le_refl _) (Nat.le_refl _) (fun e => ?_) (fun e => ?_)
    · rw [if_pos e] at h
      try simp only [Option.some.injEq, exists_eq_left', fi32, i10, i00, false_implies, true_implies, not_false_eq_true, not_true_eq_false, true_and, and_true, nI_1, lz0, lz1, ix0, ix11, ix2]
      exact h S' f
    · rw [if_neg (by rw [e]; decide)] at h
      try simp only [Option.some.injEq, exists_eq_left', fi32, i10, i00, false_implies, true_implies, not_false_eq_true, not_true_eq_false, true_and, and_true, nI_1, lz0, lz1, ix0, ix11, ix2]
      exact h S' f
  · rw [if_pos e] at h
    try simp only [Option.some.injEq, exists_eq_left', fi32, i10, i00, false_implies, true_implies, not_false_eq_true, not_true_eq_false, true_and, and_true, nI_1, lz0, lz1, ix0, ix11, ix2]
    exact h S fr.rf
end GM
