/-! the past, as both keep it -/
abbrev hy : Type := Nat × (Nat → sc) × (Nat → Nat → Int32) × Nat
abbrev imt : Type := Bool × sc × (Nat → Nat → Int32) × Nat
def HW (R : rm) (s : sc) (H : hy) : Prop := (H.1 ≤ 40 ∧ s_yr s ≤ 999 ∧ s_yr s ≤ H.2.2.2 ∧ H.2.2.2 ≤ s_yr s + 40) ∧ (0 < H.1 → s_yr (H.2.1 0) ≤ s_yr s ∧ s_yr s ≤ s_yr (H.2.1 0) + 1) ∧ (∀ i, i + 1 < H.1 → s_yr (H.2.1 (i + 1)) ≤ s_yr (H.2.1 i) ∧ s_yr (H.2.1 i) ≤ s_yr (H.2.1 (i + 1)) + 1) ∧ ∀ i, i < H.1 → s_wf R (H.2.1 i) ∧ H.2.2.2 ≤ s_yr (H.2.1 i) + 40
def IW (R : rm) (I : imt) : Prop := I.1 = true → s_wf R I.2.1 ∧ s_yr I.2.1 ≤ 999 ∧ s_yr I.2.1 ≤ I.2.2.2 ∧ I.2.2.2 ≤ s_yr I.2.1 + 40
def hpush (s : sc) (H : hy) : hy := (min 40 (H.1 + 1), psh s H.2.1, H.2.2.1, H.2.2.2)
def hyear (s : sc) (v : Nat → Int32) (H : hy) : hy := (H.1, H.2.1, lgs H.2.2.1 (s_yr s + 1) v, max H.2.2.2 (s_yr s + 1))
theorem HW.dist {R : rm} {s : sc} {H : hy} (h : HW R s H) : ∀ i, i < H.1 → s_yr (H.2.1 i) ≤ s_yr s ∧ s_yr s ≤ s_yr (H.2.1 i) + i + 1
  | 0, hi => by have := h.2.1 hi; omega
  | i + 1, hi => by
    have h1 := h.dist i (by omega)
    have h2 := h.2.2.1 i hi
    omega
theorem HW.push {R : rm} {s s' : sc} {H : hy} (h : HW R s H) (hw : s_wf R s) (he : s_yr s' = s_yr s) : HW R s' (hpush s H) := by
  refine ⟨⟨Nat.min_le_left _ _, by rw [he]; exact h.1.2.1, by rw [he]; exact h.1.2.2.1, by rw [he]; exact h.1.2.2.2⟩, fun _ => ⟨by rw [he]; exact Nat.le_refl _, by rw [he]; exact Nat.le_succ _⟩, fun i hi => ?_, fun i hi => ?_⟩
  · have hi' : i + 1 < min 40 (H.1 + 1) := hi
    cases i with
    | zero => exact h.2.1 (by omega)
    | succ i => exact h.2.2.1 i (by omega)
  · have hi' : i < min 40 (H.1 + 1) := hi
    cases i with
    | zero => exact ⟨hw, h.1.2.2.2⟩
    | succ i => exact h.2.2.2 i (by omega)
/-- a year more, the last one being kept -/
theorem HW.year {R : rm} {s s' : sc} {H : hy} {v : Nat → Int32} (h : HW R s H) (hw : s_wf R s) (he : s_yr s' = s_yr s + 1) (hy : s_yr s < 999) : HW R s' (hyear s v (hpush s H)) := by
  refine ⟨⟨Nat.min_le_left _ _, by omega, ?_, ?_⟩, fun _ => ⟨?_, ?_⟩, fun i hi => ?_, fun i hi => ?_⟩
  · rw [he]; exact Nat.le_max_right _ _
  · have := h.1.2.2.2
    show max H.2.2.2 (s_yr s + 1) ≤ _
    omega
  · show s_yr s ≤ _
    omega
  · show _ ≤ s_yr s + 1
    omega
  · have hi' : i + 1 < min 40 (H.1 + 1) := hi
    cases i with
    | zero => exact h.2.1 (by omega)
    | succ i => exact h.2.2.1 i (by omega)
  · have hi' : i < min 40 (H.1 + 1) := hi
    show _ ∧ max H.2.2.2 (s_yr s + 1) ≤ _
    cases i with
    | zero =>
      refine ⟨hw, ?_⟩
      have := h.1.2.2.2
      show max H.2.2.2 (s_yr s + 1) ≤ s_yr s + 40
      omega
    | succ i =>
      have h1 := h.2.2.2 i (by omega)
      have h2 := h.dist i (by omega)
      refine ⟨h1.1, ?_⟩
      show max H.2.2.2 (s_yr s + 1) ≤ s_yr (H.2.1 i) + 40
      have := h1.2
      omega
/-- one undone -/
def hpop (H : hy) : hy := (H.1 - 1, fun i => H.2.1 (i + 1), H.2.2.1, H.2.2.2)
theorem HW.pop {R : rm} {s : sc} {H : hy} (h : HW R s H) (hk : 0 < H.1) : HW R (H.2.1 0) (hpop H) := by
  have h0 := h.2.1 hk
  have h1 := h.2.2.2 0 hk
  have ha := h.1
  refine ⟨⟨by show H.1 - 1 ≤ 40; omega, by omega, by show _ ≤ H.2.2.2; omega, h1.2⟩, fun z => ?_, fun i hi => ?_, fun i hi => ?_⟩
  · have z' : 0 < H.1 - 1 := z
    exact h.2.2.1 0 (by omega)
  · have hi' : i + 1 < H.1 - 1 := hi
    exact h.2.2.1 (i + 1) (by omega)
  · have hi' : i < H.1 - 1 := hi
    exact h.2.2.2 (i + 1) (by omega)
def CHS (S : mj_S) (R : rm) (s : sc) (nx : Nat) (H : hy) (I : imt) : Prop := CHs S R H.1 nx H.2.1 ∧ RG S 76 H.2.2.1 H.2.2.2 (s_yr s) ∧ m_gi S 74 4 = (if I.1 = true then 1 else 0) ∧ (I.1 = true → SVc (m_gi S 77) R I.2.1 ∧ RG S 78 I.2.2.1 I.2.2.2 (s_yr I.2.1))
def RHS (S : mj_S) (R : rm) (s : sc) (H : hy) (I : imt) : Prop := RHk S R H.1 H.2.1 H.2.2.1 ∧ LGr (m_gi S 106) R s H.2.2.1 ∧ m_gi S 89 46 = (if I.1 = true then 1 else 0) ∧ (I.1 = true → LGr (m_gi S 118) R I.2.1 I.2.2.1)
theorem CHS.keep {S S' : mj_S} {R : rm} {s s' : sc} {nx : Nat} {H : hy} {I : imt} (hR : r_wf R) (h : CHS S R s nx H I) (k : ∀ a j, 74 ≤ a → a ≤ 78 → m_gi S' a j = m_gi S a j) (he : s_yr s' = s_yr s) : CHS S' R s' nx H I := by
  refine ⟨h.1.cong hR (k _ _ (by omega) (by omega)) (k _ _ (by omega) (by omega)) (fun j => k _ _ (by omega) (by omega)), ?_, (k _ _ (by omega) (by omega)).trans h.2.2.1, fun z => ⟨(h.2.2.2 z).1.cong hR (fun j _ => k _ _ (by omega) (by omega)), fun y w a b c d => (k _ _ (by omega) (by omega)).trans ((h.2.2.2 z).2 y w a b c d)⟩⟩
  rw [he]
  exact fun y w a b c d => (k _ _ (by omega) (by omega)).trans (h.2.1 y w a b c d)
theorem DC_74 {a j : Nat} (h1 : 74 ≤ a) (h2 : a ≤ 78) : DC a j = false := by
  unfold DC
  have e1 : Nat.ble 79 a = false := by rw [← Bool.not_eq_true, Nat.ble_eq]; omega
  have e2 : Nat.ble a 31 = false := by rw [← Bool.not_eq_true, Nat.ble_eq]; omega
  have e3 : Nat.beq a 23 = false := by rw [← Bool.not_eq_true, Nat.beq_eq]; omega
  rw [e1, e2, e3]; simp
theorem CHS.fr {S S' : mj_S} {R : rm} {s : sc} {nx : Nat} {H : hy} {I : imt} (hR : r_wf R) (h : CHS S R s nx H I) (f : fr DC S S') : CHS S' R s nx H I := h.keep hR (fun a j h1 h2 => f.i a j (DC_74 h1 h2)) rfl
theorem RHS.fr {S S' : mj_S} {R : rm} {s : sc} {H : hy} {I : imt} (hR : r_wf R) (h : RHS S R s H I) (f : fr DR S S') : RHS S' R s H I := by
  refine ⟨⟨⟨(f.i _ _ rfl).trans h.1.1.1, h.1.1.2⟩, fun i hi => (h.1.2 i hi).cong hR (fun j _ => f.i _ _ rfl)⟩, h.2.1.cong hR (fun j _ => f.i _ _ rfl), (f.i _ _ rfl).trans h.2.2.1, fun z => (h.2.2.2 z).cong hR (fun j _ => f.i _ _ rfl)⟩
/-- cells that an act changes -/
def DA (a j : Nat) : Bool := DC a j || (D5 a j || (Nat.ble 74 a && Nat.ble a 76))
theorem DA_of {a j : Nat} (h : DA a j = false) : DC a j = false ∧ D5 a j = false ∧ (a < 74 ∨ 76 < a) := by
  unfold DA at h
  rw [Bool.or_eq_false_iff, Bool.or_eq_false_iff] at h
  refine ⟨h.1, h.2.1, ?_⟩
  have := h.2.2
  rw [← Bool.not_eq_true, Bool.and_eq_true, Nat.ble_eq, Nat.ble_eq] at this
  omega
theorem DC_DA {S S' : mj_S} (f : fr DC S S') : fr DA S S' := f.wid (fun a j h => (DA_of h).1)
theorem D5_DA {S S' : mj_S} (f : fr D5 S S') : fr DA S S' := f.wid (fun a j h => (DA_of h).2.1)
theorem D74_no {a j : Nat} (h : a < 74 ∨ 76 < a) : D74 a j = false := by
  unfold D74
  rw [← Bool.not_eq_true, Bool.or_eq_true, Bool.and_eq_true, Nat.beq_eq, Nat.beq_eq]; omega
theorem D74_DA {S S' : mj_S} (f : fr D74 S S') : fr DA S S' := f.wid (fun a j h => D74_no (DA_of h).2.2)
theorem DY_DA {S S' : mj_S} (f : fr DY S S') : fr DA S S' := f.wid (fun a j h => by
  have := DA_of h
  unfold DY
  rw [this.1]
  have h5 := this.2.1
  unfold D5 at h5
  rw [← Bool.not_eq_true, Bool.or_eq_true, Bool.and_eq_true, Nat.beq_eq, Nat.ble_eq, Nat.ble_eq] at h5
  rw [← Bool.not_eq_true, Bool.or_eq_true, Bool.or_eq_true, Nat.beq_eq]
  intro z
  rcases z with z | z | z
  · cases z
  · rw [DS_no (by omega) (by omega)] at z; cases z
  · omega)
section RM
variable {l : Launch} {G : mj_G} {L r rs nx : Nat} {R : rm} {s : sc} {S : mj_S} {H : hy} {I : imt}
/-- remember, with all of the past -/
theorem s_remember' {Q : mj_S → Prop} (C : CI L S r 50 rs R s) (P : CHS S R s nx H I) (h : ∀ S', fr D74 S S' → CI L S' r 50 rs R s → CHS S' R s ((nx + 1) % 40) (hpush s H) I → Q S') : M_X4_remember l G 74 50 S Q := by
  refine s_remember C P.1 (fun S' f K => h S' f (C.keep ⟨f.1, fun a j q1 q2 => f.i a j (D74_no (by omega)), f.2.2.2⟩) ⟨K, fun y w a b c d => ?_, ?_, fun z => ⟨(P.2.2.2 z).1.cong C.rw (fun j _ => f.i _ _ rfl), fun y w a b c d => (f.i _ _ rfl).trans ((P.2.2.2 z).2 y w a b c d)⟩⟩)
  · exact (f.i _ _ rfl).trans (P.2.1 y w a b c d)
  · exact (f.i _ _ rfl).trans P.2.2.1
theorem ri_112 {S' : mj_S} (C : RI L S R s) (f : fr D112 S S') : RI L S' R s := by
  refine C.upd f.1 f.2.2.2 (fun j h1 h2 => f.i _ _ (by
    unfold D112
    rw [← Bool.not_eq_true, Bool.or_eq_true, Bool.and_eq_true, Nat.beq_eq, Nat.beq_eq, Nat.beq_eq]; omega)) (fun a j h1 h2 h3 => f.i _ _ (by
    unfold D112
    rw [← Bool.not_eq_true, Bool.or_eq_true, Bool.and_eq_true, Nat.beq_eq, Nat.beq_eq, Nat.beq_eq]; omega)) C.sw (C.rs.keep (fun j => f.i _ _ rfl))
theorem s_keep' {Q : mj_S → Prop} (C : RI L S R s) (P : RHS S R s H I) (h : ∀ S', fr D112 S S' → RI L S' R s → RHS S' R s (hpush s H) I → Q S') : M_X11_keep l G 89 S Q := by
  refine s_keep C.sh C.rw P.1 P.2.1 (fun S' f K => h S' f (ri_112 C f) ⟨K, P.2.1.cong C.rw (fun j _ => f.i _ _ rfl), (f.i _ _ rfl).trans P.2.2.1, fun z => (P.2.2.2 z).cong C.rw (fun j _ => f.i _ _ rfl)⟩)
end RM
/-! changes of a scene -/
def setB (s : sc) (b : Int32) : sc := (s.1, b, s.2.2.1, s.2.2.2)
def setP (s : sc) (p q : Nat) : sc := (s.1, s.2.1, fun i => if i = p then q else s.2.2.1 i, s.2.2.2)
def setC (s : sc) (c v : Nat) : sc := (fun i => if i = c then v else s.1 i, s.2.1, s.2.2.1, s.2.2.2)
theorem setB_wf {R : rm} {s : sc} {b : Int32} (h : s_wf R s) (hb : cp_in b (r_nc R)) : s_wf R (setB s b) := ⟨h.1, hb, h.2.2⟩
theorem setP_wf {R : rm} {s : sc} {p q : Nat} (h : s_wf R s) (hq : q < r_n R) : s_wf R (setP s p q) := ⟨h.1, h.2.1, fun i hi => by
  show (if i = p then q else s_pl s i) < _
  split
  · exact hq
  · exact h.pl hi⟩
theorem setC_wf {R : rm} {s : sc} {c v : Nat} (h : s_wf R s) (hv : v ≤ 99) : s_wf R (setC s c v) := ⟨fun i hi => by
  show (if i = c then v else s_cl s i) ≤ _
  split
  · exact hv
  · exact h.cl hi, h.2.1, h.2.2⟩
section ST
variable {L r rs : Nat} {R : rm} {s : sc} {S S' : mj_S}
theorem CI.setB (C : CI L S r 50 rs R s) {b : Int32} (e : S' = m_si S 50 3 b) (hb : cp_in b (r_nc R)) : CI L S' r 50 rs R (setB s b) := by
  have nc := C.rw.nc
  refine C.upd (by rw [e]; rfl) (fun a j => by rw [e]; rfl) (fun a j h1 h2 h3 h4 h5 => by rw [e, m_gi_si, if_neg (fun z => h1 z.1)]) (setB_wf C.sw hb) (fun c hc => ?_) ?_ (fun p hp => ?_) ?_
  · rw [e, m_gi_si, if_neg (by omega)]; exact C.sn.cl hc
  · rw [e, m_gi_si, if_pos ⟨rfl, rfl⟩]; rfl
  · rw [e, m_gi_si, if_neg (by omega)]; exact C.sn.pl hp
  · rw [e, m_gi_si, if_neg (by omega)]; exact C.sn.yr
theorem CI.setP (C : CI L S r 50 rs R s) {p q : Nat} (e : S' = m_si S 61 p (nI q)) (hq : q < r_n R) : CI L S' r 50 rs R (setP s p q) := by
  refine C.upd (by rw [e]; rfl) (fun a j => by rw [e]; rfl) (fun a j h1 h2 h3 h4 h5 => by rw [e, m_gi_si, if_neg (fun z => h3 z.1)]) (setP_wf C.sw hq) (fun c hc => ?_) ?_ (fun i hi => ?_) ?_
  · rw [e, m_gi_si, if_neg (by omega)]; exact C.sn.cl hc
  · rw [e, m_gi_si, if_neg (by omega)]; exact C.sn.bk
  · rw [e, m_gi_si]
    show _ = nI (if i = p then q else s_pl s i)
    by_cases z : i = p
    · rw [if_pos ⟨rfl, z⟩, if_pos z]
    · rw [if_neg (fun y => z y.2), if_neg z]; exact C.sn.pl hi
  · rw [e, m_gi_si, if_neg (by omega)]; exact C.sn.yr
theorem CI.setC (C : CI L S r 50 rs R s) {c v : Nat} (e : S' = m_si S 60 c (nI v)) (hv : v ≤ 99) : CI L S' r 50 rs R (setC s c v) := by
  refine C.upd (by rw [e]; rfl) (fun a j => by rw [e]; rfl) (fun a j h1 h2 h3 h4 h5 => by rw [e, m_gi_si, if_neg (fun z => h2 z.1)]) (setC_wf C.sw hv) (fun i hi => ?_) ?_ (fun p hp => ?_) ?_
  · rw [e, m_gi_si]
    show _ = nI (if i = c then v else s_cl s i)
    by_cases z : i = c
    · rw [if_pos ⟨rfl, z⟩, if_pos z]
    · rw [if_neg (fun y => z y.2), if_neg z]; exact C.sn.cl hi
  · rw [e, m_gi_si, if_neg (by omega)]; exact C.sn.bk
  · rw [e, m_gi_si, if_neg (by omega)]; exact C.sn.pl hp
  · rw [e, m_gi_si, if_neg (by omega)]; exact C.sn.yr
theorem RS.setB (h : RS S R s) (hR : r_wf R) {b : Int32} (e : S' = m_si S 106 10 b) : RS S' R (setB s b) := by
  have nc := hR.nc
  have np := hR.np
  refine ⟨fun c hc => ?_, ?_, fun p hp => ?_, ?_⟩
  · rw [e, m_gi_si, if_neg (by omega)]; exact h.cl hc
  · rw [e, m_gi_si, if_pos ⟨rfl, rfl⟩]; rfl
  · rw [e, m_gi_si, if_neg (by omega)]; exact h.pl hp
  · rw [e, m_gi_si, if_neg (by omega)]; exact h.yr
theorem RS.setP (h : RS S R s) (hR : r_wf R) {p q : Nat} (hp : p < r_np R) (e : S' = m_si S 106 (11 + p) (nI q)) : RS S' R (setP s p q) := by
  have nc := hR.nc
  have np := hR.np
  refine ⟨fun c hc => ?_, ?_, fun i hi => ?_, ?_⟩
  · rw [e, m_gi_si, if_neg (by omega)]; exact h.cl hc
  · rw [e, m_gi_si, if_neg (by omega)]; exact h.bk
  · rw [e, m_gi_si]
    show _ = nI (if i = p then q else s_pl s i)
    by_cases z : i = p
    · rw [if_pos ⟨rfl, by omega⟩, if_pos z]
    · rw [if_neg (fun y => z (by omega)), if_neg z]; exact h.pl hi
  · rw [e, m_gi_si, if_neg (by omega)]; exact h.yr
theorem RS.setC (h : RS S R s) (hR : r_wf R) {c v : Nat} (hc : c < r_nc R) (e : S' = m_si S 106 c (nI v)) : RS S' R (setC s c v) := by
  have nc := hR.nc
  have np := hR.np
  refine ⟨fun i hi => ?_, ?_, fun p hp => ?_, ?_⟩
  · rw [e, m_gi_si]
    show _ = nI (if i = c then v else s_cl s i)
    by_cases z : i = c
    · rw [if_pos ⟨rfl, z⟩, if_pos z]
    · rw [if_neg (fun y => z y.2), if_neg z]; exact h.cl hi
  · rw [e, m_gi_si, if_neg (by omega)]; exact h.bk
  · rw [e, m_gi_si, if_neg (by omega)]; exact h.pl hp
  · rw [e, m_gi_si, if_neg (by omega)]; exact h.yr
/-- a store among the first eighteen leaves the log and the past -/
theorem RHS.set {H : hy} {I : imt} {s' : sc} {j : Nat} {v : Int32} (hR : r_wf R) (P : RHS S R s H I) (e : S' = m_si S 106 j v) (hj : j < 17) (hs : RS S' R s') (he : s_yr s' = s_yr s) : RHS S' R s' H I := by
  have k : ∀ a i, a ≠ 106 → m_gi S' a i = m_gi S a i := fun a i h => by rw [e, m_gi_si, if_neg (fun z => h z.1)]
  have k2 : ∀ i, 17 ≤ i → m_gi S' 106 i = m_gi S 106 i := fun i h => by rw [e, m_gi_si, if_neg (by omega)]
  refine ⟨⟨⟨(k _ _ (by omega)).trans P.1.1.1, P.1.1.2⟩, fun i hi => (P.1.2 i hi).cong hR (fun _ _ => k _ _ (by omega))⟩, ⟨hs, ?_, fun i w hi hw => ?_⟩, (k _ _ (by omega)).trans P.2.2.1, fun z => (P.2.2.2 z).cong hR (fun _ _ => k _ _ (by omega))⟩
  · rw [he]; exact (k2 _ (by omega)).trans P.2.1.2.1
  · rw [he] at hi ⊢
    exact (k2 _ (by omega)).trans (P.2.1.2.2 i w hi hw)
end ST
