/-! feed -/
abbrev tpe : Type := (Nat → Nat) × Nat
def bte (x : Int32) (k : Nat) : Nat := (((x.toUInt32 >>> ((nI (24 - 8 * k)).toUInt32 &&& Int32.toUInt32 31)).toInt32) &&& 255).toNatClampNeg
theorem bte_u (x : Int32) {k : Nat} : (((x.toUInt32 >>> ((nI (24 - 8 * k)).toUInt32 &&& Int32.toUInt32 31)).toInt32) &&& 255) = nI (bte x k) ∧ bte x k < 256 := by
  have hc : cp_in (((x.toUInt32 >>> ((nI (24 - 8 * k)).toUInt32 &&& Int32.toUInt32 31)).toInt32) &&& 255) 8 := by
    intro i hi
    rw [b_and, b_255, Bool.and_eq_true, decide_eq_true_iff] at hi
    exact hi.2
  obtain ⟨m, hm, e⟩ := hc.nI (by omega)
  unfold bte
  rw [e, nI_clamp (by omega)]
  exact ⟨rfl, hm⟩
theorem bte_s (x : Int32) {k : Nat} (hk : k < 4) : (x >>> (nI (24 - 8 * k) &&& 31)) &&& 255 = nI (bte x k) := by
  rw [← (bte_u x).1]
  apply b_ext
  intro i hi
  rw [b_and, b_and, b_255, b_ushr _ (by omega), b_sshr _ (by omega) x hi]
  by_cases h : i < 8
  · rw [if_pos (by omega)]
  · rw [decide_eq_false h]; simp
def apd (T : tpe) (v : Nat) : tpe := if v = 0 then T else (fun i => if i = T.2 then v else T.1 i, T.2 + 1)
def apn (x : Int32) : Nat → tpe → tpe
  | 0, T => T
  | m + 1, T => apn x m (apd T (bte x (3 - m)))
def ctn (x : Int32) : Nat → Nat
  | 0 => 0
  | m + 1 => (if bte x (3 - m) = 0 then 0 else 1) + ctn x m
theorem apd_2 (T : tpe) (v : Nat) : (apd T v).2 = T.2 + (if v = 0 then 0 else 1) := by
  unfold apd
  by_cases h : v = 0
  · rw [if_pos h, if_pos h]; rfl
  · rw [if_neg h, if_neg h]
theorem apn_2 (x : Int32) : ∀ (m : Nat) (T : tpe), (apn x m T).2 = T.2 + ctn x m
  | 0, T => rfl
  | m + 1, T => by
    show (apn x m (apd T (bte x (3 - m)))).2 = _
    rw [apn_2 x m, apd_2]
    show _ = T.2 + ((if bte x (3 - m) = 0 then 0 else 1) + ctn x m)
    omega
theorem ctn_le (x : Int32) : ∀ m, ctn x m ≤ m
  | 0 => Nat.le_refl 0
  | m + 1 => by
    have := ctn_le x m
    show (if bte x (3 - m) = 0 then 0 else 1) + ctn x m ≤ m + 1
    split <;> omega
def tp_ok (T : tpe) : Prop := T.2 ≤ 240 ∧ ∀ i, i < T.2 → T.1 i < 256
theorem tp_apd {T : tpe} {v : Nat} (h : ∀ i, i < T.2 → T.1 i < 256) (hv : v < 256) : ∀ i, i < (apd T v).2 → (apd T v).1 i < 256 := by
  intro i hi
  unfold apd at hi ⊢
  by_cases e : v = 0
  · rw [if_pos e] at hi ⊢; exact h i hi
  · rw [if_neg e] at hi ⊢
    have hi' : i < T.2 + 1 := hi
    show (if i = T.2 then v else T.1 i) < 256
    by_cases q : i = T.2
    · rw [if_pos q]; exact hv
    · rw [if_neg q]; exact h i (by omega)
theorem tp_apn {x : Int32} : ∀ (m : Nat) (T : tpe), (∀ i, i < T.2 → T.1 i < 256) → ∀ i, i < (apn x m T).2 → (apn x m T).1 i < 256
  | 0, T, h => h
  | m + 1, T, h => tp_apn m _ (tp_apd h (bte_u x).2)
def W5 (a b c d e : Int32) (k : Nat) : Int32 := if k = 0 then a else if k = 1 then b else if k = 2 then c else if k = 3 then d else e
def rpn (W : Nat → Int32) : Nat → tpe → tpe
  | 0, T => T
  | m + 1, T => rpn W m (apd T (bte (W ((19 - m) / 4)) ((19 - m) % 4)))
def rcn (W : Nat → Int32) : Nat → Nat
  | 0 => 0
  | m + 1 => (if bte (W ((19 - m) / 4)) ((19 - m) % 4) = 0 then 0 else 1) + rcn W m
def A_feed (a b c d e : Int32) (T : tpe) : tpe := apn e 4 (apn d 4 (apn c 4 (apn b 4 (apn a 4 T))))
def A_fcnt (a b c d e : Int32) : Nat := ctn a 4 + ctn b 4 + ctn c 4 + ctn d 4 + ctn e 4
theorem W5_0 {a b c d e : Int32} : W5 a b c d e 0 = a := rfl
theorem W5_1 {a b c d e : Int32} : W5 a b c d e 1 = b := rfl
theorem W5_2 {a b c d e : Int32} : W5 a b c d e 2 = c := rfl
theorem W5_3 {a b c d e : Int32} : W5 a b c d e 3 = d := rfl
theorem W5_4 {a b c d e : Int32} : W5 a b c d e 4 = e := rfl
theorem rpn_is (a b c d e : Int32) (T : tpe) : rpn (W5 a b c d e) 20 T = A_feed a b c d e T := rfl
theorem rpn_2 (W : Nat → Int32) : ∀ (m : Nat) (T : tpe), (rpn W m T).2 = T.2 + rcn W m
  | 0, T => rfl
  | m + 1, T => by
    show (rpn W m (apd T (bte (W ((19 - m) / 4)) ((19 - m) % 4)))).2 = _
    rw [rpn_2 W m, apd_2]
    show _ = T.2 + ((if bte (W ((19 - m) / 4)) ((19 - m) % 4) = 0 then 0 else 1) + rcn W m)
    omega
theorem A_feed_2 (a b c d e : Int32) (T : tpe) : (A_feed a b c d e T).2 = T.2 + A_fcnt a b c d e := by
  unfold A_feed A_fcnt
  rw [apn_2, apn_2, apn_2, apn_2, apn_2]
  omega
theorem rcn_is (a b c d e : Int32) : rcn (W5 a b c d e) 20 = A_fcnt a b c d e := by
  have h := rpn_2 (W5 a b c d e) 20 (fun _ => 0, 0)
  rw [rpn_is, A_feed_2] at h
  omega
/-- the tape's cells in the class and in the reference -/
def TCf (S : mj_S) (T : tpe) : Prop := m_gi S 6 1 = nI T.2 ∧ ∀ i, i < T.2 → m_gi S 7 i = nI (T.1 i)
def TRf (S : mj_S) (T : tpe) : Prop := m_gi S 89 2 = nI T.2 ∧ ∀ i, i < T.2 → m_gi S 90 i = nI (T.1 i)
def DT7 (a j : Nat) : Bool := (Nat.beq a 6 && Nat.beq j 1) || Nat.beq a 7
def DT90 (a j : Nat) : Bool := (Nat.beq a 89 && Nat.beq j 2) || Nat.beq a 90
section FD
variable {l : Launch} {G : mj_G} {L : Nat}
theorem e8m (m : Nat) (hm : m < 4) : nI (8 * m) + (-8) = nI (8 * m) - 8 := by
  have : ∀ m, m < 4 → nI (8 * m) + (-8) = nI (8 * m) - 8 := by decide +kernel
  exact this m hm
theorem s_bytesInV {x : Int32} {S : mj_S} {Q : mj_S → Int32 → Prop} : ∀ (m : Nat) (c : Nat), m ≤ 4 → Q S (nI (c + ctn x m)) → V_X10_bytesIn_5 l G x (nI c) (nI (8 * m) - 8) S Q
  | 0, c, hm, h => b_X10_bytesIn_5 ⟨fun _ => h, fun z => absurd (by decide) z⟩
  | m + 1, c, hm, h => by
    have e8 : nI (8 * (m + 1)) - 8 = nI (8 * m) := sub_v (w := 8) (by omega)
    have eb := (bte_u x (k := 3 - m))
    rw [show 24 - 8 * (3 - m) = 8 * m by omega] at eb
    have h' : Q S (nI (c + ((if bte x (3 - m) = 0 then 0 else 1) + ctn x m))) := h
    rw [e8]
    refine b_X10_bytesIn_5 ⟨fun z => absurd z (nI_pos (by omega)), fun _ => ?_⟩
    rw [eb.1, nI_e0 (by omega), e8m m (by omega), nI_1]
    refine ⟨fun z v1 e1 => ?_, fun z v2 e2 v3 e3 => ?_⟩
    · rw [if_pos z, Nat.zero_add] at h'
      rw [e1]
      exact s_bytesInV m c (by omega) h'
    · rw [if_neg z] at h'
      rw [e2, e3]
      exact s_bytesInV m (c + 1) (by omega) (by rw [Nat.add_assoc]; exact h')
theorem s_bytesIn {x : Int32} {S : mj_S} {Q : mj_S → Int32 → Prop} (h : Q S (nI (ctn x 4))) : M_X10_bytesIn l G x S Q :=
  e_X10_bytesIn (b_X10_bytesIn_0 (s_bytesInV 4 0 (by omega) (by rw [Nat.zero_add]; exact h)))
theorem s_putV {x : Int32} {Q : mj_S → Prop} : ∀ (m : Nat) (T : tpe) (S : mj_S), m ≤ 4 → T.2 + ctn x m ≤ 240 → Sh L S → TCf S T → (∀ S', fr DT7 S S' → TCf S' (apn x m T) → Q S') → V_X10_put_3 l G 6 x (nI (8 * m) - 8) S Q
  | 0, T, S, hm, hT, hs, K, h => b_X10_put_3 hs.k6 ⟨fun _ => h S fr.rf K, fun z => absurd (by decide) z⟩
  | m + 1, T, S, hm, hT, hs, K, h => by
    have e8 : nI (8 * (m + 1)) - 8 = nI (8 * m) := sub_v (w := 8) (by omega)
    have eb := (bte_u x (k := 3 - m))
    rw [show 24 - 8 * (3 - m) = 8 * m by omega] at eb
    have hT' : T.2 + ((if bte x (3 - m) = 0 then 0 else 1) + ctn x m) ≤ 240 := hT
    have h' : ∀ S', fr DT7 S S' → TCf S' (apn x m (apd T (bte x (3 - m)))) → Q S' := h
    unfold apd at h'
    rw [e8]
    refine b_X10_put_3 hs.k6 ⟨fun z => absurd z (nI_pos (by omega)), fun _ => ?_⟩
    rw [eb.1]
    intro v1 e1
    rw [e1, nI_e0 (by omega), e8m m (by omega), K.1]
    refine ⟨fun z v2 e2 => ?_, fun z => ?_⟩
    · rw [if_pos z, Nat.zero_add] at hT'
      rw [if_pos z] at h'
      rw [e2]
      exact s_putV m T S (by omega) hT' hs K h'
    · rw [if_neg z] at hT' h'
      refine ⟨fun y => absurd y (nI_ge (b := 240) (by omega) (by omega)), fun _ => ⟨7, hs.p6_0, by rw [hs.l7]; exact vp_nI (by omega) (by omega), fun S5 e5 S6 e6 v7 e7 => ?_⟩⟩
      rw [nI_clamp (by omega)] at e5
      have f6 : fr DT7 S S6 := by rw [e6, e5]; exact (fr.si rfl).tr (fr.si rfl)
      rw [e7]
      refine s_putV m (fun i => if i = T.2 then bte x (3 - m) else T.1 i, T.2 + 1) S6 (by omega) (by show T.2 + 1 + ctn x m ≤ 240; omega) (hs.fr f6) ⟨?_, fun i hi => ?_⟩ (fun S' f' => h' S' (f6.tr f'))
      · rw [e6, m_gi_si, if_pos ⟨rfl, rfl⟩, e5, m_gi_si, if_neg (by omega), K.1, nI_1]
      · have hi' : i < T.2 + 1 := hi
        rw [e6, m_gi_si, if_neg (by omega), e5, m_gi_si]
        show _ = nI (if i = T.2 then bte x (3 - m) else T.1 i)
        by_cases q : i = T.2
        · rw [if_pos ⟨rfl, q⟩, if_pos q]
        · rw [if_neg (by omega), if_neg q]; exact K.2 i (by omega)
theorem s_putw {x : Int32} {T : tpe} {S : mj_S} {Q : mj_S → Prop} (hT : T.2 + ctn x 4 ≤ 240) (hs : Sh L S) (K : TCf S T) (h : ∀ S', fr DT7 S S' → TCf S' (apn x 4 T) → Q S') : M_X10_put l G 6 x S Q :=
  e_X10_put (b_X10_put_0 hs.k6 (s_putV 4 T S (by omega) hT hs K h))
theorem c_feed {a b c d e : Int32} {T : tpe} {S : mj_S} {Q : mj_S → Int32 → Prop} (hs : Sh L S) (K : TCf S T) (hT : T.2 ≤ 240) (h1 : T.2 + A_fcnt a b c d e ≤ 240 → ∀ S', fr DT7 S S' → TCf S' (A_feed a b c d e T) → Q S' (nI (T.2 + A_fcnt a b c d e))) (h0 : 240 < T.2 + A_fcnt a b c d e → Q S (-1)) : M_X10_feed l G 6 a b c d e S Q := by
  refine e_X10_feed (b_X10_feed_0 hs.k6 (s_bytesIn (s_bytesIn (s_bytesIn (s_bytesIn (s_bytesIn ?_))))))
  rw [nI_add, nI_add, nI_add, nI_add]
  intro v e1
  have la := ctn_le a 4
  have lb := ctn_le b 4
  have lc := ctn_le c 4
  have ld := ctn_le d 4
  have le := ctn_le e 4
  rw [e1, K.1, nI_add, show (240 : Int32) = nI 240 from rfl, nI_leI (by omega) (by omega)]
  unfold A_fcnt at h1 h0
  refine ⟨fun z => ?_, fun z => h0 (by omega)⟩
  refine s_putw (by omega) hs K (fun S1 f1 K1 => ?_)
  have q1 := apn_2 a 4 T
  refine s_putw (by omega) (hs.fr f1) K1 (fun S2 f2 K2 => ?_)
  have q2 := apn_2 b 4 (apn a 4 T)
  refine s_putw (by omega) (hs.fr (f1.tr f2)) K2 (fun S3 f3 K3 => ?_)
  have q3 := apn_2 c 4 (apn b 4 (apn a 4 T))
  refine s_putw (by omega) (hs.fr ((f1.tr f2).tr f3)) K3 (fun S4 f4 K4 => ?_)
  have q4 := apn_2 d 4 (apn c 4 (apn b 4 (apn a 4 T)))
  refine s_putw (by omega) (hs.fr (((f1.tr f2).tr f3).tr f4)) K4 (fun S5 f5 K5 => ?_)
  have q5 := apn_2 e 4 (apn d 4 (apn c 4 (apn b 4 (apn a 4 T))))
  rw [K5.1, show (apn e 4 (apn d 4 (apn c 4 (apn b 4 (apn a 4 T))))).2 = T.2 + (ctn a 4 + ctn b 4 + ctn c 4 + ctn d 4 + ctn e 4) by omega]
  exact h1 (by omega) S5 ((((f1.tr f2).tr f3).tr f4).tr f5) K5
theorem s_byteOf {a b c d e : Int32} {k : Nat} {S : mj_S} {Q : mj_S → Int32 → Prop} (hk : k < 20) (h : Q S (nI (bte (W5 a b c d e (k / 4)) (k % 4)))) : M_X11_byteOf l G a b c d e (nI k) S Q := by
  have hd := dv_s k (by omega) 4 (by omega) (by omega)
  have hd1 : nI k - nI k / (4 : Int32) * (4 : Int32) = nI (k % 4) := hd.1
  have t45 : ∀ w, w = W5 a b c d e (k / 4) → V_X11_byteOf_45 l G (nI k) w S Q := by
    intro w ew
    refine b_X11_byteOf_45 ⟨by decide, ?_⟩
    rw [hd1, show (8 : Int32) = nI 8 from rfl, show (24 : Int32) = nI 24 from rfl, nI_mul, sub_v (by omega), bte_s w (by omega), ew]
    exact h
  refine e_X11_byteOf (b_X11_byteOf_0 ?_)
  rw [show (4 : Int32) = nI 4 from rfl, show (8 : Int32) = nI 8 from rfl, show (12 : Int32) = nI 12 from rfl, show (16 : Int32) = nI 16 from rfl, nI_leI (by omega) (by omega), nI_leI (by omega) (by omega), nI_leI (by omega) (by omega), nI_leI (by omega) (by omega)]
  refine ⟨fun z1 => ⟨fun z2 => ⟨fun z3 => ⟨fun z4 => t45 e ?_, fun z4 => t45 d ?_⟩, fun z3 => t45 c ?_⟩, fun z2 => t45 b ?_⟩, fun z1 => t45 a ?_⟩
  · rw [show k / 4 = 4 by omega]; rfl
  · rw [show k / 4 = 3 by omega]; rfl
  · rw [show k / 4 = 2 by omega]; rfl
  · rw [show k / 4 = 1 by omega]; rfl
  · rw [show k / 4 = 0 by omega]; rfl
theorem rcn_le (W : Nat → Int32) : ∀ m, rcn W m ≤ m
  | 0 => Nat.le_refl 0
  | m + 1 => by
    have := rcn_le W m
    show (if bte (W ((19 - m) / 4)) ((19 - m) % 4) = 0 then 0 else 1) + rcn W m ≤ m + 1
    split <;> omega
theorem s_rput {a b c d e : Int32} {Q : mj_S → Int32 → Prop} : ∀ (m : Nat) (T : tpe) (S : mj_S), m ≤ 20 → T.2 + rcn (W5 a b c d e) m ≤ 240 → Sh L S → TRf S T → (∀ S', fr DT90 S S' → TRf S' (rpn (W5 a b c d e) m T) → Q S' (nI (T.2 + rcn (W5 a b c d e) m))) → V_X11_feed_62 l G 89 a b c d e (nI (20 - m)) S Q
  | 0, T, S, hm, hT, hs, K, h => by
    refine b_X11_feed_62 hs.k89 ⟨fun _ => ?_, fun z => absurd (by decide) z⟩
    rw [K.1]
    exact h S fr.rf K
  | m + 1, T, S, hm, hT, hs, K, h => by
    have hT' : T.2 + ((if bte (W5 a b c d e ((19 - m) / 4)) ((19 - m) % 4) = 0 then 0 else 1) + rcn (W5 a b c d e) m) ≤ 240 := hT
    have h' : ∀ S', fr DT90 S S' → TRf S' (rpn (W5 a b c d e) m (apd T (bte (W5 a b c d e ((19 - m) / 4)) ((19 - m) % 4)))) → Q S' (nI (T.2 + ((if bte (W5 a b c d e ((19 - m) / 4)) ((19 - m) % 4) = 0 then 0 else 1) + rcn (W5 a b c d e) m))) := h
    unfold apd at h'
    rw [show 20 - (m + 1) = 19 - m by omega]
    refine b_X11_feed_62 hs.k89 ⟨fun z => absurd z (nI_ge (b := 20) (by omega) (by omega)), fun _ => s_byteOf (by omega) ?_⟩
    have hb := (bte_u (W5 a b c d e ((19 - m) / 4)) (k := (19 - m) % 4)).2
    rw [nI_e0 (by omega), K.1, nI_1, show 19 - m + 1 = 20 - m by omega]
    refine ⟨fun z v3 e3 => ?_, fun z => ?_⟩
    · rw [if_pos z, Nat.zero_add] at hT'
      rw [if_pos z, if_pos z, Nat.zero_add] at h'
      rw [e3]
      exact s_rput m T S (by omega) hT' hs K h'
    · rw [if_neg z] at hT'
      rw [if_neg z, if_neg z] at h'
      refine ⟨90, hs.p89_1, by rw [hs.l90]; exact vp_nI (by omega) (by omega), fun S5 e5 S6 e6 v7 e7 => ?_⟩
      rw [nI_clamp (by omega)] at e5
      have f6 : fr DT90 S S6 := by rw [e6, e5]; exact (fr.si rfl).tr (fr.si rfl)
      rw [e7]
      refine s_rput m (fun i => if i = T.2 then bte (W5 a b c d e ((19 - m) / 4)) ((19 - m) % 4) else T.1 i, T.2 + 1) S6 (by omega) (by show T.2 + 1 + rcn (W5 a b c d e) m ≤ 240; omega) (hs.fr f6) ⟨?_, fun i hi => ?_⟩ (fun S' f' K' => ?_)
      · rw [e6, m_gi_si, if_pos ⟨rfl, rfl⟩, e5, m_gi_si, if_neg (by omega), K.1, nI_1]
      · have hi' : i < T.2 + 1 := hi
        rw [e6, m_gi_si, if_neg (by omega), e5, m_gi_si]
        show _ = nI (if i = T.2 then bte (W5 a b c d e ((19 - m) / 4)) ((19 - m) % 4) else T.1 i)
        by_cases q : i = T.2
        · rw [if_pos ⟨rfl, q⟩, if_pos q]
        · rw [if_neg (by omega), if_neg q]; exact K.2 i (by omega)
      · have := h' S' (f6.tr f') K'
        rw [← Nat.add_assoc] at this
        exact this
theorem s_rcnt {a b c d e : Int32} {T : tpe} {S : mj_S} {Q : mj_S → Int32 → Prop} (hs : Sh L S) (K : TRf S T) (hT : T.2 ≤ 240) (h1 : T.2 + rcn (W5 a b c d e) 20 ≤ 240 → V_X11_feed_62 l G 89 a b c d e 0 S Q) (h0 : 240 < T.2 + rcn (W5 a b c d e) 20 → Q S (-1)) : ∀ (m n : Nat), m ≤ 20 → n + rcn (W5 a b c d e) m = rcn (W5 a b c d e) 20 → V_X11_feed_6 l G 89 a b c d e (nI n) (nI (20 - m)) S Q
  | 0, n, hm, hn => by
    have hr := rcn_le (W5 a b c d e) 20
    have hn' : n = rcn (W5 a b c d e) 20 := hn
    refine b_X11_feed_6 hs.k89 ⟨fun _ => ?_, fun z => absurd (by decide) z⟩
    rw [K.1, nI_add, show (240 : Int32) = nI 240 from rfl, nI_leI (by omega) (by omega), hn']
    exact ⟨fun z => h1 z, fun z => h0 (by omega)⟩
  | m + 1, n, hm, hn => by
    have hn' : n + ((if bte (W5 a b c d e ((19 - m) / 4)) ((19 - m) % 4) = 0 then 0 else 1) + rcn (W5 a b c d e) m) = rcn (W5 a b c d e) 20 := hn
    rw [show 20 - (m + 1) = 19 - m by omega]
    refine b_X11_feed_6 hs.k89 ⟨fun z => absurd z (nI_ge (b := 20) (by omega) (by omega)), fun _ => s_byteOf (by omega) ?_⟩
    have hb := (bte_u (W5 a b c d e ((19 - m) / 4)) (k := (19 - m) % 4)).2
    rw [nI_e0 (by omega), nI_1, nI_1, show 19 - m + 1 = 20 - m by omega]
    refine ⟨fun z v3 e3 v4 e4 => ?_, fun z v3 e3 v4 e4 => ?_⟩
    · rw [if_pos z, Nat.zero_add] at hn'
      rw [e3, e4, show nI n + 0 = nI n from nI_add n 0]
      exact s_rcnt hs K hT h1 h0 m n (by omega) hn'
    · rw [if_neg z] at hn'
      rw [e3, e4]
      exact s_rcnt hs K hT h1 h0 m (n + 1) (by omega) (by omega)
theorem d_feed {a b c d e : Int32} {T : tpe} {S : mj_S} {Q : mj_S → Int32 → Prop} (hs : Sh L S) (K : TRf S T) (hT : T.2 ≤ 240) (h1 : T.2 + A_fcnt a b c d e ≤ 240 → ∀ S', fr DT90 S S' → TRf S' (A_feed a b c d e T) → Q S' (nI (T.2 + A_fcnt a b c d e))) (h0 : 240 < T.2 + A_fcnt a b c d e → Q S (-1)) : M_X11_feed l G 89 a b c d e S Q := by
  rw [← rcn_is a b c d e] at h1 h0
  rw [← rpn_is a b c d e T] at h1
  exact e_X11_feed (b_X11_feed_0 hs.k89 (s_rcnt hs K hT (fun z => s_rput 20 T S (by omega) z hs K (h1 z)) h0 20 0 (by omega) (by omega)))
end FD
