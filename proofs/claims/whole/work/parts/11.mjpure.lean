section MJ2
variable {l : Launch} {G : mj_G} {R : Room} {own : String} {cc : ByteArray} {nL : Nat} {rt : Option FieldType} {ini : Bool} {pc : Nat} {ls : List (Option Value)} {st : List Value} {S : mj_S} {k n : Nat} {Q : mj_Z}

theorem mj_iadd {x y : Int32} (hd : decode cc pc = .ok (.iadd, 1)) (kk : mj_V l G R own cc nL rt ini (pc + 1) ls (.int (x + y) :: st) S k n Q) : mj_V l G R own cc nL rt ini pc ls (.int y :: .int x :: st) S k n Q := by
  intro p e s m args below meth c H locs A ad ad0 sh0 rls X
  exact lv_iadd X.hx X.hb hd (kk p e s m args below meth c H locs A ad ad0 sh0 rls (X.stk (mj_okc trivial (mj_okt (mj_okt (X.hst))))))
theorem mj_isub {x y : Int32} (hd : decode cc pc = .ok (.isub, 1)) (kk : mj_V l G R own cc nL rt ini (pc + 1) ls (.int (x - y) :: st) S k n Q) : mj_V l G R own cc nL rt ini pc ls (.int y :: .int x :: st) S k n Q := by
  intro p e s m args below meth c H locs A ad ad0 sh0 rls X
  exact lv_isub X.hx X.hb hd (kk p e s m args below meth c H locs A ad ad0 sh0 rls (X.stk (mj_okc trivial (mj_okt (mj_okt (X.hst))))))
theorem mj_imul {x y : Int32} (hd : decode cc pc = .ok (.imul, 1)) (kk : mj_V l G R own cc nL rt ini (pc + 1) ls (.int (x * y) :: st) S k n Q) : mj_V l G R own cc nL rt ini pc ls (.int y :: .int x :: st) S k n Q := by
  intro p e s m args below meth c H locs A ad ad0 sh0 rls X
  exact lv_imul X.hx X.hb hd (kk p e s m args below meth c H locs A ad ad0 sh0 rls (X.stk (mj_okc trivial (mj_okt (mj_okt (X.hst))))))
theorem mj_iand {x y : Int32} (hd : decode cc pc = .ok (.iand, 1)) (kk : mj_V l G R own cc nL rt ini (pc + 1) ls (.int (x &&& y) :: st) S k n Q) : mj_V l G R own cc nL rt ini pc ls (.int y :: .int x :: st) S k n Q := by
  intro p e s m args below meth c H locs A ad ad0 sh0 rls X
  exact lv_iand X.hx X.hb hd (kk p e s m args below meth c H locs A ad ad0 sh0 rls (X.stk (mj_okc trivial (mj_okt (mj_okt (X.hst))))))
theorem mj_ior {x y : Int32} (hd : decode cc pc = .ok (.ior, 1)) (kk : mj_V l G R own cc nL rt ini (pc + 1) ls (.int (x ||| y) :: st) S k n Q) : mj_V l G R own cc nL rt ini pc ls (.int y :: .int x :: st) S k n Q := by
  intro p e s m args below meth c H locs A ad ad0 sh0 rls X
  exact lv_ior X.hx X.hb hd (kk p e s m args below meth c H locs A ad ad0 sh0 rls (X.stk (mj_okc trivial (mj_okt (mj_okt (X.hst))))))
theorem mj_ixor {x y : Int32} (hd : decode cc pc = .ok (.ixor, 1)) (kk : mj_V l G R own cc nL rt ini (pc + 1) ls (.int (x ^^^ y) :: st) S k n Q) : mj_V l G R own cc nL rt ini pc ls (.int y :: .int x :: st) S k n Q := by
  intro p e s m args below meth c H locs A ad ad0 sh0 rls X
  exact lv_ixor X.hx X.hb hd (kk p e s m args below meth c H locs A ad ad0 sh0 rls (X.stk (mj_okc trivial (mj_okt (mj_okt (X.hst))))))
theorem mj_ishl {x y : Int32} (hd : decode cc pc = .ok (.ishl, 1)) (kk : mj_V l G R own cc nL rt ini (pc + 1) ls (.int (x <<< (y &&& 31)) :: st) S k n Q) : mj_V l G R own cc nL rt ini pc ls (.int y :: .int x :: st) S k n Q := by
  intro p e s m args below meth c H locs A ad ad0 sh0 rls X
  exact lv_ishl X.hx X.hb hd (kk p e s m args below meth c H locs A ad ad0 sh0 rls (X.stk (mj_okc trivial (mj_okt (mj_okt (X.hst))))))
theorem mj_ishr {x y : Int32} (hd : decode cc pc = .ok (.ishr, 1)) (kk : mj_V l G R own cc nL rt ini (pc + 1) ls (.int (x >>> (y &&& 31)) :: st) S k n Q) : mj_V l G R own cc nL rt ini pc ls (.int y :: .int x :: st) S k n Q := by
  intro p e s m args below meth c H locs A ad ad0 sh0 rls X
  exact lv_ishr X.hx X.hb hd (kk p e s m args below meth c H locs A ad ad0 sh0 rls (X.stk (mj_okc trivial (mj_okt (mj_okt (X.hst))))))
theorem mj_iushr {x y : Int32} (hd : decode cc pc = .ok (.iushr, 1)) (kk : mj_V l G R own cc nL rt ini (pc + 1) ls (.int ((x.toUInt32 >>> (y.toUInt32 &&& Int32.toUInt32 31)).toInt32) :: st) S k n Q) : mj_V l G R own cc nL rt ini pc ls (.int y :: .int x :: st) S k n Q := by
  intro p e s m args below meth c H locs A ad ad0 sh0 rls X
  exact lv_iushr X.hx X.hb hd rfl (kk p e s m args below meth c H locs A ad ad0 sh0 rls (X.stk (mj_okc trivial (mj_okt (mj_okt (X.hst))))))
theorem mj_idiv {x y : Int32} (hd : decode cc pc = .ok (.idiv, 1)) (h0 : ¬ y = 0) (kk : mj_V l G R own cc nL rt ini (pc + 1) ls (.int (x / y) :: st) S k n Q) : mj_V l G R own cc nL rt ini pc ls (.int y :: .int x :: st) S k n Q := by
  intro p e s m args below meth c H locs A ad ad0 sh0 rls X
  exact lv_idiv X.hx X.hb hd h0 (kk p e s m args below meth c H locs A ad ad0 sh0 rls (X.stk (mj_okc trivial (mj_okt (mj_okt (X.hst))))))
theorem mj_irem {x y : Int32} (hd : decode cc pc = .ok (.irem, 1)) (h0 : ¬ y = 0) (kk : mj_V l G R own cc nL rt ini (pc + 1) ls (.int (x - x / y * y) :: st) S k n Q) : mj_V l G R own cc nL rt ini pc ls (.int y :: .int x :: st) S k n Q := by
  intro p e s m args below meth c H locs A ad ad0 sh0 rls X
  exact lv_irem X.hx X.hb hd h0 (kk p e s m args below meth c H locs A ad ad0 sh0 rls (X.stk (mj_okc trivial (mj_okt (mj_okt (X.hst))))))
theorem mj_ineg {x : Int32} (hd : decode cc pc = .ok (.ineg, 1)) (kk : mj_V l G R own cc nL rt ini (pc + 1) ls (.int (-x) :: st) S k n Q) : mj_V l G R own cc nL rt ini pc ls (.int x :: st) S k n Q := by
  intro p e s m args below meth c H locs A ad ad0 sh0 rls X
  exact lv_ineg X.hx X.hb hd (kk p e s m args below meth c H locs A ad ad0 sh0 rls (X.stk (mj_okc trivial (mj_okt (X.hst)))))
theorem mj_ladd {x y : Int64} (hd : decode cc pc = .ok (.ladd, 1)) (kk : mj_V l G R own cc nL rt ini (pc + 1) ls (.long (x + y) :: st) S k n Q) : mj_V l G R own cc nL rt ini pc ls (.long y :: .long x :: st) S k n Q := by
  intro p e s m args below meth c H locs A ad ad0 sh0 rls X
  exact lv_ladd X.hx X.hb hd (kk p e s m args below meth c H locs A ad ad0 sh0 rls (X.stk (mj_okc trivial (mj_okt (mj_okt (X.hst))))))
theorem mj_lsub {x y : Int64} (hd : decode cc pc = .ok (.lsub, 1)) (kk : mj_V l G R own cc nL rt ini (pc + 1) ls (.long (x - y) :: st) S k n Q) : mj_V l G R own cc nL rt ini pc ls (.long y :: .long x :: st) S k n Q := by
  intro p e s m args below meth c H locs A ad ad0 sh0 rls X
  exact lv_lsub X.hx X.hb hd (kk p e s m args below meth c H locs A ad ad0 sh0 rls (X.stk (mj_okc trivial (mj_okt (mj_okt (X.hst))))))
theorem mj_lmul {x y : Int64} (hd : decode cc pc = .ok (.lmul, 1)) (kk : mj_V l G R own cc nL rt ini (pc + 1) ls (.long (x * y) :: st) S k n Q) : mj_V l G R own cc nL rt ini pc ls (.long y :: .long x :: st) S k n Q := by
  intro p e s m args below meth c H locs A ad ad0 sh0 rls X
  exact lv_lmul X.hx X.hb hd (kk p e s m args below meth c H locs A ad ad0 sh0 rls (X.stk (mj_okc trivial (mj_okt (mj_okt (X.hst))))))
theorem mj_land {x y : Int64} (hd : decode cc pc = .ok (.land, 1)) (kk : mj_V l G R own cc nL rt ini (pc + 1) ls (.long (x &&& y) :: st) S k n Q) : mj_V l G R own cc nL rt ini pc ls (.long y :: .long x :: st) S k n Q := by
  intro p e s m args below meth c H locs A ad ad0 sh0 rls X
  exact lv_land X.hx X.hb hd (kk p e s m args below meth c H locs A ad ad0 sh0 rls (X.stk (mj_okc trivial (mj_okt (mj_okt (X.hst))))))
theorem mj_lor {x y : Int64} (hd : decode cc pc = .ok (.lor, 1)) (kk : mj_V l G R own cc nL rt ini (pc + 1) ls (.long (x ||| y) :: st) S k n Q) : mj_V l G R own cc nL rt ini pc ls (.long y :: .long x :: st) S k n Q := by
  intro p e s m args below meth c H locs A ad ad0 sh0 rls X
  exact lv_lor X.hx X.hb hd (kk p e s m args below meth c H locs A ad ad0 sh0 rls (X.stk (mj_okc trivial (mj_okt (mj_okt (X.hst))))))
theorem mj_ldiv {x y : Int64} (hd : decode cc pc = .ok (.ldiv, 1)) (h0 : ¬ y = 0) (kk : mj_V l G R own cc nL rt ini (pc + 1) ls (.long (x / y) :: st) S k n Q) : mj_V l G R own cc nL rt ini pc ls (.long y :: .long x :: st) S k n Q := by
  intro p e s m args below meth c H locs A ad ad0 sh0 rls X
  exact lv_ldiv X.hx X.hb hd h0 (kk p e s m args below meth c H locs A ad ad0 sh0 rls (X.stk (mj_okc trivial (mj_okt (mj_okt (X.hst))))))
theorem mj_lrem {x y : Int64} (hd : decode cc pc = .ok (.lrem, 1)) (h0 : ¬ y = 0) (kk : mj_V l G R own cc nL rt ini (pc + 1) ls (.long (x - x / y * y) :: st) S k n Q) : mj_V l G R own cc nL rt ini pc ls (.long y :: .long x :: st) S k n Q := by
  intro p e s m args below meth c H locs A ad ad0 sh0 rls X
  exact lv_lrem X.hx X.hb hd h0 (kk p e s m args below meth c H locs A ad ad0 sh0 rls (X.stk (mj_okc trivial (mj_okt (mj_okt (X.hst))))))
theorem mj_lcmp {x y : Int64} (hd : decode cc pc = .ok (.lcmp, 1)) (kk : mj_V l G R own cc nL rt ini (pc + 1) ls (.int (lg_cmp x y) :: st) S k n Q) : mj_V l G R own cc nL rt ini pc ls (.long y :: .long x :: st) S k n Q := by
  intro p e s m args below meth c H locs A ad ad0 sh0 rls X
  exact W.lcmp X.hx X.hb hd (kk p e s m args below meth c H locs A ad ad0 sh0 rls (X.stk (mj_okc trivial (mj_okt (mj_okt (X.hst))))))
theorem mj_i2l {x : Int32} (hd : decode cc pc = .ok (.i2l, 1)) (kk : mj_V l G R own cc nL rt ini (pc + 1) ls (.long x.toInt64 :: st) S k n Q) : mj_V l G R own cc nL rt ini pc ls (.int x :: st) S k n Q := by
  intro p e s m args below meth c H locs A ad ad0 sh0 rls X
  exact lv_i2l X.hx X.hb hd rfl (kk p e s m args below meth c H locs A ad ad0 sh0 rls (X.stk (mj_okc trivial (mj_okt (X.hst)))))
theorem mj_l2i {x : Int64} (hd : decode cc pc = .ok (.l2i, 1)) (kk : mj_V l G R own cc nL rt ini (pc + 1) ls (.int x.toInt32 :: st) S k n Q) : mj_V l G R own cc nL rt ini pc ls (.long x :: st) S k n Q := by
  intro p e s m args below meth c H locs A ad ad0 sh0 rls X
  exact lv_l2i X.hx X.hb hd rfl (kk p e s m args below meth c H locs A ad ad0 sh0 rls (X.stk (mj_okc trivial (mj_okt (X.hst)))))
theorem mj_lushr {x : Int64} {y : Int32} (hd : decode cc pc = .ok (.lushr, 1)) (kk : mj_V l G R own cc nL rt ini (pc + 1) ls (.long ((x.toUInt64 >>> (y.toInt64.toUInt64 &&& Int64.toUInt64 63)).toInt64) :: st) S k n Q) : mj_V l G R own cc nL rt ini pc ls (.int y :: .long x :: st) S k n Q := by
  intro p e s m args below meth c H locs A ad ad0 sh0 rls X
  exact lv_lushr X.hx X.hb hd rfl (kk p e s m args below meth c H locs A ad ad0 sh0 rls (X.stk (mj_okc trivial (mj_okt (mj_okt (X.hst))))))
theorem mj_lshl {x : Int64} {y : Int32} (hd : decode cc pc = .ok (.lshl, 1)) (kk : mj_V l G R own cc nL rt ini (pc + 1) ls (.long (x <<< (y.toInt64 &&& 63)) :: st) S k n Q) : mj_V l G R own cc nL rt ini pc ls (.int y :: .long x :: st) S k n Q := by
  intro p e s m args below meth c H locs A ad ad0 sh0 rls X
  exact lv_lshl X.hx X.hb hd rfl (kk p e s m args below meth c H locs A ad ad0 sh0 rls (X.stk (mj_okc trivial (mj_okt (mj_okt (X.hst))))))
theorem mj_iconst {z : Int} {v : Int32} (hd : decode cc pc = .ok (.iconst z, 1)) (hv : Int32.ofInt z = v) (kk : mj_V l G R own cc nL rt ini (pc + 1) ls (.int v :: st) S k n Q) : mj_V l G R own cc nL rt ini pc ls (st) S k n Q := by
  intro p e s m args below meth c H locs A ad ad0 sh0 rls X
  exact lv_iconst X.hx X.hb hd hv (kk p e s m args below meth c H locs A ad ad0 sh0 rls (X.stk (mj_okc trivial (X.hst))))
theorem mj_bipush {z : Int} {v : Int32} (hd : decode cc pc = .ok (.bipush z, 2)) (hv : (Int8.ofInt z).toInt32 = v) (kk : mj_V l G R own cc nL rt ini (pc + 2) ls (.int v :: st) S k n Q) : mj_V l G R own cc nL rt ini pc ls (st) S k n Q := by
  intro p e s m args below meth c H locs A ad ad0 sh0 rls X
  exact lv_bipush X.hx X.hb hd hv (kk p e s m args below meth c H locs A ad ad0 sh0 rls (X.stk (mj_okc trivial (X.hst))))
theorem mj_sipush {z : Int} {v : Int32} (hd : decode cc pc = .ok (.sipush z, 3)) (hv : (Int16.ofInt z).toInt32 = v) (kk : mj_V l G R own cc nL rt ini (pc + 3) ls (.int v :: st) S k n Q) : mj_V l G R own cc nL rt ini pc ls (st) S k n Q := by
  intro p e s m args below meth c H locs A ad ad0 sh0 rls X
  exact lv_sipush X.hx X.hb hd hv (kk p e s m args below meth c H locs A ad ad0 sh0 rls (X.stk (mj_okc trivial (X.hst))))
theorem mj_lconst {z : Fin 2} {v : Int64} (hd : decode cc pc = .ok (.lconst z, 1)) (hv : Int64.ofNat (z : Nat) = v) (kk : mj_V l G R own cc nL rt ini (pc + 1) ls (.long v :: st) S k n Q) : mj_V l G R own cc nL rt ini pc ls (st) S k n Q := by
  intro p e s m args below meth c H locs A ad ad0 sh0 rls X
  exact lv_lconst X.hx X.hb hd hv (kk p e s m args below meth c H locs A ad ad0 sh0 rls (X.stk (mj_okc trivial (X.hst))))
theorem mj_ldcw {index : Nat} {v : Int32} (hd : decode cc pc = .ok (.ldc_w index, 3)) (hc : Cond.constant own index v ∈ mj_T) (kk : mj_V l G R own cc nL rt ini (pc + 3) ls (.int v :: st) S k n Q) : mj_V l G R own cc nL rt ini pc ls st S k n Q := by
  intro p e s m args below meth c H locs A ad ad0 sh0 rls X
  exact lv_ldcw X.hx X.hb X.hown (X.hts _ hc) hd (kk p e s m args below meth c H locs A ad ad0 sh0 rls (X.stk (mj_okc trivial X.hst)))
theorem mj_ldc {index : Nat} {v : Int32} (hd : decode cc pc = .ok (.ldc index, 2)) (hc : Cond.constant own index v ∈ mj_T) (kk : mj_V l G R own cc nL rt ini (pc + 2) ls (.int v :: st) S k n Q) : mj_V l G R own cc nL rt ini pc ls st S k n Q := by
  intro p e s m args below meth c H locs A ad ad0 sh0 rls X
  exact lv_ldc X.hx X.hb X.hown (X.hts _ hc) hd (kk p e s m args below meth c H locs A ad ad0 sh0 rls (X.stk (mj_okc trivial X.hst)))
theorem mj_ldc2 {index : Nat} {v : Int64} (hd : decode cc pc = .ok (.ldc2_w index, 3)) (hc : Cond.constantLong own index v ∈ mj_T) (kk : mj_V l G R own cc nL rt ini (pc + 3) ls (.long v :: st) S k n Q) : mj_V l G R own cc nL rt ini pc ls st S k n Q := by
  intro p e s m args below meth c H locs A ad ad0 sh0 rls X
  exact lv_ldc2 X.hx X.hb X.hown (X.hts _ hc) hd (kk p e s m args below meth c H locs A ad ad0 sh0 rls (X.stk (mj_okc trivial X.hst)))
theorem mj_if_eq {x : Int32} {off : Int} {tgt : Nat} (hd : decode cc pc = .ok (.ifCond .eq off, 3)) (ht : (pc : Int) + off = (tgt : Int)) (kk : (x = 0 → mj_V l G R own cc nL rt ini tgt ls st S k n Q) ∧ (¬ (x = 0) → mj_V l G R own cc nL rt ini (pc + 3) ls st S k n Q)) : mj_V l G R own cc nL rt ini pc ls (.int x :: st) S k n Q := by
  intro p e s m args below meth c H locs A ad ad0 sh0 rls X
  exact lv_if_eq X.hx X.hb hd ht (fun h => kk.1 h p e s m args below meth c H locs A ad ad0 sh0 rls (X.stk (mj_okt X.hst))) (fun h => kk.2 h p e s m args below meth c H locs A ad ad0 sh0 rls (X.stk (mj_okt X.hst)))
theorem mj_icmp_eq {x y : Int32} {off : Int} {tgt : Nat} (hd : decode cc pc = .ok (.if_icmp .eq off, 3)) (ht : (pc : Int) + off = (tgt : Int)) (kk : (x = y → mj_V l G R own cc nL rt ini tgt ls st S k n Q) ∧ (¬ (x = y) → mj_V l G R own cc nL rt ini (pc + 3) ls st S k n Q)) : mj_V l G R own cc nL rt ini pc ls (.int y :: .int x :: st) S k n Q := by
  intro p e s m args below meth c H locs A ad ad0 sh0 rls X
  exact lv_icmp_eq X.hx X.hb hd ht (fun h => kk.1 h p e s m args below meth c H locs A ad ad0 sh0 rls (X.stk (mj_okt (mj_okt X.hst)))) (fun h => kk.2 h p e s m args below meth c H locs A ad ad0 sh0 rls (X.stk (mj_okt (mj_okt X.hst))))
theorem mj_if_ne {x : Int32} {off : Int} {tgt : Nat} (hd : decode cc pc = .ok (.ifCond .ne off, 3)) (ht : (pc : Int) + off = (tgt : Int)) (kk : (¬ x = 0 → mj_V l G R own cc nL rt ini tgt ls st S k n Q) ∧ (x = 0 → mj_V l G R own cc nL rt ini (pc + 3) ls st S k n Q)) : mj_V l G R own cc nL rt ini pc ls (.int x :: st) S k n Q := by
  intro p e s m args below meth c H locs A ad ad0 sh0 rls X
  exact lv_if_ne X.hx X.hb hd ht (fun h => kk.1 h p e s m args below meth c H locs A ad ad0 sh0 rls (X.stk (mj_okt X.hst))) (fun h => kk.2 h p e s m args below meth c H locs A ad ad0 sh0 rls (X.stk (mj_okt X.hst)))
theorem mj_icmp_ne {x y : Int32} {off : Int} {tgt : Nat} (hd : decode cc pc = .ok (.if_icmp .ne off, 3)) (ht : (pc : Int) + off = (tgt : Int)) (kk : (¬ x = y → mj_V l G R own cc nL rt ini tgt ls st S k n Q) ∧ (x = y → mj_V l G R own cc nL rt ini (pc + 3) ls st S k n Q)) : mj_V l G R own cc nL rt ini pc ls (.int y :: .int x :: st) S k n Q := by
  intro p e s m args below meth c H locs A ad ad0 sh0 rls X
  exact lv_icmp_ne X.hx X.hb hd ht (fun h => kk.1 h p e s m args below meth c H locs A ad ad0 sh0 rls (X.stk (mj_okt (mj_okt X.hst)))) (fun h => kk.2 h p e s m args below meth c H locs A ad ad0 sh0 rls (X.stk (mj_okt (mj_okt X.hst))))
theorem mj_if_lt {x : Int32} {off : Int} {tgt : Nat} (hd : decode cc pc = .ok (.ifCond .lt off, 3)) (ht : (pc : Int) + off = (tgt : Int)) (kk : (x < 0 → mj_V l G R own cc nL rt ini tgt ls st S k n Q) ∧ (¬ (x < 0) → mj_V l G R own cc nL rt ini (pc + 3) ls st S k n Q)) : mj_V l G R own cc nL rt ini pc ls (.int x :: st) S k n Q := by
  intro p e s m args below meth c H locs A ad ad0 sh0 rls X
  exact lv_if_lt X.hx X.hb hd ht (fun h => kk.1 h p e s m args below meth c H locs A ad ad0 sh0 rls (X.stk (mj_okt X.hst))) (fun h => kk.2 h p e s m args below meth c H locs A ad ad0 sh0 rls (X.stk (mj_okt X.hst)))
theorem mj_icmp_lt {x y : Int32} {off : Int} {tgt : Nat} (hd : decode cc pc = .ok (.if_icmp .lt off, 3)) (ht : (pc : Int) + off = (tgt : Int)) (kk : (x < y → mj_V l G R own cc nL rt ini tgt ls st S k n Q) ∧ (¬ (x < y) → mj_V l G R own cc nL rt ini (pc + 3) ls st S k n Q)) : mj_V l G R own cc nL rt ini pc ls (.int y :: .int x :: st) S k n Q := by
  intro p e s m args below meth c H locs A ad ad0 sh0 rls X
  exact lv_icmp_lt X.hx X.hb hd ht (fun h => kk.1 h p e s m args below meth c H locs A ad ad0 sh0 rls (X.stk (mj_okt (mj_okt X.hst)))) (fun h => kk.2 h p e s m args below meth c H locs A ad ad0 sh0 rls (X.stk (mj_okt (mj_okt X.hst))))
theorem mj_if_ge {x : Int32} {off : Int} {tgt : Nat} (hd : decode cc pc = .ok (.ifCond .ge off, 3)) (ht : (pc : Int) + off = (tgt : Int)) (kk : (0 ≤ x → mj_V l G R own cc nL rt ini tgt ls st S k n Q) ∧ (¬ (0 ≤ x) → mj_V l G R own cc nL rt ini (pc + 3) ls st S k n Q)) : mj_V l G R own cc nL rt ini pc ls (.int x :: st) S k n Q := by
  intro p e s m args below meth c H locs A ad ad0 sh0 rls X
  exact lv_if_ge X.hx X.hb hd ht (fun h => kk.1 h p e s m args below meth c H locs A ad ad0 sh0 rls (X.stk (mj_okt X.hst))) (fun h => kk.2 h p e s m args below meth c H locs A ad ad0 sh0 rls (X.stk (mj_okt X.hst)))
theorem mj_icmp_ge {x y : Int32} {off : Int} {tgt : Nat} (hd : decode cc pc = .ok (.if_icmp .ge off, 3)) (ht : (pc : Int) + off = (tgt : Int)) (kk : (y ≤ x → mj_V l G R own cc nL rt ini tgt ls st S k n Q) ∧ (¬ (y ≤ x) → mj_V l G R own cc nL rt ini (pc + 3) ls st S k n Q)) : mj_V l G R own cc nL rt ini pc ls (.int y :: .int x :: st) S k n Q := by
  intro p e s m args below meth c H locs A ad ad0 sh0 rls X
  exact lv_icmp_ge X.hx X.hb hd ht (fun h => kk.1 h p e s m args below meth c H locs A ad ad0 sh0 rls (X.stk (mj_okt (mj_okt X.hst)))) (fun h => kk.2 h p e s m args below meth c H locs A ad ad0 sh0 rls (X.stk (mj_okt (mj_okt X.hst))))
theorem mj_if_gt {x : Int32} {off : Int} {tgt : Nat} (hd : decode cc pc = .ok (.ifCond .gt off, 3)) (ht : (pc : Int) + off = (tgt : Int)) (kk : (0 < x → mj_V l G R own cc nL rt ini tgt ls st S k n Q) ∧ (¬ (0 < x) → mj_V l G R own cc nL rt ini (pc + 3) ls st S k n Q)) : mj_V l G R own cc nL rt ini pc ls (.int x :: st) S k n Q := by
  intro p e s m args below meth c H locs A ad ad0 sh0 rls X
  exact lv_if_gt X.hx X.hb hd ht (fun h => kk.1 h p e s m args below meth c H locs A ad ad0 sh0 rls (X.stk (mj_okt X.hst))) (fun h => kk.2 h p e s m args below meth c H locs A ad ad0 sh0 rls (X.stk (mj_okt X.hst)))
theorem mj_icmp_gt {x y : Int32} {off : Int} {tgt : Nat} (hd : decode cc pc = .ok (.if_icmp .gt off, 3)) (ht : (pc : Int) + off = (tgt : Int)) (kk : (y < x → mj_V l G R own cc nL rt ini tgt ls st S k n Q) ∧ (¬ (y < x) → mj_V l G R own cc nL rt ini (pc + 3) ls st S k n Q)) : mj_V l G R own cc nL rt ini pc ls (.int y :: .int x :: st) S k n Q := by
  intro p e s m args below meth c H locs A ad ad0 sh0 rls X
  exact lv_icmp_gt X.hx X.hb hd ht (fun h => kk.1 h p e s m args below meth c H locs A ad ad0 sh0 rls (X.stk (mj_okt (mj_okt X.hst)))) (fun h => kk.2 h p e s m args below meth c H locs A ad ad0 sh0 rls (X.stk (mj_okt (mj_okt X.hst))))
theorem mj_if_le {x : Int32} {off : Int} {tgt : Nat} (hd : decode cc pc = .ok (.ifCond .le off, 3)) (ht : (pc : Int) + off = (tgt : Int)) (kk : (x ≤ 0 → mj_V l G R own cc nL rt ini tgt ls st S k n Q) ∧ (¬ (x ≤ 0) → mj_V l G R own cc nL rt ini (pc + 3) ls st S k n Q)) : mj_V l G R own cc nL rt ini pc ls (.int x :: st) S k n Q := by
  intro p e s m args below meth c H locs A ad ad0 sh0 rls X
  exact lv_if_le X.hx X.hb hd ht (fun h => kk.1 h p e s m args below meth c H locs A ad ad0 sh0 rls (X.stk (mj_okt X.hst))) (fun h => kk.2 h p e s m args below meth c H locs A ad ad0 sh0 rls (X.stk (mj_okt X.hst)))
theorem mj_icmp_le {x y : Int32} {off : Int} {tgt : Nat} (hd : decode cc pc = .ok (.if_icmp .le off, 3)) (ht : (pc : Int) + off = (tgt : Int)) (kk : (x ≤ y → mj_V l G R own cc nL rt ini tgt ls st S k n Q) ∧ (¬ (x ≤ y) → mj_V l G R own cc nL rt ini (pc + 3) ls st S k n Q)) : mj_V l G R own cc nL rt ini pc ls (.int y :: .int x :: st) S k n Q := by
  intro p e s m args below meth c H locs A ad ad0 sh0 rls X
  exact lv_icmp_le X.hx X.hb hd ht (fun h => kk.1 h p e s m args below meth c H locs A ad ad0 sh0 rls (X.stk (mj_okt (mj_okt X.hst)))) (fun h => kk.2 h p e s m args below meth c H locs A ad ad0 sh0 rls (X.stk (mj_okt (mj_okt X.hst))))
theorem mj_goto {off : Int} {tgt : Nat} (hd : decode cc pc = .ok (.goto off, 3)) (ht : (pc : Int) + off = (tgt : Int)) (kk : mj_V l G R own cc nL rt ini tgt ls st S k n Q) : mj_V l G R own cc nL rt ini pc ls st S k n Q := by
  intro p e s m args below meth c H locs A ad ad0 sh0 rls X
  exact lv_goto X.hx X.hb hd ht (kk p e s m args below meth c H locs A ad ad0 sh0 rls X)
theorem mj_cvc (ad : Nat → Nat) (v : Value) : (mj_cv ad v).category = v.category := by cases v <;> rfl
theorem mj_dup {v : Value} (hd : decode cc pc = .ok (.dup, 1)) (hv : v.category = 1) (kk : mj_V l G R own cc nL rt ini (pc + 1) ls (v :: v :: st) S k n Q) : mj_V l G R own cc nL rt ini pc ls (v :: st) S k n Q := by
  intro p e s m args below meth c H locs A ad ad0 sh0 rls X
  exact lv_dup X.hx X.hb hd ((mj_cvc ad v).trans hv) (kk p e s m args below meth c H locs A ad ad0 sh0 rls (X.stk (mj_okc (mj_okh X.hst) X.hst)))
theorem mj_pop {v : Value} (hd : decode cc pc = .ok (.pop, 1)) (hv : v.category = 1) (kk : mj_V l G R own cc nL rt ini (pc + 1) ls st S k n Q) : mj_V l G R own cc nL rt ini pc ls (v :: st) S k n Q := by
  intro p e s m args below meth c H locs A ad ad0 sh0 rls X
  exact lv_pop X.hx X.hb hd ((mj_cvc ad v).trans hv) (kk p e s m args below meth c H locs A ad ad0 sh0 rls (X.stk (mj_okt X.hst)))
theorem mj_dup_x1 {v w : Value} (hd : decode cc pc = .ok (.dup_x1, 1)) (hv : v.category = 1) (hw : w.category = 1) (kk : mj_V l G R own cc nL rt ini (pc + 1) ls (v :: w :: v :: st) S k n Q) : mj_V l G R own cc nL rt ini pc ls (v :: w :: st) S k n Q := by
  intro p e s m args below meth c H locs A ad ad0 sh0 rls X
  exact lv_dup_x1 X.hx X.hb hd ((mj_cvc ad v).trans hv) ((mj_cvc ad w).trans hw) (kk p e s m args below meth c H locs A ad ad0 sh0 rls (X.stk (mj_okc (mj_okh X.hst) (mj_okc (mj_okh (mj_okt X.hst)) (mj_okc (mj_okh X.hst) (mj_okt (mj_okt X.hst)))))))
theorem mj_dup2 {v w : Value} (hd : decode cc pc = .ok (.dup2, 1)) (hv : v.category = 1) (hw : w.category = 1) (kk : mj_V l G R own cc nL rt ini (pc + 1) ls (v :: w :: v :: w :: st) S k n Q) : mj_V l G R own cc nL rt ini pc ls (v :: w :: st) S k n Q := by
  intro p e s m args below meth c H locs A ad ad0 sh0 rls X
  exact lv_dup2_11 X.hx X.hb hd ((mj_cvc ad v).trans hv) ((mj_cvc ad w).trans hw) (kk p e s m args below meth c H locs A ad ad0 sh0 rls (X.stk (mj_okc (mj_okh X.hst) (mj_okc (mj_okh (mj_okt X.hst)) X.hst))))
theorem mj_nmi {x : Int32} (kk : ∀ y : Int32, y = x → mj_V l G R own cc nL rt ini pc ls (.int y :: st) S k n Q) : mj_V l G R own cc nL rt ini pc ls (.int x :: st) S k n Q := kk x rfl
theorem mj_nml {x : Int64} (kk : ∀ y : Int64, y = x → mj_V l G R own cc nL rt ini pc ls (.long y :: st) S k n Q) : mj_V l G R own cc nL rt ini pc ls (.long x :: st) S k n Q := kk x rfl
theorem mj_iload_n {j : Fin 4} {i : Nat} {x : Int32} (hd : decode cc pc = .ok (.iload_n j, 1)) (hi : (j : Nat) = i) (h : ls[i]? = some (some (.int x))) (kk : mj_V l G R own cc nL rt ini (pc + 1) ls (.int x :: st) S k n Q) : mj_V l G R own cc nL rt ini pc ls st S k n Q := by
  intro p e s m args below meth c H locs A ad ad0 sh0 rls X
  exact lv_iload_n X.hx X.hb hd hi (X.hlv _ _ h) (kk p e s m args below meth c H locs A ad ad0 sh0 rls (X.stk (mj_okc (trivial) X.hst)))
theorem mj_iload {i : Nat} {x : Int32} (hd : decode cc pc = .ok (.iload i, 2)) (h : ls[i]? = some (some (.int x))) (kk : mj_V l G R own cc nL rt ini (pc + 2) ls (.int x :: st) S k n Q) : mj_V l G R own cc nL rt ini pc ls st S k n Q := by
  intro p e s m args below meth c H locs A ad ad0 sh0 rls X
  exact lv_iload X.hx X.hb hd (X.hlv _ _ h) (kk p e s m args below meth c H locs A ad ad0 sh0 rls (X.stk (mj_okc (trivial) X.hst)))
theorem mj_lload_n {j : Fin 4} {i : Nat} {x : Int64} (hd : decode cc pc = .ok (.lload_n j, 1)) (hi : (j : Nat) = i) (h : ls[i]? = some (some (.long x))) (kk : mj_V l G R own cc nL rt ini (pc + 1) ls (.long x :: st) S k n Q) : mj_V l G R own cc nL rt ini pc ls st S k n Q := by
  intro p e s m args below meth c H locs A ad ad0 sh0 rls X
  exact lv_lload_n X.hx X.hb hd hi (X.hlv _ _ h) (kk p e s m args below meth c H locs A ad ad0 sh0 rls (X.stk (mj_okc (trivial) X.hst)))
theorem mj_lload {i : Nat} {x : Int64} (hd : decode cc pc = .ok (.lload i, 2)) (h : ls[i]? = some (some (.long x))) (kk : mj_V l G R own cc nL rt ini (pc + 2) ls (.long x :: st) S k n Q) : mj_V l G R own cc nL rt ini pc ls st S k n Q := by
  intro p e s m args below meth c H locs A ad ad0 sh0 rls X
  exact lv_lload X.hx X.hb hd (X.hlv _ _ h) (kk p e s m args below meth c H locs A ad ad0 sh0 rls (X.stk (mj_okc (trivial) X.hst)))
theorem mj_aload_n {j : Fin 4} {i : Nat} {x : Nat} (hd : decode cc pc = .ok (.aload_n j, 1)) (hi : (j : Nat) = i) (h : ls[i]? = some (some (.ref x))) (kk : mj_V l G R own cc nL rt ini (pc + 1) ls (.ref x :: st) S k n Q) : mj_V l G R own cc nL rt ini pc ls st S k n Q := by
  intro p e s m args below meth c H locs A ad ad0 sh0 rls X
  exact lv_aload_n X.hx X.hb hd hi (X.hlv _ _ h) (kk p e s m args below meth c H locs A ad ad0 sh0 rls (X.stk (mj_okc (X.hls _ _ h) X.hst)))
theorem mj_aload {i : Nat} {x : Nat} (hd : decode cc pc = .ok (.aload i, 2)) (h : ls[i]? = some (some (.ref x))) (kk : mj_V l G R own cc nL rt ini (pc + 2) ls (.ref x :: st) S k n Q) : mj_V l G R own cc nL rt ini pc ls st S k n Q := by
  intro p e s m args below meth c H locs A ad ad0 sh0 rls X
  exact lv_aload X.hx X.hb hd (X.hlv _ _ h) (kk p e s m args below meth c H locs A ad ad0 sh0 rls (X.stk (mj_okc (X.hls _ _ h) X.hst)))
end MJ2
