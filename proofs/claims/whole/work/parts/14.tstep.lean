section TSTEP
variable {X : rX} {Q : rQ} {pc : Nat} {lo : List (Option Value)} {st : List Value} {w : rW} {θ : (Nat → Value) × (Nat → Nat)} {nn oc : Nat} {cc : ByteArray} {ret : Option FieldType} {ini : Bool} {lim : Nat × Nat}
theorem tt_iconst (hX : X = (θ, sg θ nn, nn, oc, cc, ret, ini, lim)) {n : Int} {v : Int32} (hd : decode cc pc = .ok (.iconst n, 1)) (hv : Int32.ofInt n = v) : Wp X Q (pc, lo, st, w) ↔ Wp X Q (pc + 1, lo, .int v :: st, w) := by
  subst hX
  exact s_iconst (X := (θ, sg θ nn, nn, oc, cc, ret, ini, lim)) (n := n) (v := v) (sg_mono θ nn) hd hv
theorem tt_bipush (hX : X = (θ, sg θ nn, nn, oc, cc, ret, ini, lim)) {n : Int} {v : Int32} (hd : decode cc pc = .ok (.bipush n, 2)) (hv : (Int8.ofInt n).toInt32 = v) : Wp X Q (pc, lo, st, w) ↔ Wp X Q (pc + 2, lo, .int v :: st, w) := by
  subst hX
  exact s_bipush (X := (θ, sg θ nn, nn, oc, cc, ret, ini, lim)) (n := n) (v := v) (sg_mono θ nn) hd hv
theorem tt_sipush (hX : X = (θ, sg θ nn, nn, oc, cc, ret, ini, lim)) {n : Int} {v : Int32} (hd : decode cc pc = .ok (.sipush n, 3)) (hv : (Int16.ofInt n).toInt32 = v) : Wp X Q (pc, lo, st, w) ↔ Wp X Q (pc + 3, lo, .int v :: st, w) := by
  subst hX
  exact s_sipush (X := (θ, sg θ nn, nn, oc, cc, ret, ini, lim)) (n := n) (v := v) (sg_mono θ nn) hd hv
theorem tt_lconst (hX : X = (θ, sg θ nn, nn, oc, cc, ret, ini, lim)) {n : Fin 2} {v : Int64} (hd : decode cc pc = .ok (.lconst n, 1)) (hv : Int64.ofNat (n : Nat) = v) : Wp X Q (pc, lo, st, w) ↔ Wp X Q (pc + 1, lo, .long v :: st, w) := by
  subst hX
  exact s_lconst (X := (θ, sg θ nn, nn, oc, cc, ret, ini, lim)) (n := n) (v := v) (sg_mono θ nn) hd hv
theorem tt_ldc (hX : X = (θ, sg θ nn, nn, oc, cc, ret, ini, lim)) {k : Nat} {v : Int32} (hd : decode cc pc = .ok (.ldc k, 2)) (hv : rCst.lookup (oc, k) = some v) (hn : rStr.lookup (oc, k) = none) : Wp X Q (pc, lo, st, w) ↔ Wp X Q (pc + 2, lo, .int v :: st, w) := by
  subst hX
  exact s_ldc (X := (θ, sg θ nn, nn, oc, cc, ret, ini, lim)) (k := k) (v := v) (sg_mono θ nn) hd hv hn
theorem tt_ldcs (hX : X = (θ, sg θ nn, nn, oc, cc, ret, ini, lim)) {k j : Nat} (hd : decode cc pc = .ok (.ldc k, 2)) (hv : rCst.lookup (oc, k) = none) (hn : rStr.lookup (oc, k) = some j) : Wp X Q (pc, lo, st, w) ↔ Wp X Q (pc + 2, lo, .ref (θ.2 j) :: st, w) := by
  subst hX
  exact s_ldcs (X := (θ, sg θ nn, nn, oc, cc, ret, ini, lim)) (k := k) (j := j) (sg_mono θ nn) hd hv hn
theorem tt_ldcw (hX : X = (θ, sg θ nn, nn, oc, cc, ret, ini, lim)) {k : Nat} {v : Int32} (hd : decode cc pc = .ok (.ldc_w k, 3)) (hv : rCst.lookup (oc, k) = some v) : Wp X Q (pc, lo, st, w) ↔ Wp X Q (pc + 3, lo, .int v :: st, w) := by
  subst hX
  exact s_ldcw (X := (θ, sg θ nn, nn, oc, cc, ret, ini, lim)) (k := k) (v := v) (sg_mono θ nn) hd hv
theorem tt_ldc2 (hX : X = (θ, sg θ nn, nn, oc, cc, ret, ini, lim)) {k : Nat} {v : Int64} (hd : decode cc pc = .ok (.ldc2_w k, 3)) (hv : rLng.lookup (oc, k) = some v) : Wp X Q (pc, lo, st, w) ↔ Wp X Q (pc + 3, lo, .long v :: st, w) := by
  subst hX
  exact s_ldc2 (X := (θ, sg θ nn, nn, oc, cc, ret, ini, lim)) (k := k) (v := v) (sg_mono θ nn) hd hv
theorem tt_gets (hX : X = (θ, sg θ nn, nn, oc, cc, ret, ini, lim)) {k j : Nat} (hd : decode cc pc = .ok (.getstatic k, 3)) (hv : rSta.lookup (oc, k) = some j) : Wp X Q (pc, lo, st, w) ↔ Wp X Q (pc + 3, lo, θ.1 j :: st, w) := by
  subst hX
  exact s_gets (X := (θ, sg θ nn, nn, oc, cc, ret, ini, lim)) (k := k) (j := j) (sg_mono θ nn) hd hv
theorem tt_iload_n (hX : X = (θ, sg θ nn, nn, oc, cc, ret, ini, lim)) {k : Fin 4} {x : Int32} (hd : decode cc pc = .ok (.iload_n k, 1)) (hl : lo[(k : Nat)]? = some (some (.int x))) : Wp X Q (pc, lo, st, w) ↔ Wp X Q (pc + 1, lo, .int x :: st, w) := by
  subst hX
  exact s_iload_n (X := (θ, sg θ nn, nn, oc, cc, ret, ini, lim)) (k := k) (x := x) (sg_mono θ nn) hd hl
theorem tt_iload (hX : X = (θ, sg θ nn, nn, oc, cc, ret, ini, lim)) {k : Nat} {x : Int32} (hd : decode cc pc = .ok (.iload k, 2)) (hl : lo[k]? = some (some (.int x))) : Wp X Q (pc, lo, st, w) ↔ Wp X Q (pc + 2, lo, .int x :: st, w) := by
  subst hX
  exact s_iload (X := (θ, sg θ nn, nn, oc, cc, ret, ini, lim)) (k := k) (x := x) (sg_mono θ nn) hd hl
theorem tt_lload_n (hX : X = (θ, sg θ nn, nn, oc, cc, ret, ini, lim)) {k : Fin 4} {x : Int64} (hd : decode cc pc = .ok (.lload_n k, 1)) (hl : lo[(k : Nat)]? = some (some (.long x))) : Wp X Q (pc, lo, st, w) ↔ Wp X Q (pc + 1, lo, .long x :: st, w) := by
  subst hX
  exact s_lload_n (X := (θ, sg θ nn, nn, oc, cc, ret, ini, lim)) (k := k) (x := x) (sg_mono θ nn) hd hl
theorem tt_lload (hX : X = (θ, sg θ nn, nn, oc, cc, ret, ini, lim)) {k : Nat} {x : Int64} (hd : decode cc pc = .ok (.lload k, 2)) (hl : lo[k]? = some (some (.long x))) : Wp X Q (pc, lo, st, w) ↔ Wp X Q (pc + 2, lo, .long x :: st, w) := by
  subst hX
  exact s_lload (X := (θ, sg θ nn, nn, oc, cc, ret, ini, lim)) (k := k) (x := x) (sg_mono θ nn) hd hl
theorem tt_aload_n (hX : X = (θ, sg θ nn, nn, oc, cc, ret, ini, lim)) {k : Fin 4} {x : Nat} (hd : decode cc pc = .ok (.aload_n k, 1)) (hl : lo[(k : Nat)]? = some (some (.ref x))) : Wp X Q (pc, lo, st, w) ↔ Wp X Q (pc + 1, lo, .ref x :: st, w) := by
  subst hX
  exact s_aload_n (X := (θ, sg θ nn, nn, oc, cc, ret, ini, lim)) (k := k) (x := x) (sg_mono θ nn) hd hl
theorem tt_aload (hX : X = (θ, sg θ nn, nn, oc, cc, ret, ini, lim)) {k : Nat} {x : Nat} (hd : decode cc pc = .ok (.aload k, 2)) (hl : lo[k]? = some (some (.ref x))) : Wp X Q (pc, lo, st, w) ↔ Wp X Q (pc + 2, lo, .ref x :: st, w) := by
  subst hX
  exact s_aload (X := (θ, sg θ nn, nn, oc, cc, ret, ini, lim)) (k := k) (x := x) (sg_mono θ nn) hd hl
theorem tt_istore_n (hX : X = (θ, sg θ nn, nn, oc, cc, ret, ini, lim)) {k : Fin 4} {x : Int32} {lo' : List (Option Value)} (hd : decode cc pc = .ok (.istore_n k, 1)) (hn : (k : Nat) < lo.length) (hN : rNL lo k = true) (hl : lo.set k (some (.int x)) = lo') : Wp X Q (pc, lo, .int x :: st, w) ↔ Wp X Q (pc + 1, lo', st, w) := by
  subst hX
  exact s_istore_n (X := (θ, sg θ nn, nn, oc, cc, ret, ini, lim)) (k := k) (x := x) (lo' := lo') (sg_mono θ nn) hd hn hN hl
theorem tt_istore (hX : X = (θ, sg θ nn, nn, oc, cc, ret, ini, lim)) {k : Nat} {x : Int32} {lo' : List (Option Value)} (hd : decode cc pc = .ok (.istore k, 2)) (hn : k < lo.length) (hN : rNL lo k = true) (hl : lo.set k (some (.int x)) = lo') : Wp X Q (pc, lo, .int x :: st, w) ↔ Wp X Q (pc + 2, lo', st, w) := by
  subst hX
  exact s_istore (X := (θ, sg θ nn, nn, oc, cc, ret, ini, lim)) (k := k) (x := x) (lo' := lo') (sg_mono θ nn) hd hn hN hl
theorem tt_astore_n (hX : X = (θ, sg θ nn, nn, oc, cc, ret, ini, lim)) {k : Fin 4} {x : Nat} {lo' : List (Option Value)} (hd : decode cc pc = .ok (.astore_n k, 1)) (hn : (k : Nat) < lo.length) (hN : rNL lo k = true) (hl : lo.set k (some (.ref x)) = lo') : Wp X Q (pc, lo, .ref x :: st, w) ↔ Wp X Q (pc + 1, lo', st, w) := by
  subst hX
  exact s_astore_n (X := (θ, sg θ nn, nn, oc, cc, ret, ini, lim)) (k := k) (x := x) (lo' := lo') (sg_mono θ nn) hd hn hN hl
theorem tt_astore (hX : X = (θ, sg θ nn, nn, oc, cc, ret, ini, lim)) {k : Nat} {x : Nat} {lo' : List (Option Value)} (hd : decode cc pc = .ok (.astore k, 2)) (hn : k < lo.length) (hN : rNL lo k = true) (hl : lo.set k (some (.ref x)) = lo') : Wp X Q (pc, lo, .ref x :: st, w) ↔ Wp X Q (pc + 2, lo', st, w) := by
  subst hX
  exact s_astore (X := (θ, sg θ nn, nn, oc, cc, ret, ini, lim)) (k := k) (x := x) (lo' := lo') (sg_mono θ nn) hd hn hN hl
theorem tt_lstore (hX : X = (θ, sg θ nn, nn, oc, cc, ret, ini, lim)) {k : Nat} {x : Int64} {lo' : List (Option Value)} (hd : decode cc pc = .ok (.lstore k, 2)) (hn : k + 1 < lo.length) (hN : rNL lo k = true) (hl : (lo.set k (some (.long x))).set (k + 1) none = lo') : Wp X Q (pc, lo, .long x :: st, w) ↔ Wp X Q (pc + 2, lo', st, w) := by
  subst hX
  exact s_lstore (X := (θ, sg θ nn, nn, oc, cc, ret, ini, lim)) (k := k) (x := x) (lo' := lo') (sg_mono θ nn) hd hn hN hl
theorem tt_iinc (hX : X = (θ, sg θ nn, nn, oc, cc, ret, ini, lim)) {k : Nat} {n : Int} {x v : Int32} {lo' : List (Option Value)} (hd : decode cc pc = .ok (.iinc k n, 3)) (hl : lo[k]? = some (some (.int x))) (hv : Int32.ofInt n = v) (hl' : lo.set k (some (.int (x + v))) = lo') : Wp X Q (pc, lo, st, w) ↔ Wp X Q (pc + 3, lo', st, w) := by
  subst hX
  exact s_iinc (X := (θ, sg θ nn, nn, oc, cc, ret, ini, lim)) (k := k) (n := n) (x := x) (v := v) (lo' := lo') (sg_mono θ nn) hd hl hv hl'
theorem tt_iadd (hX : X = (θ, sg θ nn, nn, oc, cc, ret, ini, lim)) {x y : Int32} (hd : decode cc pc = .ok (.iadd, 1)) : Wp X Q (pc, lo, .int y :: .int x :: st, w) ↔ Wp X Q (pc + 1, lo, .int (x + y) :: st, w) := by
  subst hX
  exact s_iadd (X := (θ, sg θ nn, nn, oc, cc, ret, ini, lim)) (x := x) (y := y) (sg_mono θ nn) hd
theorem tt_isub (hX : X = (θ, sg θ nn, nn, oc, cc, ret, ini, lim)) {x y : Int32} (hd : decode cc pc = .ok (.isub, 1)) : Wp X Q (pc, lo, .int y :: .int x :: st, w) ↔ Wp X Q (pc + 1, lo, .int (x - y) :: st, w) := by
  subst hX
  exact s_isub (X := (θ, sg θ nn, nn, oc, cc, ret, ini, lim)) (x := x) (y := y) (sg_mono θ nn) hd
theorem tt_imul (hX : X = (θ, sg θ nn, nn, oc, cc, ret, ini, lim)) {x y : Int32} (hd : decode cc pc = .ok (.imul, 1)) : Wp X Q (pc, lo, .int y :: .int x :: st, w) ↔ Wp X Q (pc + 1, lo, .int (x * y) :: st, w) := by
  subst hX
  exact s_imul (X := (θ, sg θ nn, nn, oc, cc, ret, ini, lim)) (x := x) (y := y) (sg_mono θ nn) hd
theorem tt_iand (hX : X = (θ, sg θ nn, nn, oc, cc, ret, ini, lim)) {x y : Int32} (hd : decode cc pc = .ok (.iand, 1)) : Wp X Q (pc, lo, .int y :: .int x :: st, w) ↔ Wp X Q (pc + 1, lo, .int (x &&& y) :: st, w) := by
  subst hX
  exact s_iand (X := (θ, sg θ nn, nn, oc, cc, ret, ini, lim)) (x := x) (y := y) (sg_mono θ nn) hd
theorem tt_ior (hX : X = (θ, sg θ nn, nn, oc, cc, ret, ini, lim)) {x y : Int32} (hd : decode cc pc = .ok (.ior, 1)) : Wp X Q (pc, lo, .int y :: .int x :: st, w) ↔ Wp X Q (pc + 1, lo, .int (x ||| y) :: st, w) := by
  subst hX
  exact s_ior (X := (θ, sg θ nn, nn, oc, cc, ret, ini, lim)) (x := x) (y := y) (sg_mono θ nn) hd
theorem tt_ixor (hX : X = (θ, sg θ nn, nn, oc, cc, ret, ini, lim)) {x y : Int32} (hd : decode cc pc = .ok (.ixor, 1)) : Wp X Q (pc, lo, .int y :: .int x :: st, w) ↔ Wp X Q (pc + 1, lo, .int (x ^^^ y) :: st, w) := by
  subst hX
  exact s_ixor (X := (θ, sg θ nn, nn, oc, cc, ret, ini, lim)) (x := x) (y := y) (sg_mono θ nn) hd
theorem tt_ishl (hX : X = (θ, sg θ nn, nn, oc, cc, ret, ini, lim)) {x y : Int32} (hd : decode cc pc = .ok (.ishl, 1)) : Wp X Q (pc, lo, .int y :: .int x :: st, w) ↔ Wp X Q (pc + 1, lo, .int (x <<< (y &&& 31)) :: st, w) := by
  subst hX
  exact s_ishl (X := (θ, sg θ nn, nn, oc, cc, ret, ini, lim)) (x := x) (y := y) (sg_mono θ nn) hd
theorem tt_ishr (hX : X = (θ, sg θ nn, nn, oc, cc, ret, ini, lim)) {x y : Int32} (hd : decode cc pc = .ok (.ishr, 1)) : Wp X Q (pc, lo, .int y :: .int x :: st, w) ↔ Wp X Q (pc + 1, lo, .int (x >>> (y &&& 31)) :: st, w) := by
  subst hX
  exact s_ishr (X := (θ, sg θ nn, nn, oc, cc, ret, ini, lim)) (x := x) (y := y) (sg_mono θ nn) hd
theorem tt_iushr (hX : X = (θ, sg θ nn, nn, oc, cc, ret, ini, lim)) {x y : Int32} (hd : decode cc pc = .ok (.iushr, 1)) : Wp X Q (pc, lo, .int y :: .int x :: st, w) ↔ Wp X Q (pc + 1, lo, .int ((x.toUInt32 >>> (y.toUInt32 &&& Int32.toUInt32 31)).toInt32) :: st, w) := by
  subst hX
  exact s_iushr (X := (θ, sg θ nn, nn, oc, cc, ret, ini, lim)) (x := x) (y := y) (sg_mono θ nn) hd
theorem tt_ladd (hX : X = (θ, sg θ nn, nn, oc, cc, ret, ini, lim)) {x y : Int64} (hd : decode cc pc = .ok (.ladd, 1)) : Wp X Q (pc, lo, .long y :: .long x :: st, w) ↔ Wp X Q (pc + 1, lo, .long (x + y) :: st, w) := by
  subst hX
  exact s_ladd (X := (θ, sg θ nn, nn, oc, cc, ret, ini, lim)) (x := x) (y := y) (sg_mono θ nn) hd
theorem tt_lsub (hX : X = (θ, sg θ nn, nn, oc, cc, ret, ini, lim)) {x y : Int64} (hd : decode cc pc = .ok (.lsub, 1)) : Wp X Q (pc, lo, .long y :: .long x :: st, w) ↔ Wp X Q (pc + 1, lo, .long (x - y) :: st, w) := by
  subst hX
  exact s_lsub (X := (θ, sg θ nn, nn, oc, cc, ret, ini, lim)) (x := x) (y := y) (sg_mono θ nn) hd
theorem tt_lmul (hX : X = (θ, sg θ nn, nn, oc, cc, ret, ini, lim)) {x y : Int64} (hd : decode cc pc = .ok (.lmul, 1)) : Wp X Q (pc, lo, .long y :: .long x :: st, w) ↔ Wp X Q (pc + 1, lo, .long (x * y) :: st, w) := by
  subst hX
  exact s_lmul (X := (θ, sg θ nn, nn, oc, cc, ret, ini, lim)) (x := x) (y := y) (sg_mono θ nn) hd
theorem tt_land (hX : X = (θ, sg θ nn, nn, oc, cc, ret, ini, lim)) {x y : Int64} (hd : decode cc pc = .ok (.land, 1)) : Wp X Q (pc, lo, .long y :: .long x :: st, w) ↔ Wp X Q (pc + 1, lo, .long (x &&& y) :: st, w) := by
  subst hX
  exact s_land (X := (θ, sg θ nn, nn, oc, cc, ret, ini, lim)) (x := x) (y := y) (sg_mono θ nn) hd
theorem tt_lor (hX : X = (θ, sg θ nn, nn, oc, cc, ret, ini, lim)) {x y : Int64} (hd : decode cc pc = .ok (.lor, 1)) : Wp X Q (pc, lo, .long y :: .long x :: st, w) ↔ Wp X Q (pc + 1, lo, .long (x ||| y) :: st, w) := by
  subst hX
  exact s_lor (X := (θ, sg θ nn, nn, oc, cc, ret, ini, lim)) (x := x) (y := y) (sg_mono θ nn) hd
theorem tt_lshl (hX : X = (θ, sg θ nn, nn, oc, cc, ret, ini, lim)) {x : Int64} {y : Int32} (hd : decode cc pc = .ok (.lshl, 1)) : Wp X Q (pc, lo, .int y :: .long x :: st, w) ↔ Wp X Q (pc + 1, lo, .long (x <<< (y.toInt64 &&& 63)) :: st, w) := by
  subst hX
  exact s_lshl (X := (θ, sg θ nn, nn, oc, cc, ret, ini, lim)) (x := x) (y := y) (sg_mono θ nn) hd
theorem tt_lshr (hX : X = (θ, sg θ nn, nn, oc, cc, ret, ini, lim)) {x : Int64} {y : Int32} (hd : decode cc pc = .ok (.lshr, 1)) : Wp X Q (pc, lo, .int y :: .long x :: st, w) ↔ Wp X Q (pc + 1, lo, .long (x >>> (y.toInt64 &&& 63)) :: st, w) := by
  subst hX
  exact s_lshr (X := (θ, sg θ nn, nn, oc, cc, ret, ini, lim)) (x := x) (y := y) (sg_mono θ nn) hd
theorem tt_lcmp (hX : X = (θ, sg θ nn, nn, oc, cc, ret, ini, lim)) {x y : Int64} (hd : decode cc pc = .ok (.lcmp, 1)) : Wp X Q (pc, lo, .long y :: .long x :: st, w) ↔ Wp X Q (pc + 1, lo, .int (lg_cmp x y) :: st, w) := by
  subst hX
  exact s_lcmp (X := (θ, sg θ nn, nn, oc, cc, ret, ini, lim)) (x := x) (y := y) (sg_mono θ nn) hd
theorem tt_ineg (hX : X = (θ, sg θ nn, nn, oc, cc, ret, ini, lim)) {x : Int32} (hd : decode cc pc = .ok (.ineg, 1)) : Wp X Q (pc, lo, .int x :: st, w) ↔ Wp X Q (pc + 1, lo, .int (-x) :: st, w) := by
  subst hX
  exact s_ineg (X := (θ, sg θ nn, nn, oc, cc, ret, ini, lim)) (x := x) (sg_mono θ nn) hd
theorem tt_i2b (hX : X = (θ, sg θ nn, nn, oc, cc, ret, ini, lim)) {x : Int32} (hd : decode cc pc = .ok (.i2b, 1)) : Wp X Q (pc, lo, .int x :: st, w) ↔ Wp X Q (pc + 1, lo, .int (x.toInt8.toInt32) :: st, w) := by
  subst hX
  exact s_i2b (X := (θ, sg θ nn, nn, oc, cc, ret, ini, lim)) (x := x) (sg_mono θ nn) hd
theorem tt_i2s (hX : X = (θ, sg θ nn, nn, oc, cc, ret, ini, lim)) {x : Int32} (hd : decode cc pc = .ok (.i2s, 1)) : Wp X Q (pc, lo, .int x :: st, w) ↔ Wp X Q (pc + 1, lo, .int (x.toInt16.toInt32) :: st, w) := by
  subst hX
  exact s_i2s (X := (θ, sg θ nn, nn, oc, cc, ret, ini, lim)) (x := x) (sg_mono θ nn) hd
theorem tt_i2c (hX : X = (θ, sg θ nn, nn, oc, cc, ret, ini, lim)) {x : Int32} (hd : decode cc pc = .ok (.i2c, 1)) : Wp X Q (pc, lo, .int x :: st, w) ↔ Wp X Q (pc + 1, lo, .int ((x.toUInt32 % 65536).toInt32) :: st, w) := by
  subst hX
  exact s_i2c (X := (θ, sg θ nn, nn, oc, cc, ret, ini, lim)) (x := x) (sg_mono θ nn) hd
theorem tt_i2l (hX : X = (θ, sg θ nn, nn, oc, cc, ret, ini, lim)) {x : Int32} (hd : decode cc pc = .ok (.i2l, 1)) : Wp X Q (pc, lo, .int x :: st, w) ↔ Wp X Q (pc + 1, lo, .long (x.toInt64) :: st, w) := by
  subst hX
  exact s_i2l (X := (θ, sg θ nn, nn, oc, cc, ret, ini, lim)) (x := x) (sg_mono θ nn) hd
theorem tt_l2i (hX : X = (θ, sg θ nn, nn, oc, cc, ret, ini, lim)) {x : Int64} (hd : decode cc pc = .ok (.l2i, 1)) : Wp X Q (pc, lo, .long x :: st, w) ↔ Wp X Q (pc + 1, lo, .int (x.toInt32) :: st, w) := by
  subst hX
  exact s_l2i (X := (θ, sg θ nn, nn, oc, cc, ret, ini, lim)) (x := x) (sg_mono θ nn) hd
theorem tt_idiv (hX : X = (θ, sg θ nn, nn, oc, cc, ret, ini, lim)) {x y : Int32} (hd : decode cc pc = .ok (.idiv, 1)) : Wp X Q (pc, lo, .int y :: .int x :: st, w) ↔ (¬ y = 0 ∧ Wp X Q (pc + 1, lo, .int (x / y) :: st, w)) := by
  subst hX
  exact s_idiv (X := (θ, sg θ nn, nn, oc, cc, ret, ini, lim)) (x := x) (y := y) (sg_mono θ nn) hd
theorem tt_irem (hX : X = (θ, sg θ nn, nn, oc, cc, ret, ini, lim)) {x y : Int32} (hd : decode cc pc = .ok (.irem, 1)) : Wp X Q (pc, lo, .int y :: .int x :: st, w) ↔ (¬ y = 0 ∧ Wp X Q (pc + 1, lo, .int (x - x / y * y) :: st, w)) := by
  subst hX
  exact s_irem (X := (θ, sg θ nn, nn, oc, cc, ret, ini, lim)) (x := x) (y := y) (sg_mono θ nn) hd
theorem tt_dup (hX : X = (θ, sg θ nn, nn, oc, cc, ret, ini, lim)) {v : Value} (hd : decode cc pc = .ok (.dup, 1)) (hv : v.category = 1) : Wp X Q (pc, lo, v :: st, w) ↔ Wp X Q (pc + 1, lo, v :: v :: st, w) := by
  subst hX
  exact s_dup (X := (θ, sg θ nn, nn, oc, cc, ret, ini, lim)) (v := v) (sg_mono θ nn) hd hv
theorem tt_pop (hX : X = (θ, sg θ nn, nn, oc, cc, ret, ini, lim)) {v : Value} (hd : decode cc pc = .ok (.pop, 1)) (hv : v.category = 1) : Wp X Q (pc, lo, v :: st, w) ↔ Wp X Q (pc + 1, lo, st, w) := by
  subst hX
  exact s_pop (X := (θ, sg θ nn, nn, oc, cc, ret, ini, lim)) (v := v) (sg_mono θ nn) hd hv
theorem tt_dup2 (hX : X = (θ, sg θ nn, nn, oc, cc, ret, ini, lim)) {v u : Value} (hd : decode cc pc = .ok (.dup2, 1)) (hv : v.category = 1) (hu : u.category = 1) : Wp X Q (pc, lo, v :: u :: st, w) ↔ Wp X Q (pc + 1, lo, v :: u :: v :: u :: st, w) := by
  subst hX
  exact s_dup2 (X := (θ, sg θ nn, nn, oc, cc, ret, ini, lim)) (v := v) (u := u) (sg_mono θ nn) hd hv hu
theorem tt_if_eq (hX : X = (θ, sg θ nn, nn, oc, cc, ret, ini, lim)) {x : Int32} {off : Int} {tgt : Nat} (hd : decode cc pc = .ok (.ifCond .eq off, 3)) (ht : (pc : Int) + off = (tgt : Int)) : Wp X Q (pc, lo, .int x :: st, w) ↔ if x = 0 then Wp X Q (tgt, lo, st, w) else Wp X Q (pc + 3, lo, st, w) := by
  subst hX
  exact s_if_eq (X := (θ, sg θ nn, nn, oc, cc, ret, ini, lim)) (x := x) (off := off) (tgt := tgt) (sg_mono θ nn) hd ht
theorem tt_ic_eq (hX : X = (θ, sg θ nn, nn, oc, cc, ret, ini, lim)) {x y : Int32} {off : Int} {tgt : Nat} (hd : decode cc pc = .ok (.if_icmp .eq off, 3)) (ht : (pc : Int) + off = (tgt : Int)) : Wp X Q (pc, lo, .int y :: .int x :: st, w) ↔ if x = y then Wp X Q (tgt, lo, st, w) else Wp X Q (pc + 3, lo, st, w) := by
  subst hX
  exact s_ic_eq (X := (θ, sg θ nn, nn, oc, cc, ret, ini, lim)) (x := x) (y := y) (off := off) (tgt := tgt) (sg_mono θ nn) hd ht
theorem tt_if_lt (hX : X = (θ, sg θ nn, nn, oc, cc, ret, ini, lim)) {x : Int32} {off : Int} {tgt : Nat} (hd : decode cc pc = .ok (.ifCond .lt off, 3)) (ht : (pc : Int) + off = (tgt : Int)) : Wp X Q (pc, lo, .int x :: st, w) ↔ if x < 0 then Wp X Q (tgt, lo, st, w) else Wp X Q (pc + 3, lo, st, w) := by
  subst hX
  exact s_if_lt (X := (θ, sg θ nn, nn, oc, cc, ret, ini, lim)) (x := x) (off := off) (tgt := tgt) (sg_mono θ nn) hd ht
theorem tt_ic_lt (hX : X = (θ, sg θ nn, nn, oc, cc, ret, ini, lim)) {x y : Int32} {off : Int} {tgt : Nat} (hd : decode cc pc = .ok (.if_icmp .lt off, 3)) (ht : (pc : Int) + off = (tgt : Int)) : Wp X Q (pc, lo, .int y :: .int x :: st, w) ↔ if x < y then Wp X Q (tgt, lo, st, w) else Wp X Q (pc + 3, lo, st, w) := by
  subst hX
  exact s_ic_lt (X := (θ, sg θ nn, nn, oc, cc, ret, ini, lim)) (x := x) (y := y) (off := off) (tgt := tgt) (sg_mono θ nn) hd ht
theorem tt_if_ge (hX : X = (θ, sg θ nn, nn, oc, cc, ret, ini, lim)) {x : Int32} {off : Int} {tgt : Nat} (hd : decode cc pc = .ok (.ifCond .ge off, 3)) (ht : (pc : Int) + off = (tgt : Int)) : Wp X Q (pc, lo, .int x :: st, w) ↔ if 0 ≤ x then Wp X Q (tgt, lo, st, w) else Wp X Q (pc + 3, lo, st, w) := by
  subst hX
  exact s_if_ge (X := (θ, sg θ nn, nn, oc, cc, ret, ini, lim)) (x := x) (off := off) (tgt := tgt) (sg_mono θ nn) hd ht
theorem tt_ic_ge (hX : X = (θ, sg θ nn, nn, oc, cc, ret, ini, lim)) {x y : Int32} {off : Int} {tgt : Nat} (hd : decode cc pc = .ok (.if_icmp .ge off, 3)) (ht : (pc : Int) + off = (tgt : Int)) : Wp X Q (pc, lo, .int y :: .int x :: st, w) ↔ if y ≤ x then Wp X Q (tgt, lo, st, w) else Wp X Q (pc + 3, lo, st, w) := by
  subst hX
  exact s_ic_ge (X := (θ, sg θ nn, nn, oc, cc, ret, ini, lim)) (x := x) (y := y) (off := off) (tgt := tgt) (sg_mono θ nn) hd ht
theorem tt_if_gt (hX : X = (θ, sg θ nn, nn, oc, cc, ret, ini, lim)) {x : Int32} {off : Int} {tgt : Nat} (hd : decode cc pc = .ok (.ifCond .gt off, 3)) (ht : (pc : Int) + off = (tgt : Int)) : Wp X Q (pc, lo, .int x :: st, w) ↔ if 0 < x then Wp X Q (tgt, lo, st, w) else Wp X Q (pc + 3, lo, st, w) := by
  subst hX
  exact s_if_gt (X := (θ, sg θ nn, nn, oc, cc, ret, ini, lim)) (x := x) (off := off) (tgt := tgt) (sg_mono θ nn) hd ht
theorem tt_ic_gt (hX : X = (θ, sg θ nn, nn, oc, cc, ret, ini, lim)) {x y : Int32} {off : Int} {tgt : Nat} (hd : decode cc pc = .ok (.if_icmp .gt off, 3)) (ht : (pc : Int) + off = (tgt : Int)) : Wp X Q (pc, lo, .int y :: .int x :: st, w) ↔ if y < x then Wp X Q (tgt, lo, st, w) else Wp X Q (pc + 3, lo, st, w) := by
  subst hX
  exact s_ic_gt (X := (θ, sg θ nn, nn, oc, cc, ret, ini, lim)) (x := x) (y := y) (off := off) (tgt := tgt) (sg_mono θ nn) hd ht
theorem tt_if_le (hX : X = (θ, sg θ nn, nn, oc, cc, ret, ini, lim)) {x : Int32} {off : Int} {tgt : Nat} (hd : decode cc pc = .ok (.ifCond .le off, 3)) (ht : (pc : Int) + off = (tgt : Int)) : Wp X Q (pc, lo, .int x :: st, w) ↔ if x ≤ 0 then Wp X Q (tgt, lo, st, w) else Wp X Q (pc + 3, lo, st, w) := by
  subst hX
  exact s_if_le (X := (θ, sg θ nn, nn, oc, cc, ret, ini, lim)) (x := x) (off := off) (tgt := tgt) (sg_mono θ nn) hd ht
theorem tt_ic_le (hX : X = (θ, sg θ nn, nn, oc, cc, ret, ini, lim)) {x y : Int32} {off : Int} {tgt : Nat} (hd : decode cc pc = .ok (.if_icmp .le off, 3)) (ht : (pc : Int) + off = (tgt : Int)) : Wp X Q (pc, lo, .int y :: .int x :: st, w) ↔ if x ≤ y then Wp X Q (tgt, lo, st, w) else Wp X Q (pc + 3, lo, st, w) := by
  subst hX
  exact s_ic_le (X := (θ, sg θ nn, nn, oc, cc, ret, ini, lim)) (x := x) (y := y) (off := off) (tgt := tgt) (sg_mono θ nn) hd ht
theorem tt_if_ne (hX : X = (θ, sg θ nn, nn, oc, cc, ret, ini, lim)) {x : Int32} {off : Int} {tgt : Nat} (hd : decode cc pc = .ok (.ifCond .ne off, 3)) (ht : (pc : Int) + off = (tgt : Int)) : Wp X Q (pc, lo, .int x :: st, w) ↔ if x = 0 then Wp X Q (pc + 3, lo, st, w) else Wp X Q (tgt, lo, st, w) := by
  subst hX
  exact s_if_ne (X := (θ, sg θ nn, nn, oc, cc, ret, ini, lim)) (x := x) (off := off) (tgt := tgt) (sg_mono θ nn) hd ht
theorem tt_ic_ne (hX : X = (θ, sg θ nn, nn, oc, cc, ret, ini, lim)) {x y : Int32} {off : Int} {tgt : Nat} (hd : decode cc pc = .ok (.if_icmp .ne off, 3)) (ht : (pc : Int) + off = (tgt : Int)) : Wp X Q (pc, lo, .int y :: .int x :: st, w) ↔ if x = y then Wp X Q (pc + 3, lo, st, w) else Wp X Q (tgt, lo, st, w) := by
  subst hX
  exact s_ic_ne (X := (θ, sg θ nn, nn, oc, cc, ret, ini, lim)) (x := x) (y := y) (off := off) (tgt := tgt) (sg_mono θ nn) hd ht
theorem tt_goto (hX : X = (θ, sg θ nn, nn, oc, cc, ret, ini, lim)) {off : Int} {tgt : Nat} (hd : decode cc pc = .ok (.goto off, 3)) (ht : (pc : Int) + off = (tgt : Int)) : Wp X Q (pc, lo, st, w) ↔ Wp X Q (tgt, lo, st, w) := by
  subst hX
  exact s_goto (X := (θ, sg θ nn, nn, oc, cc, ret, ini, lim)) (off := off) (tgt := tgt) (sg_mono θ nn) hd ht
theorem tt_tableO (hX : X = (θ, sg θ nn, nn, oc, cc, ret, ini, lim)) {d l h : Int} {offs : Array Int} {len : Nat} {x : Int32} {tgt : Nat} (hd : decode cc pc = .ok (.tableswitch d l h offs, len)) (hq : x.toInt < l ∨ h < x.toInt) (ht : (pc : Int) + d = (tgt : Int)) : Wp X Q (pc, lo, .int x :: st, w) ↔ Wp X Q (tgt, lo, st, w) := by
  subst hX
  exact s_tableO (X := (θ, sg θ nn, nn, oc, cc, ret, ini, lim)) (d := d) (l := l) (h := h) (offs := offs) (len := len) (x := x) (tgt := tgt) (sg_mono θ nn) hd hq ht
theorem tt_tableI (hX : X = (θ, sg θ nn, nn, oc, cc, ret, ini, lim)) {d l h off : Int} {offs : Array Int} {len : Nat} {x : Int32} {tgt : Nat} (hd : decode cc pc = .ok (.tableswitch d l h offs, len)) (hq : ¬ (x.toInt < l ∨ h < x.toInt)) (ho : offs[(x.toInt - l).toNat]? = some off) (ht : (pc : Int) + off = (tgt : Int)) : Wp X Q (pc, lo, .int x :: st, w) ↔ Wp X Q (tgt, lo, st, w) := by
  subst hX
  exact s_tableI (X := (θ, sg θ nn, nn, oc, cc, ret, ini, lim)) (d := d) (l := l) (h := h) (off := off) (offs := offs) (len := len) (x := x) (tgt := tgt) (sg_mono θ nn) hd hq ho ht
theorem tt_lookup (hX : X = (θ, sg θ nn, nn, oc, cc, ret, ini, lim)) {d off : Int} {ps : Array (Int × Int)} {len : Nat} {x : Int32} {tgt : Nat} (hd : decode cc pc = .ok (.lookupswitch d ps, len)) (hp : (ps.toList.zip (ps.toList.drop 1)).all (fun (a, next) => a.1 < next.1) = true) (ho : Op.lookupswitch.offset ps.toList d x.toInt = off) (ht : (pc : Int) + off = (tgt : Int)) : Wp X Q (pc, lo, .int x :: st, w) ↔ Wp X Q (tgt, lo, st, w) := by
  subst hX
  exact s_lookup (X := (θ, sg θ nn, nn, oc, cc, ret, ini, lim)) (d := d) (off := off) (ps := ps) (len := len) (x := x) (tgt := tgt) (sg_mono θ nn) hd hp ho ht
theorem tt_getf (hX : X = (θ, sg θ nn, nn, oc, cc, ret, ini, lim)) {idx a ci k : Nat} (hd : decode cc pc = .ok (.getfield idx, 3)) (hf : rFld.lookup (oc, idx) = some (ci, k)) : Wp X Q (pc, lo, .ref a :: st, w) ↔ (rF w a ci k).elim False (fun v => Wp X Q (pc + 3, lo, v :: st, w)) := by
  subst hX
  exact s_getf (X := (θ, sg θ nn, nn, oc, cc, ret, ini, lim)) (idx := idx) (a := a) (ci := ci) (k := k) (sg_mono θ nn) hd hf
theorem tt_putf (hX : X = (θ, sg θ nn, nn, oc, cc, ret, ini, lim)) {idx a ci k : Nat} {v : Value} {ty : FieldType} (hd : decode cc pc = .ok (.putfield idx, 3)) (hf : rFld.lookup (oc, idx) = some (ci, k)) (hty : parseFieldDescriptor (rTk ci k).2.2.1 = some ty) (hfit : fits ty v = true) (hfin : (rTk ci k).2.2.2 = false ∨ ((rTk ci k).2.2.2 = true ∧ ini = true ∧ oc = ci)) : Wp X Q (pc, lo, v :: .ref a :: st, w) ↔ (narrow ty v = v ∧ (rPf w a ci k v).elim False (fun w' => Wp X Q (pc + 3, lo, st, w'))) := by
  subst hX
  exact s_putf (X := (θ, sg θ nn, nn, oc, cc, ret, ini, lim)) (idx := idx) (a := a) (ci := ci) (k := k) (v := v) (ty := ty) (sg_mono θ nn) hd hf hty hfit hfin
theorem tt_putz (hX : X = (θ, sg θ nn, nn, oc, cc, ret, ini, lim)) {idx a ci k : Nat} {v : Value} {ty : FieldType} (hd : decode cc pc = .ok (.putfield idx, 3)) (hf : rFld.lookup (oc, idx) = some (ci, k)) (hty : parseFieldDescriptor (rTk ci k).2.2.1 = some ty) (hfin : (rTk ci k).2.2.2 = false ∨ ((rTk ci k).2.2.2 = true ∧ ini = true ∧ oc = ci)) : Wp X Q (pc, lo, v :: .ref a :: st, w) ↔ ((narrow ty v = v ∧ fits ty v = true) ∧ (rPf w a ci k v).elim False (fun w' => Wp X Q (pc + 3, lo, st, w'))) := by
  subst hX
  exact s_putz (X := (θ, sg θ nn, nn, oc, cc, ret, ini, lim)) (idx := idx) (a := a) (ci := ci) (k := k) (v := v) (ty := ty) (sg_mono θ nn) hd hf hty hfin
theorem tt_iaload (hX : X = (θ, sg θ nn, nn, oc, cc, ret, ini, lim)) {a : Nat} {i : Int32} (hd : decode cc pc = .ok (.iaload, 1)) : Wp X Q (pc, lo, .int i :: .ref a :: st, w) ↔ (vp_in i (rGn w a) ∧ Wp X Q (pc + 1, lo, .int (rGv w a i.toNatClampNeg) :: st, w)) := by
  subst hX
  exact s_iaload (X := (θ, sg θ nn, nn, oc, cc, ret, ini, lim)) (a := a) (i := i) (sg_mono θ nn) hd
theorem tt_baload (hX : X = (θ, sg θ nn, nn, oc, cc, ret, ini, lim)) {a : Nat} {i : Int32} (hd : decode cc pc = .ok (.baload, 1)) : Wp X Q (pc, lo, .int i :: .ref a :: st, w) ↔ (vp_in i (rBn w a) ∧ Wp X Q (pc + 1, lo, .int (rGv w a i.toNatClampNeg) :: st, w)) := by
  subst hX
  exact s_baload (X := (θ, sg θ nn, nn, oc, cc, ret, ini, lim)) (a := a) (i := i) (sg_mono θ nn) hd
theorem tt_laload (hX : X = (θ, sg θ nn, nn, oc, cc, ret, ini, lim)) {a : Nat} {i : Int32} (hd : decode cc pc = .ok (.laload, 1)) : Wp X Q (pc, lo, .int i :: .ref a :: st, w) ↔ (vp_in i (rLn w a) ∧ Wp X Q (pc + 1, lo, .long (rLg w a i.toNatClampNeg) :: st, w)) := by
  subst hX
  exact s_laload (X := (θ, sg θ nn, nn, oc, cc, ret, ini, lim)) (a := a) (i := i) (sg_mono θ nn) hd
theorem tt_aaload (hX : X = (θ, sg θ nn, nn, oc, cc, ret, ini, lim)) {a : Nat} {i : Int32} (hd : decode cc pc = .ok (.aaload, 1)) : Wp X Q (pc, lo, .int i :: .ref a :: st, w) ↔ (vp_in i (rRn w a) ∧ Wp X Q (pc + 1, lo, va_rf (rRg w a i.toNatClampNeg) :: st, w)) := by
  subst hX
  exact s_aaload (X := (θ, sg θ nn, nn, oc, cc, ret, ini, lim)) (a := a) (i := i) (sg_mono θ nn) hd
theorem tt_iastore (hX : X = (θ, sg θ nn, nn, oc, cc, ret, ini, lim)) {a : Nat} {i x : Int32} (hd : decode cc pc = .ok (.iastore, 1)) : Wp X Q (pc, lo, .int x :: .int i :: .ref a :: st, w) ↔ (vp_in i (rWn w a) ∧ Wp X Q (pc + 1, lo, st, rSi w a i.toNatClampNeg x)) := by
  subst hX
  exact s_iastore (X := (θ, sg θ nn, nn, oc, cc, ret, ini, lim)) (a := a) (i := i) (x := x) (sg_mono θ nn) hd
theorem tt_bastore (hX : X = (θ, sg θ nn, nn, oc, cc, ret, ini, lim)) {a : Nat} {i x : Int32} (hd : decode cc pc = .ok (.bastore, 1)) : Wp X Q (pc, lo, .int x :: .int i :: .ref a :: st, w) ↔ (vp_in i (rBw w a) ∧ Wp X Q (pc + 1, lo, st, rSb w a i.toNatClampNeg x)) := by
  subst hX
  exact s_bastore (X := (θ, sg θ nn, nn, oc, cc, ret, ini, lim)) (a := a) (i := i) (x := x) (sg_mono θ nn) hd
theorem tt_lastore (hX : X = (θ, sg θ nn, nn, oc, cc, ret, ini, lim)) {a : Nat} {i : Int32} {x : Int64} (hd : decode cc pc = .ok (.lastore, 1)) : Wp X Q (pc, lo, .long x :: .int i :: .ref a :: st, w) ↔ (vp_in i (rLn w a) ∧ Wp X Q (pc + 1, lo, st, rSl w a i.toNatClampNeg x)) := by
  subst hX
  exact s_lastore (X := (θ, sg θ nn, nn, oc, cc, ret, ini, lim)) (a := a) (i := i) (x := x) (sg_mono θ nn) hd
theorem tt_aastore (hX : X = (θ, sg θ nn, nn, oc, cc, ret, ini, lim)) {a x : Nat} {i : Int32} (hd : decode cc pc = .ok (.aastore, 1)) : Wp X Q (pc, lo, .ref x :: .int i :: .ref a :: st, w) ↔ (rIs w x 1 ∧ vp_in i (rRn w a) ∧ Wp X Q (pc + 1, lo, st, rSr w a i.toNatClampNeg x)) := by
  subst hX
  exact s_aastore (X := (θ, sg θ nn, nn, oc, cc, ret, ini, lim)) (a := a) (x := x) (i := i) (sg_mono θ nn) hd
theorem tt_alen (hX : X = (θ, sg θ nn, nn, oc, cc, ret, ini, lim)) {a : Nat} (hd : decode cc pc = .ok (.arraylength, 1)) : Wp X Q (pc, lo, .ref a :: st, w) ↔ (rLen w a).elim False (fun n => Wp X Q (pc + 1, lo, .int (Int32.ofNat n) :: st, w)) := by
  subst hX
  exact s_alen (X := (θ, sg θ nn, nn, oc, cc, ret, ini, lim)) (a := a) (sg_mono θ nn) hd
theorem tt_new (hX : X = (θ, sg θ nn, nn, oc, cc, ret, ini, lim)) {idx ci n : Nat} {fs : List Value} (hd : decode cc pc = .ok (.new idx, 3)) (hf : rCls.lookup (oc, idx) = some (ci, n, fs)) : Wp X Q (pc, lo, st, w) ↔ (w.2.1 + 1 ≤ lim.1 ∧ w.2.2 + n ≤ lim.2 ∧ Wp X Q (pc + 3, lo, .ref w.2.1 :: st, rNew w (rO ci fs) n)) := by
  subst hX
  exact s_new (X := (θ, sg θ nn, nn, oc, cc, ret, ini, lim)) (idx := idx) (ci := ci) (n := n) (fs := fs) (sg_mono θ nn) hd hf
theorem tt_newa (hX : X = (θ, sg θ nn, nn, oc, cc, ret, ini, lim)) {t : ArrayType} {n : Int32} {N : Nat} {e : rE} (hd : decode cc pc = .ok (.newarray t, 2)) (hn : ¬ n < 0) (hN : n.toNatClampNeg = N) (hle : N ≤ 1000) (hz : rZero t N = some e) : Wp X Q (pc, lo, .int n :: st, w) ↔ (w.2.1 + 1 ≤ lim.1 ∧ w.2.2 + N ≤ lim.2 ∧ Wp X Q (pc + 2, lo, .ref w.2.1 :: st, rNew w e N)) := by
  subst hX
  exact s_newa (X := (θ, sg θ nn, nn, oc, cc, ret, ini, lim)) (t := t) (n := n) (N := N) (e := e) (sg_mono θ nn) hd hn hN hle hz
theorem tt_anew (hX : X = (θ, sg θ nn, nn, oc, cc, ret, ini, lim)) {idx : Nat} {n : Int32} {N : Nat} (hd : decode cc pc = .ok (.anewarray idx, 3)) (hi : (oc, idx) = (4, 33)) (hn : ¬ n < 0) (hN : n.toNatClampNeg = N) (hle : N ≤ 1000) : Wp X Q (pc, lo, .int n :: st, w) ↔ (w.2.1 + 1 ≤ lim.1 ∧ w.2.2 + N ≤ lim.2 ∧ Wp X Q (pc + 3, lo, .ref w.2.1 :: st, rNew w (.inr (.inr (.inl (N, fun _ => none)))) N)) := by
  subst hX
  exact s_anew (X := (θ, sg θ nn, nn, oc, cc, ret, ini, lim)) (idx := idx) (n := n) (N := N) (sg_mono θ nn) hd hi hn hN hle
theorem tt_callV (hX : X = (θ, sg θ nn, nn, oc, cc, ret, ini, lim)) {idx mid a : Nat} {md : rM} {As r : List Value} (hd : decode cc pc = .ok (.invokevirtual idx, 3)) (hf : rCal.lookup (oc, idx) = some (0, mid)) (hm : rMth mid = some md) (hz : md.2.2.2.2.2.2.1 = 0 ∧ md.2.2.2.2.2.2.2 = 0) (hn : As.length = md.2.2.2.2.2.1) (hst : st = As.reverse ++ .ref a :: r) (hc : rCat r ≤ 8) {ci : Nat} (hci : (if md.2.2.2.2.1 = 7 then 100 else md.2.2.2.2.1) = ci) : Wp X Q (pc, lo, st, w) ↔ (rIs w a ci ∧ sg θ nn mid (.ref a :: As) w (fun v w' => Wp X Q (pc + 3, lo, v.toList ++ r, w'))) := by
  subst hX
  exact s_callV (X := (θ, sg θ nn, nn, oc, cc, ret, ini, lim)) (idx := idx) (mid := mid) (a := a) (md := md) (As := As) (r := r) (ci := ci) (sg_mono θ nn) hd hf hm hz hn hst hc hci
theorem tt_callI (hX : X = (θ, sg θ nn, nn, oc, cc, ret, ini, lim)) {idx mid a kd : Nat} {md : rM} {As r : List Value} (hd : decode cc pc = .ok (.invokespecial idx, 3)) (hk : kd = 2 ∨ kd = 3) (hf : rCal.lookup (oc, idx) = some (kd, mid)) (hm : rMth mid = some md) (hn : As.length = md.2.2.2.2.2.1) (hst : st = As.reverse ++ .ref a :: r) (hc : rCat r ≤ 8) {ci : Nat} (hci : (if md.2.2.2.2.1 = 7 then 100 else md.2.2.2.2.1) = ci) : Wp X Q (pc, lo, st, w) ↔ (rMs md lim w ∧ rIs w a ci ∧ sg θ nn mid (.ref a :: As) w (fun v w' => Wp X Q (pc + 3, lo, v.toList ++ r, w'))) := by
  subst hX
  exact s_callI (X := (θ, sg θ nn, nn, oc, cc, ret, ini, lim)) (idx := idx) (mid := mid) (a := a) (kd := kd) (md := md) (As := As) (r := r) (ci := ci) (sg_mono θ nn) hd hk hf hm hn hst hc hci
theorem tt_objI (hX : X = (θ, sg θ nn, nn, oc, cc, ret, ini, lim)) {idx a : Nat} {r : List Value} (hd : decode cc pc = .ok (.invokespecial idx, 3)) (hf : rCal.lookup (oc, idx) = some (4, 0)) (h1 : 1 ≤ nn) (hc : rCat r ≤ 8) : Wp X Q (pc, lo, .ref a :: r, w) ↔ Wp X Q (pc + 3, lo, r, w) := by
  subst hX
  exact s_objI (X := (θ, sg θ nn, nn, oc, cc, ret, ini, lim)) (idx := idx) (a := a) (r := r) (sg_mono θ nn) hd hf h1 hc
theorem tt_callS (hX : X = (θ, sg θ nn, nn, oc, cc, ret, ini, lim)) {idx mid : Nat} {md : rM} {As r : List Value} (hd : decode cc pc = .ok (.invokestatic idx, 3)) (hf : rCal.lookup (oc, idx) = some (1, mid)) (hm : rMth mid = some md) (hz : md.2.2.2.2.2.2.1 = 0 ∧ md.2.2.2.2.2.2.2 = 0) (hn : As.length = md.2.2.2.2.2.1) (hst : st = As.reverse ++ r) (hc : rCat r ≤ 8) : Wp X Q (pc, lo, st, w) ↔ sg θ nn mid As w (fun v w' => Wp X Q (pc + 3, lo, v.toList ++ r, w')) := by
  subst hX
  exact s_callS (X := (θ, sg θ nn, nn, oc, cc, ret, ini, lim)) (idx := idx) (mid := mid) (md := md) (As := As) (r := r) (sg_mono θ nn) hd hf hm hz hn hst hc
theorem tt_max (hX : X = (θ, sg θ nn, nn, oc, cc, ret, ini, lim)) {idx : Nat} {x y : Int32} {r : List Value} (hd : decode cc pc = .ok (.invokestatic idx, 3)) (hf : rCal.lookup (oc, idx) = some (6, 0)) (h1 : 1 ≤ nn) (hc : rCat r ≤ 8) : Wp X Q (pc, lo, .int y :: .int x :: r, w) ↔ Wp X Q (pc + 3, lo, .int (iMax x y) :: r, w) := by
  subst hX
  exact s_max (X := (θ, sg θ nn, nn, oc, cc, ret, ini, lim)) (idx := idx) (x := x) (y := y) (r := r) (sg_mono θ nn) hd hf h1 hc
theorem tt_min (hX : X = (θ, sg θ nn, nn, oc, cc, ret, ini, lim)) {idx : Nat} {x y : Int32} {r : List Value} (hd : decode cc pc = .ok (.invokestatic idx, 3)) (hf : rCal.lookup (oc, idx) = some (7, 0)) (h1 : 1 ≤ nn) (hc : rCat r ≤ 8) : Wp X Q (pc, lo, .int y :: .int x :: r, w) ↔ Wp X Q (pc + 3, lo, .int (iMin x y) :: r, w) := by
  subst hX
  exact s_min (X := (θ, sg θ nn, nn, oc, cc, ret, ini, lim)) (idx := idx) (x := x) (y := y) (r := r) (sg_mono θ nn) hd hf h1 hc
theorem tt_cpI (hX : X = (θ, sg θ nn, nn, oc, cc, ret, ini, lim)) {idx a0 a n0 n1 : Nat} {f g : Nat → Int32} {sp dp n : Int32} {r : List Value} (hd : decode cc pc = .ok (.invokestatic idx, 3)) (hf : rCal.lookup (oc, idx) = some (5, 0)) (h1 : 1 ≤ nn) (hc : rCat r ≤ 8) (ha0 : w.1 a0 = some (.inl (0, n0, f))) (ha : w.1 a = some (.inl (0, n1, g))) (g1 : ¬ sp < 0) (g2 : ¬ dp < 0) (g3 : ¬ n < 0) (g4 : sp.toNatClampNeg + n.toNatClampNeg ≤ n0) (g5 : dp.toNatClampNeg + n.toNatClampNeg ≤ n1) : Wp X Q (pc, lo, .int n :: .int dp :: .ref a :: .int sp :: .ref a0 :: r, w) ↔ Wp X Q (pc + 3, lo, r, rU w a (.inl (0, n1, va_cpy f g sp.toNatClampNeg dp.toNatClampNeg n.toNatClampNeg))) := by
  subst hX
  exact s_cpI (X := (θ, sg θ nn, nn, oc, cc, ret, ini, lim)) (idx := idx) (a0 := a0) (a := a) (n0 := n0) (n1 := n1) (f := f) (g := g) (sp := sp) (dp := dp) (n := n) (r := r) (sg_mono θ nn) hd hf h1 hc ha0 ha g1 g2 g3 g4 g5
theorem tt_cpL (hX : X = (θ, sg θ nn, nn, oc, cc, ret, ini, lim)) {idx a0 a n0 n1 : Nat} {f g : Nat → Int64} {sp dp n : Int32} {r : List Value} (hd : decode cc pc = .ok (.invokestatic idx, 3)) (hf : rCal.lookup (oc, idx) = some (5, 0)) (h1 : 1 ≤ nn) (hc : rCat r ≤ 8) (ha0 : w.1 a0 = some (.inr (.inl (n0, f)))) (ha : w.1 a = some (.inr (.inl (n1, g)))) (g1 : ¬ sp < 0) (g2 : ¬ dp < 0) (g3 : ¬ n < 0) (g4 : sp.toNatClampNeg + n.toNatClampNeg ≤ n0) (g5 : dp.toNatClampNeg + n.toNatClampNeg ≤ n1) : Wp X Q (pc, lo, .int n :: .int dp :: .ref a :: .int sp :: .ref a0 :: r, w) ↔ Wp X Q (pc + 3, lo, r, rU w a (.inr (.inl (n1, va_cpy f g sp.toNatClampNeg dp.toNatClampNeg n.toNatClampNeg)))) := by
  subst hX
  exact s_cpL (X := (θ, sg θ nn, nn, oc, cc, ret, ini, lim)) (idx := idx) (a0 := a0) (a := a) (n0 := n0) (n1 := n1) (f := f) (g := g) (sp := sp) (dp := dp) (n := n) (r := r) (sg_mono θ nn) hd hf h1 hc ha0 ha g1 g2 g3 g4 g5
theorem tt_iret (hX : X = (θ, sg θ nn, nn, oc, cc, ret, ini, lim)) {x : Int32} {ty : FieldType} (hd : decode cc pc = .ok (.ireturn, 1)) (hr : ret = some ty) : Wp X Q (pc, lo, [.int x], w) ↔ (narrow ty (.int x) = .int x ∧ Q (some (.int x)) w) := by
  subst hX
  exact s_iret (X := (θ, sg θ nn, nn, oc, cc, ret, ini, lim)) (x := x) (ty := ty) (sg_mono θ nn) hd hr
theorem tt_lret (hX : X = (θ, sg θ nn, nn, oc, cc, ret, ini, lim)) {x : Int64} (hd : decode cc pc = .ok (.lreturn, 1)) (hr : ret = some .long) : Wp X Q (pc, lo, [.long x], w) ↔ Q (some (.long x)) w := by
  subst hX
  exact s_lret (X := (θ, sg θ nn, nn, oc, cc, ret, ini, lim)) (x := x) (sg_mono θ nn) hd hr
theorem tt_aret (hX : X = (θ, sg θ nn, nn, oc, cc, ret, ini, lim)) {x : Nat} {ty : FieldType} (hd : decode cc pc = .ok (.areturn, 1)) (hr : ret = some ty) (ht : (∃ n, ty = .object n) ∨ ∃ t, ty = .array t) : Wp X Q (pc, lo, [.ref x], w) ↔ Q (some (.ref x)) w := by
  subst hX
  exact s_aret (X := (θ, sg θ nn, nn, oc, cc, ret, ini, lim)) (x := x) (ty := ty) (sg_mono θ nn) hd hr ht
theorem tt_vret (hX : X = (θ, sg θ nn, nn, oc, cc, ret, ini, lim)) (hd : decode cc pc = .ok (.return_, 1)) (hr : ret = none) : Wp X Q (pc, lo, [], w) ↔ Q none w := by
  subst hX
  exact s_vret (X := (θ, sg θ nn, nn, oc, cc, ret, ini, lim))  (sg_mono θ nn) hd hr
end TSTEP
