/-! abstract cells: int or byte rows (0 int, 1 byte, 2 int of another's, 3 byte of another's), long rows, rows of references, objects -/
abbrev rE : Type := (Nat × Nat × (Nat → Int32)) ⊕ ((Nat × (Nat → Int64)) ⊕ ((Nat × (Nat → Option Nat)) ⊕ (Nat × List Value)))
/-- the heap, its size, the slots that were made -/
abbrev rW : Type := (Nat → Option rE) × Nat × Nat
abbrev rQ : Type := Option Value → rW → Prop
abbrev rS : Type := Nat × List (Option Value) × List Value × rW
abbrev rSg : Type := Nat → List Value → rW → rQ → Prop
/-- an object as a cell -/
abbrev rO (ci : Nat) (fs : List Value) : rE := .inr (.inr (.inr (ci, fs)))
abbrev rIA (n : Nat) (g : Nat → Int32) : rE := .inl (0, n, g)
abbrev rBA (n : Nat) (g : Nat → Int32) : rE := .inl (1, n, g)
abbrev rLA (n : Nat) (g : Nat → Int64) : rE := .inr (.inl (n, g))
abbrev rRA (n : Nat) (g : Nat → Option Nat) : rE := .inr (.inr (.inl (n, g)))
def rU (w : rW) (a : Nat) (e : rE) : rW := (fun q => if q = a then some e else w.1 q, w.2)
def rNew (w : rW) (e : rE) (k : Nat) : rW := (fun q => if q = w.2.1 then some e else w.1 q, w.2.1 + 1, w.2.2 + k)
def rF (w : rW) (a ci k : Nat) : Option Value := match w.1 a with
  | some (.inr (.inr (.inr (c, fs)))) => if c = ci then fs[k]? else none
  | _ => none
def rPf (w : rW) (a ci k : Nat) (v : Value) : Option rW := match w.1 a with
  | some (.inr (.inr (.inr (c, fs)))) => if c = ci ∧ c < 6 ∧ k < fs.length then some (rU w a (rO c (fs.set k v))) else none
  | _ => none
def rLen (w : rW) (a : Nat) : Option Nat := match w.1 a with
  | some (.inl (_, n, _)) => some n
  | some (.inr (.inl (n, _))) => some n
  | some (.inr (.inr (.inl (n, _)))) => some n
  | _ => none
def rIs (w : rW) (a ci : Nat) : Prop := ∃ fs, w.1 a = some (rO ci fs)
def rTk (ci k : Nat) : String × String × String × Bool := match vwCl[ci]? with
  | some q => q.2.1 k
  | none => ("", "", "", false)
def rNf (ci : Nat) : Nat := match vwCl[ci]? with
  | some q => q.2.2
  | none => 0
/-- no long begins just ahead of a place -/
def rNL (lo : List (Option Value)) (i : Nat) : Bool := match i with
  | 0 => true
  | j + 1 => match lo[j]? with
    | some (some v) => v.category != 2
    | _ => true
def rIf (c : ClassFile.Cond) (x y : Int32) : Prop := match c with
  | .eq => x = y
  | .ne => ¬ x = y
  | .lt => x < y
  | .ge => y ≤ x
  | .gt => y < x
  | .le => x ≤ y
def rJ (pc : Nat) (off : Int) : Nat := ((pc : Int) + off).toNat
section RI
variable (R : rS → Prop) (pc : Nat) (lo : List (Option Value)) (st : List Value) (w : rW)
def rPush (len : Nat) (v : Value) : Prop := R (pc + len, lo, v :: st, w)
def rBin (f : Int32 → Int32 → Int32) : Prop := ∃ x y r, st = .int y :: .int x :: r ∧ R (pc + 1, lo, .int (f x y) :: r, w)
def rDiv (f : Int32 → Int32 → Int32) : Prop := ∃ x y r, st = .int y :: .int x :: r ∧ ¬ y = 0 ∧ R (pc + 1, lo, .int (f x y) :: r, w)
def rUn (f : Int32 → Int32) : Prop := ∃ x r, st = .int x :: r ∧ R (pc + 1, lo, .int (f x) :: r, w)
def rBinL (f : Int64 → Int64 → Int64) : Prop := ∃ x y r, st = .long y :: .long x :: r ∧ R (pc + 1, lo, .long (f x y) :: r, w)
def rShL (f : Int64 → Int32 → Int64) : Prop := ∃ x y r, st = .int y :: .long x :: r ∧ R (pc + 1, lo, .long (f x y) :: r, w)
def rCmpL : Prop := ∃ x y r, st = .long y :: .long x :: r ∧ R (pc + 1, lo, .int (lg_cmp x y) :: r, w)
def rI2L : Prop := ∃ x r, st = .int x :: r ∧ R (pc + 1, lo, .long x.toInt64 :: r, w)
def rL2I : Prop := ∃ x r, st = .long x :: r ∧ R (pc + 1, lo, .int x.toInt32 :: r, w)
def rLdI (len i : Nat) : Prop := ∃ x, lo[i]? = some (some (.int x)) ∧ R (pc + len, lo, .int x :: st, w)
def rLdL (len i : Nat) : Prop := ∃ x, lo[i]? = some (some (.long x)) ∧ R (pc + len, lo, .long x :: st, w)
def rLdA (len i : Nat) : Prop := ∃ x, lo[i]? = some (some (.ref x)) ∧ R (pc + len, lo, .ref x :: st, w)
def rStI (len i : Nat) : Prop := ∃ x r, st = .int x :: r ∧ i < lo.length ∧ rNL lo i = true ∧ R (pc + len, lo.set i (some (.int x)), r, w)
def rStA (len i : Nat) : Prop := ∃ x r, st = .ref x :: r ∧ i < lo.length ∧ rNL lo i = true ∧ R (pc + len, lo.set i (some (.ref x)), r, w)
def rStL (len i : Nat) : Prop := ∃ x r, st = .long x :: r ∧ i + 1 < lo.length ∧ rNL lo i = true ∧ R (pc + len, (lo.set i (some (.long x))).set (i + 1) none, r, w)
def rInc (i : Nat) (n : Int) : Prop := ∃ x, lo[i]? = some (some (.int x)) ∧ R (pc + 3, lo.set i (some (.int (x + Int32.ofInt n))), st, w)
def rDup : Prop := ∃ v r, st = v :: r ∧ v.category = 1 ∧ R (pc + 1, lo, v :: v :: r, w)
def rPop : Prop := ∃ v r, st = v :: r ∧ v.category = 1 ∧ R (pc + 1, lo, r, w)
def rDup2 : Prop := ∃ v u r, st = v :: u :: r ∧ v.category = 1 ∧ u.category = 1 ∧ R (pc + 1, lo, v :: u :: v :: u :: r, w)
def rCo (c : ClassFile.Cond) (off : Int) : Prop := ∃ x r, st = .int x :: r ∧ 0 ≤ (pc : Int) + off ∧ (rIf c x 0 → R (rJ pc off, lo, r, w)) ∧ (¬ rIf c x 0 → R (pc + 3, lo, r, w))
def rCo2 (c : ClassFile.Cond) (off : Int) : Prop := ∃ x y r, st = .int y :: .int x :: r ∧ 0 ≤ (pc : Int) + off ∧ (rIf c x y → R (rJ pc off, lo, r, w)) ∧ (¬ rIf c x y → R (pc + 3, lo, r, w))
def rGo (off : Int) : Prop := 0 ≤ (pc : Int) + off ∧ R (rJ pc off, lo, st, w)
def rTs (dflt l h : Int) (offs : Array Int) : Prop := ∃ x r, st = .int x :: r ∧ ((x.toInt < l ∨ h < x.toInt) → 0 ≤ (pc : Int) + dflt ∧ R (rJ pc dflt, lo, r, w)) ∧ (¬ (x.toInt < l ∨ h < x.toInt) → ∃ off, offs[(x.toInt - l).toNat]? = some off ∧ 0 ≤ (pc : Int) + off ∧ R (rJ pc off, lo, r, w))
def rLs (dflt : Int) (ps : Array (Int × Int)) : Prop := ∃ x r, st = .int x :: r ∧ (ps.toList.zip (ps.toList.drop 1)).all (fun (a, next) => a.1 < next.1) = true ∧ 0 ≤ (pc : Int) + Op.lookupswitch.offset ps.toList dflt x.toInt ∧ R (rJ pc (Op.lookupswitch.offset ps.toList dflt x.toInt), lo, r, w)
def rGetf (oc idx : Nat) : Prop := ∃ a r ci k v, st = .ref a :: r ∧ rFld.lookup (oc, idx) = some (ci, k) ∧ rF w a ci k = some v ∧ R (pc + 3, lo, v :: r, w)
def rPutf (oc : Nat) (ini : Bool) (idx : Nat) : Prop := ∃ v a r ci k ty w', st = v :: .ref a :: r ∧ rFld.lookup (oc, idx) = some (ci, k) ∧ parseFieldDescriptor (rTk ci k).2.2.1 = some ty ∧ narrow ty v = v ∧ fits ty v = true ∧ ((rTk ci k).2.2.2 = false ∨ ((rTk ci k).2.2.2 = true ∧ ini = true ∧ oc = ci)) ∧ rPf w a ci k v = some w' ∧ R (pc + 3, lo, r, w')
def rIal : Prop := ∃ i a r t n g, st = .int i :: .ref a :: r ∧ w.1 a = some (.inl (t, n, g)) ∧ (t = 0 ∨ t = 2) ∧ vp_in i n ∧ R (pc + 1, lo, .int (g i.toNatClampNeg) :: r, w)
def rBal : Prop := ∃ i a r t n g, st = .int i :: .ref a :: r ∧ w.1 a = some (.inl (t, n, g)) ∧ (t = 1 ∨ t = 3) ∧ vp_in i n ∧ R (pc + 1, lo, .int (g i.toNatClampNeg) :: r, w)
def rLal : Prop := ∃ i a r n g, st = .int i :: .ref a :: r ∧ w.1 a = some (.inr (.inl (n, g))) ∧ vp_in i n ∧ R (pc + 1, lo, .long (g i.toNatClampNeg) :: r, w)
def rAal : Prop := ∃ i a r n g, st = .int i :: .ref a :: r ∧ w.1 a = some (.inr (.inr (.inl (n, g)))) ∧ vp_in i n ∧ R (pc + 1, lo, va_rf (g i.toNatClampNeg) :: r, w)
def rIas : Prop := ∃ x i a r n g, st = .int x :: .int i :: .ref a :: r ∧ w.1 a = some (.inl (0, n, g)) ∧ vp_in i n ∧ R (pc + 1, lo, r, rU w a (.inl (0, n, upd g i.toNatClampNeg x)))
def rBas : Prop := ∃ x i a r n g, st = .int x :: .int i :: .ref a :: r ∧ w.1 a = some (.inl (1, n, g)) ∧ vp_in i n ∧ R (pc + 1, lo, r, rU w a (.inl (1, n, upd g i.toNatClampNeg (vp_nar .byte x))))
def rLas : Prop := ∃ x i a r n g, st = .long x :: .int i :: .ref a :: r ∧ w.1 a = some (.inr (.inl (n, g))) ∧ vp_in i n ∧ R (pc + 1, lo, r, rU w a (.inr (.inl (n, vp_updL g i.toNatClampNeg x))))
def rAas : Prop := ∃ x i a r n g, st = .ref x :: .int i :: .ref a :: r ∧ w.1 a = some (.inr (.inr (.inl (n, g)))) ∧ rIs w x 1 ∧ vp_in i n ∧ R (pc + 1, lo, r, rU w a (.inr (.inr (.inl (n, va_up g i.toNatClampNeg (some x))))))
def rAln : Prop := ∃ a r n, st = .ref a :: r ∧ rLen w a = some n ∧ R (pc + 1, lo, .int (Int32.ofNat n) :: r, w)
def rNw (lim : Nat × Nat) (oc idx : Nat) : Prop := ∃ ci n fs, rCls.lookup (oc, idx) = some (ci, n, fs) ∧ w.2.1 + 1 ≤ lim.1 ∧ w.2.2 + n ≤ lim.2 ∧ R (pc + 3, lo, .ref w.2.1 :: st, rNew w (rO ci fs) n)
def rZero (t : ArrayType) (n : Nat) : Option rE := match t with
  | .int => some (.inl (0, n, fun _ => 0))
  | .byte => some (.inl (1, n, fun _ => 0))
  | .long => some (.inr (.inl (n, fun _ => 0)))
  | _ => none
def rNwa (lim : Nat × Nat) (t : ArrayType) : Prop := ∃ n r e, st = .int n :: r ∧ ¬ n < 0 ∧ n.toNatClampNeg ≤ 1000 ∧ rZero t n.toNatClampNeg = some e ∧ w.2.1 + 1 ≤ lim.1 ∧ w.2.2 + n.toNatClampNeg ≤ lim.2 ∧ R (pc + 2, lo, .ref w.2.1 :: r, rNew w e n.toNatClampNeg)
def rAnw (lim : Nat × Nat) (oc idx : Nat) : Prop := ∃ n r, st = .int n :: r ∧ (oc, idx) = (4, 33) ∧ ¬ n < 0 ∧ n.toNatClampNeg ≤ 1000 ∧ w.2.1 + 1 ≤ lim.1 ∧ w.2.2 + n.toNatClampNeg ≤ lim.2 ∧ R (pc + 3, lo, .ref w.2.1 :: r, rNew w (.inr (.inr (.inl (n.toNatClampNeg, fun _ => none)))) n.toNatClampNeg)
def rCat (r : List Value) : Nat := (r.map fun v => v.category).sum
/-- what a method makes has room -/
def rMs (md : rM) (lim : Nat × Nat) (w : rW) : Prop := (md.2.2.2.2.2.2.1 = 0 ∧ md.2.2.2.2.2.2.2 = 0) ∨ (w.2.1 + md.2.2.2.2.2.2.1 ≤ lim.1 ∧ w.2.2 + md.2.2.2.2.2.2.2 ≤ lim.2)
def rCv (lim : Nat × Nat) (σ : rSg) (oc idx kd : Nat) : Prop := ∃ md mid As a r, rCal.lookup (oc, idx) = some (kd, mid) ∧ rMth mid = some md ∧ rMs md lim w ∧ As.length = md.2.2.2.2.2.1 ∧ st = As.reverse ++ .ref a :: r ∧ rCat r ≤ 8 ∧ rIs w a (if md.2.2.2.2.1 = 7 then 100 else md.2.2.2.2.1) ∧ σ mid (.ref a :: As) w (fun v w' => R (pc + 3, lo, v.toList ++ r, w'))
def rCs (lim : Nat × Nat) (σ : rSg) (oc idx : Nat) : Prop := ∃ md mid As r, rCal.lookup (oc, idx) = some (1, mid) ∧ rMth mid = some md ∧ rMs md lim w ∧ As.length = md.2.2.2.2.2.1 ∧ st = As.reverse ++ r ∧ rCat r ≤ 8 ∧ σ mid As w (fun v w' => R (pc + 3, lo, v.toList ++ r, w'))
def rCo4 (fr oc idx : Nat) : Prop := ∃ a r, rCal.lookup (oc, idx) = some (4, 0) ∧ 1 ≤ fr ∧ st = .ref a :: r ∧ rCat r ≤ 8 ∧ R (pc + 3, lo, r, w)
/-- System.arraycopy between two int rows, or two long rows, of ours -/
def rCpI (fr oc idx : Nat) : Prop := ∃ a0 sp a dp n r n0 n1 f g, rCal.lookup (oc, idx) = some (5, 0) ∧ 1 ≤ fr ∧ st = .int n :: .int dp :: .ref a :: .int sp :: .ref a0 :: r ∧ rCat r ≤ 8 ∧ w.1 a0 = some (.inl (0, n0, f)) ∧ w.1 a = some (.inl (0, n1, g)) ∧ ¬ sp < 0 ∧ ¬ dp < 0 ∧ ¬ n < 0 ∧ sp.toNatClampNeg + n.toNatClampNeg ≤ n0 ∧ dp.toNatClampNeg + n.toNatClampNeg ≤ n1 ∧ R (pc + 3, lo, r, rU w a (.inl (0, n1, va_cpy f g sp.toNatClampNeg dp.toNatClampNeg n.toNatClampNeg)))
def rMx (fr oc idx : Nat) : Prop := ∃ x y r, rCal.lookup (oc, idx) = some (6, 0) ∧ 1 ≤ fr ∧ st = .int y :: .int x :: r ∧ rCat r ≤ 8 ∧ R (pc + 3, lo, .int (if x < y then y else x) :: r, w)
def rMn (fr oc idx : Nat) : Prop := ∃ x y r, rCal.lookup (oc, idx) = some (7, 0) ∧ 1 ≤ fr ∧ st = .int y :: .int x :: r ∧ rCat r ≤ 8 ∧ R (pc + 3, lo, .int (if y < x then y else x) :: r, w)
def rCpL (fr oc idx : Nat) : Prop := ∃ a0 sp a dp n r n0 n1 f g, rCal.lookup (oc, idx) = some (5, 0) ∧ 1 ≤ fr ∧ st = .int n :: .int dp :: .ref a :: .int sp :: .ref a0 :: r ∧ rCat r ≤ 8 ∧ w.1 a0 = some (.inr (.inl (n0, f))) ∧ w.1 a = some (.inr (.inl (n1, g))) ∧ ¬ sp < 0 ∧ ¬ dp < 0 ∧ ¬ n < 0 ∧ sp.toNatClampNeg + n.toNatClampNeg ≤ n0 ∧ dp.toNatClampNeg + n.toNatClampNeg ≤ n1 ∧ R (pc + 3, lo, r, rU w a (.inr (.inl (n1, va_cpy f g sp.toNatClampNeg dp.toNatClampNeg n.toNatClampNeg))))
def rLdc (θ : (Nat → Value) × (Nat → Nat)) (oc idx : Nat) : Prop := (∃ v, rCst.lookup (oc, idx) = some v ∧ R (pc + 2, lo, .int v :: st, w)) ∨ (∃ k, rStr.lookup (oc, idx) = some k ∧ R (pc + 2, lo, .ref (θ.2 k) :: st, w))
def rLdcw (oc idx : Nat) : Prop := ∃ v, rCst.lookup (oc, idx) = some v ∧ R (pc + 3, lo, .int v :: st, w)
def rLdc2 (oc idx : Nat) : Prop := ∃ v, rLng.lookup (oc, idx) = some v ∧ R (pc + 3, lo, .long v :: st, w)
def rGs (θ : (Nat → Value) × (Nat → Nat)) (oc idx : Nat) : Prop := ∃ k, rSta.lookup (oc, idx) = some k ∧ R (pc + 3, lo, θ.1 k :: st, w)
end RI
/-- what a return hands out -/
def rRet (i : Instr) (ret : Option FieldType) (st : List Value) (v : Option Value) : Prop := match i with
  | .ireturn => ∃ x ty, st = [.int x] ∧ ret = some ty ∧ narrow ty (.int x) = .int x ∧ v = some (.int x)
  | .lreturn => ∃ x, st = [.long x] ∧ ret = some .long ∧ v = some (.long x)
  | .areturn => ∃ x ty, st = [.ref x] ∧ ret = some ty ∧ ((∃ n, ty = .object n) ∨ ∃ t, ty = .array t) ∧ v = some (.ref x)
  | .return_ => st = [] ∧ ret = none ∧ v = none
  | _ => False
/-- one instruction: what must hold so that R holds of what it comes to -/
def rI (θ : (Nat → Value) × (Nat → Nat)) (σ : rSg) (fr oc : Nat) (ret : Option FieldType) (ini : Bool) (lim : Nat × Nat) (R : rS → Prop) (Q : rQ) (i : Instr) (len pc : Nat) (lo : List (Option Value)) (st : List Value) (w : rW) : Prop := match i with
  | .iconst n => len = 1 ∧ rPush R pc lo st w 1 (.int (Int32.ofInt n))
  | .bipush n => len = 2 ∧ rPush R pc lo st w 2 (.int (Int8.ofInt n).toInt32)
  | .sipush n => len = 3 ∧ rPush R pc lo st w 3 (.int (Int16.ofInt n).toInt32)
  | .lconst n => len = 1 ∧ rPush R pc lo st w 1 (.long (Int64.ofNat (n : Nat)))
  | .ldc k => len = 2 ∧ rLdc R pc lo st w θ oc k
  | .ldc_w k => len = 3 ∧ rLdcw R pc lo st w oc k
  | .ldc2_w k => len = 3 ∧ rLdc2 R pc lo st w oc k
  | .iload_n k => len = 1 ∧ rLdI R pc lo st w 1 k
  | .iload k => len = 2 ∧ rLdI R pc lo st w 2 k
  | .lload_n k => len = 1 ∧ rLdL R pc lo st w 1 k
  | .lload k => len = 2 ∧ rLdL R pc lo st w 2 k
  | .aload_n k => len = 1 ∧ rLdA R pc lo st w 1 k
  | .aload k => len = 2 ∧ rLdA R pc lo st w 2 k
  | .istore_n k => len = 1 ∧ rStI R pc lo st w 1 k
  | .istore k => len = 2 ∧ rStI R pc lo st w 2 k
  | .lstore_n k => len = 1 ∧ rStL R pc lo st w 1 k
  | .lstore k => len = 2 ∧ rStL R pc lo st w 2 k
  | .astore_n k => len = 1 ∧ rStA R pc lo st w 1 k
  | .astore k => len = 2 ∧ rStA R pc lo st w 2 k
  | .iinc k n => len = 3 ∧ rInc R pc lo st w k n
  | .iadd => len = 1 ∧ rBin R pc lo st w (fun x y => x + y)
  | .isub => len = 1 ∧ rBin R pc lo st w (fun x y => x - y)
  | .imul => len = 1 ∧ rBin R pc lo st w (fun x y => x * y)
  | .iand => len = 1 ∧ rBin R pc lo st w (fun x y => x &&& y)
  | .ior => len = 1 ∧ rBin R pc lo st w (fun x y => x ||| y)
  | .ixor => len = 1 ∧ rBin R pc lo st w (fun x y => x ^^^ y)
  | .ishl => len = 1 ∧ rBin R pc lo st w (fun x y => x <<< (y &&& 31))
  | .ishr => len = 1 ∧ rBin R pc lo st w (fun x y => x >>> (y &&& 31))
  | .iushr => len = 1 ∧ rBin R pc lo st w (fun x y => (x.toUInt32 >>> (y.toUInt32 &&& Int32.toUInt32 31)).toInt32)
  | .idiv => len = 1 ∧ rDiv R pc lo st w (fun x y => x / y)
  | .irem => len = 1 ∧ rDiv R pc lo st w (fun x y => x - x / y * y)
  | .ineg => len = 1 ∧ rUn R pc lo st w (fun x => -x)
  | .i2b => len = 1 ∧ rUn R pc lo st w (fun x => x.toInt8.toInt32)
  | .i2s => len = 1 ∧ rUn R pc lo st w (fun x => x.toInt16.toInt32)
  | .i2c => len = 1 ∧ rUn R pc lo st w (fun x => (x.toUInt32 % 65536).toInt32)
  | .ladd => len = 1 ∧ rBinL R pc lo st w (fun x y => x + y)
  | .lsub => len = 1 ∧ rBinL R pc lo st w (fun x y => x - y)
  | .lmul => len = 1 ∧ rBinL R pc lo st w (fun x y => x * y)
  | .land => len = 1 ∧ rBinL R pc lo st w (fun x y => x &&& y)
  | .lor => len = 1 ∧ rBinL R pc lo st w (fun x y => x ||| y)
  | .lshl => len = 1 ∧ rShL R pc lo st w (fun x y => x <<< (y.toInt64 &&& 63))
  | .lshr => len = 1 ∧ rShL R pc lo st w (fun x y => x >>> (y.toInt64 &&& 63))
  | .lcmp => len = 1 ∧ rCmpL R pc lo st w
  | .i2l => len = 1 ∧ rI2L R pc lo st w
  | .l2i => len = 1 ∧ rL2I R pc lo st w
  | .dup => len = 1 ∧ rDup R pc lo st w
  | .dup2 => len = 1 ∧ rDup2 R pc lo st w
  | .pop => len = 1 ∧ rPop R pc lo st w
  | .ifCond c off => len = 3 ∧ rCo R pc lo st w c off
  | .if_icmp c off => len = 3 ∧ rCo2 R pc lo st w c off
  | .goto off => len = 3 ∧ rGo R pc lo st w off
  | .tableswitch d l h offs => rTs R pc lo st w d l h offs
  | .lookupswitch d ps => rLs R pc lo st w d ps
  | .getfield k => len = 3 ∧ rGetf R pc lo st w oc k
  | .putfield k => len = 3 ∧ rPutf R pc lo st w oc ini k
  | .getstatic k => len = 3 ∧ rGs R pc lo st w θ oc k
  | .iaload => len = 1 ∧ rIal R pc lo st w
  | .baload => len = 1 ∧ rBal R pc lo st w
  | .laload => len = 1 ∧ rLal R pc lo st w
  | .aaload => len = 1 ∧ rAal R pc lo st w
  | .iastore => len = 1 ∧ rIas R pc lo st w
  | .bastore => len = 1 ∧ rBas R pc lo st w
  | .lastore => len = 1 ∧ rLas R pc lo st w
  | .aastore => len = 1 ∧ rAas R pc lo st w
  | .arraylength => len = 1 ∧ rAln R pc lo st w
  | .new k => len = 3 ∧ rNw R pc lo st w lim oc k
  | .newarray t => len = 2 ∧ rNwa R pc lo st w lim t
  | .anewarray k => len = 3 ∧ rAnw R pc lo st w lim oc k
  | .invokevirtual k => len = 3 ∧ rCv R pc lo st w lim σ oc k 0
  | .invokespecial k => len = 3 ∧ (rCv R pc lo st w lim σ oc k 2 ∨ rCv R pc lo st w lim σ oc k 3 ∨ rCo4 R pc lo st w fr oc k)
  | .invokestatic k => len = 3 ∧ (rCs R pc lo st w lim σ oc k ∨ rCpI R pc lo st w fr oc k ∨ rCpL R pc lo st w fr oc k ∨ rMx R pc lo st w fr oc k ∨ rMn R pc lo st w fr oc k)
  | .ireturn => len = 1 ∧ ∃ v, rRet .ireturn ret st v ∧ Q v w
  | .lreturn => len = 1 ∧ ∃ v, rRet .lreturn ret st v ∧ Q v w
  | .areturn => len = 1 ∧ ∃ v, rRet .areturn ret st v ∧ Q v w
  | .return_ => len = 1 ∧ ∃ v, rRet .return_ ret st v ∧ Q v w
  | _ => False
abbrev rX : Type := ((Nat → Value) × (Nat → Nat)) × rSg × Nat × Nat × ByteArray × Option FieldType × Bool × (Nat × Nat)
def rStp (X : rX) (R : rS → Prop) (Q : rQ) (y : rS) : Prop := match decode X.2.2.2.2.1 y.1 with
  | .ok q => rI X.1 X.2.1 X.2.2.1 X.2.2.2.1 X.2.2.2.2.2.1 X.2.2.2.2.2.2.1 X.2.2.2.2.2.2.2 R Q q.1 q.2 y.1 y.2.1 y.2.2.1 y.2.2.2
  | .error _ => False
def Wp (X : rX) (Q : rQ) (x : rS) : Prop := ∀ R : rS → Prop, (∀ y, rStp X R Q y → R y) → R x
/-- locals at a method's entry -/
def rLoA : List Value → List (Option Value)
  | [] => []
  | v :: vs => if v.category = 2 then some v :: none :: rLoA vs else some v :: rLoA vs
def rLo (vs : List Value) (n : Nat) : List (Option Value) := rLoA vs ++ List.replicate (n - (rLoA vs).length) none
def rMX (θ : (Nat → Value) × (Nat → Nat)) (σ : rSg) (fr : Nat) (md : rM) (w : rW) : rX := (θ, σ, fr, md.2.2.2.2.1, md.2.1, md.2.2.2.1, md.1.name == "<init>", (w.2.1 + md.2.2.2.2.2.2.1, w.2.2 + md.2.2.2.2.2.2.2))
/-- the methods, by number: n bounds the depth of calls -/
def sg (θ : (Nat → Value) × (Nat → Nat)) : Nat → rSg
  | 0 => fun _ _ _ _ => False
  | n + 1 => fun mid as w Q => ∃ md, rMth mid = some md ∧ (lg_sl as).length ≤ md.2.2.1 ∧ Wp (rMX θ (sg θ n) n md w) (fun v w' => ((md.2.2.2.2.2.2.1 = 0 ∧ md.2.2.2.2.2.2.2 = 0) ∨ (w'.2.1 = w.2.1 + md.2.2.2.2.2.2.1 ∧ w'.2.2 = w.2.2 + md.2.2.2.2.2.2.2)) ∧ Q v w') (0, rLo as md.2.2.1, [], w)
