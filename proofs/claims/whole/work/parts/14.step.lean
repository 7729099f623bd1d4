/-! the abstract machine's steps as equivalences -/
def iMin (x y : Int32) : Int32 := if y < x then y else x
def iMax (x y : Int32) : Int32 := if x < y then y else x
def rGn (w : rW) (a : Nat) : Nat := match w.1 a with
  | some (.inl (t, n, _)) => if t = 0 ∨ t = 2 then n else 0
  | _ => 0
def rGv (w : rW) (a : Nat) : Nat → Int32 := match w.1 a with
  | some (.inl (_, _, g)) => g
  | _ => fun _ => 0
def rWn (w : rW) (a : Nat) : Nat := match w.1 a with
  | some (.inl (t, n, _)) => if t = 0 then n else 0
  | _ => 0
def rSi (w : rW) (a j : Nat) (x : Int32) : rW := rU w a (.inl (0, rWn w a, upd (rGv w a) j x))
def rBn (w : rW) (a : Nat) : Nat := match w.1 a with
  | some (.inl (t, n, _)) => if t = 1 ∨ t = 3 then n else 0
  | _ => 0
def rBw (w : rW) (a : Nat) : Nat := match w.1 a with
  | some (.inl (t, n, _)) => if t = 1 then n else 0
  | _ => 0
def rSb (w : rW) (a j : Nat) (x : Int32) : rW := rU w a (.inl (1, rBw w a, upd (rGv w a) j (vp_nar .byte x)))
def rLn (w : rW) (a : Nat) : Nat := match w.1 a with
  | some (.inr (.inl (n, _))) => n
  | _ => 0
def rLg (w : rW) (a : Nat) : Nat → Int64 := match w.1 a with
  | some (.inr (.inl (_, g))) => g
  | _ => fun _ => 0
def rSl (w : rW) (a j : Nat) (x : Int64) : rW := rU w a (.inr (.inl (rLn w a, vp_updL (rLg w a) j x)))
def rRn (w : rW) (a : Nat) : Nat := match w.1 a with
  | some (.inr (.inr (.inl (n, _)))) => n
  | _ => 0
def rRg (w : rW) (a : Nat) : Nat → Option Nat := match w.1 a with
  | some (.inr (.inr (.inl (_, g)))) => g
  | _ => fun _ => none
def rSr (w : rW) (a j x : Nat) : rW := rU w a (.inr (.inr (.inl (rRn w a, va_up (rRg w a) j (some x)))))
theorem vp_in0 {i : Int32} : ¬ vp_in i 0 := fun h => h (Or.inr (Nat.zero_le _))
section STEP
variable {X : rX} {Q : rQ} {pc : Nat} {lo : List (Option Value)} {st : List Value} {w : rW}
theorem Wp_step (hs : rMonoS X.2.1) {i : Instr} {len : Nat} (hd : decode X.2.2.2.2.1 pc = .ok (i, len)) : Wp X Q (pc, lo, st, w) ↔ rI X.1 X.2.1 X.2.2.1 X.2.2.2.1 X.2.2.2.2.2.1 X.2.2.2.2.2.2.1 X.2.2.2.2.2.2.2 (Wp X Q) Q i len pc lo st w := by
  rw [Wp_iff hs]
  unfold rStp
  dsimp only
  rw [hd]
theorem s_iconst (hs : rMonoS X.2.1) {n : Int} {v : Int32} (hd : decode X.2.2.2.2.1 pc = .ok (.iconst n, 1)) (hv : Int32.ofInt n = v) : Wp X Q (pc, lo, st, w) ↔ Wp X Q (pc + 1, lo, .int v :: st, w) := by
  rw [Wp_step hs hd, ← hv]; exact ⟨fun h => h.2, fun h => ⟨rfl, h⟩⟩
theorem s_bipush (hs : rMonoS X.2.1) {n : Int} {v : Int32} (hd : decode X.2.2.2.2.1 pc = .ok (.bipush n, 2)) (hv : (Int8.ofInt n).toInt32 = v) : Wp X Q (pc, lo, st, w) ↔ Wp X Q (pc + 2, lo, .int v :: st, w) := by
  rw [Wp_step hs hd, ← hv]; exact ⟨fun h => h.2, fun h => ⟨rfl, h⟩⟩
theorem s_sipush (hs : rMonoS X.2.1) {n : Int} {v : Int32} (hd : decode X.2.2.2.2.1 pc = .ok (.sipush n, 3)) (hv : (Int16.ofInt n).toInt32 = v) : Wp X Q (pc, lo, st, w) ↔ Wp X Q (pc + 3, lo, .int v :: st, w) := by
  rw [Wp_step hs hd, ← hv]; exact ⟨fun h => h.2, fun h => ⟨rfl, h⟩⟩
theorem s_lconst (hs : rMonoS X.2.1) {n : Fin 2} {v : Int64} (hd : decode X.2.2.2.2.1 pc = .ok (.lconst n, 1)) (hv : Int64.ofNat (n : Nat) = v) : Wp X Q (pc, lo, st, w) ↔ Wp X Q (pc + 1, lo, .long v :: st, w) := by
  rw [Wp_step hs hd, ← hv]; exact ⟨fun h => h.2, fun h => ⟨rfl, h⟩⟩
theorem s_ldc (hs : rMonoS X.2.1) {k : Nat} {v : Int32} (hd : decode X.2.2.2.2.1 pc = .ok (.ldc k, 2)) (hv : rCst.lookup (X.2.2.2.1, k) = some v) (hn : rStr.lookup (X.2.2.2.1, k) = none) : Wp X Q (pc, lo, st, w) ↔ Wp X Q (pc + 2, lo, .int v :: st, w) := by
  rw [Wp_step hs hd]
  refine ⟨fun h => ?_, fun h => ⟨rfl, Or.inl ⟨v, hv, h⟩⟩⟩
  obtain ⟨-, ⟨u, h1, h2⟩ | ⟨u, h1, h2⟩⟩ := h
  · rw [hv] at h1; cases h1; exact h2
  · rw [hn] at h1; cases h1
theorem s_ldcs (hs : rMonoS X.2.1) {k j : Nat} (hd : decode X.2.2.2.2.1 pc = .ok (.ldc k, 2)) (hv : rCst.lookup (X.2.2.2.1, k) = none) (hn : rStr.lookup (X.2.2.2.1, k) = some j) : Wp X Q (pc, lo, st, w) ↔ Wp X Q (pc + 2, lo, .ref (X.1.2 j) :: st, w) := by
  rw [Wp_step hs hd]
  refine ⟨fun h => ?_, fun h => ⟨rfl, Or.inr ⟨j, hn, h⟩⟩⟩
  obtain ⟨-, ⟨u, h1, h2⟩ | ⟨u, h1, h2⟩⟩ := h
  · rw [hv] at h1; cases h1
  · rw [hn] at h1; cases h1; exact h2
theorem s_ldcw (hs : rMonoS X.2.1) {k : Nat} {v : Int32} (hd : decode X.2.2.2.2.1 pc = .ok (.ldc_w k, 3)) (hv : rCst.lookup (X.2.2.2.1, k) = some v) : Wp X Q (pc, lo, st, w) ↔ Wp X Q (pc + 3, lo, .int v :: st, w) := by
  rw [Wp_step hs hd]
  exact ⟨fun ⟨_, u, h1, h2⟩ => by rw [hv] at h1; cases h1; exact h2, fun h => ⟨rfl, v, hv, h⟩⟩
theorem s_ldc2 (hs : rMonoS X.2.1) {k : Nat} {v : Int64} (hd : decode X.2.2.2.2.1 pc = .ok (.ldc2_w k, 3)) (hv : rLng.lookup (X.2.2.2.1, k) = some v) : Wp X Q (pc, lo, st, w) ↔ Wp X Q (pc + 3, lo, .long v :: st, w) := by
  rw [Wp_step hs hd]
  exact ⟨fun ⟨_, u, h1, h2⟩ => by rw [hv] at h1; cases h1; exact h2, fun h => ⟨rfl, v, hv, h⟩⟩
theorem s_gets (hs : rMonoS X.2.1) {k j : Nat} (hd : decode X.2.2.2.2.1 pc = .ok (.getstatic k, 3)) (hv : rSta.lookup (X.2.2.2.1, k) = some j) : Wp X Q (pc, lo, st, w) ↔ Wp X Q (pc + 3, lo, X.1.1 j :: st, w) := by
  rw [Wp_step hs hd]
  exact ⟨fun ⟨_, u, h1, h2⟩ => by rw [hv] at h1; cases h1; exact h2, fun h => ⟨rfl, j, hv, h⟩⟩
theorem s_iload_n (hs : rMonoS X.2.1) {k : Fin 4} {x : Int32} (hd : decode X.2.2.2.2.1 pc = .ok (.iload_n k, 1)) (hl : lo[(k : Nat)]? = some (some (.int x))) : Wp X Q (pc, lo, st, w) ↔ Wp X Q (pc + 1, lo, .int x :: st, w) := by
  rw [Wp_step hs hd]
  exact ⟨fun ⟨_, u, h1, h2⟩ => by rw [hl] at h1; cases h1; exact h2, fun h => ⟨rfl, x, hl, h⟩⟩
theorem s_iload (hs : rMonoS X.2.1) {k : Nat} {x : Int32} (hd : decode X.2.2.2.2.1 pc = .ok (.iload k, 2)) (hl : lo[k]? = some (some (.int x))) : Wp X Q (pc, lo, st, w) ↔ Wp X Q (pc + 2, lo, .int x :: st, w) := by
  rw [Wp_step hs hd]
  exact ⟨fun ⟨_, u, h1, h2⟩ => by rw [hl] at h1; cases h1; exact h2, fun h => ⟨rfl, x, hl, h⟩⟩
theorem s_lload_n (hs : rMonoS X.2.1) {k : Fin 4} {x : Int64} (hd : decode X.2.2.2.2.1 pc = .ok (.lload_n k, 1)) (hl : lo[(k : Nat)]? = some (some (.long x))) : Wp X Q (pc, lo, st, w) ↔ Wp X Q (pc + 1, lo, .long x :: st, w) := by
  rw [Wp_step hs hd]
  exact ⟨fun ⟨_, u, h1, h2⟩ => by rw [hl] at h1; cases h1; exact h2, fun h => ⟨rfl, x, hl, h⟩⟩
theorem s_lload (hs : rMonoS X.2.1) {k : Nat} {x : Int64} (hd : decode X.2.2.2.2.1 pc = .ok (.lload k, 2)) (hl : lo[k]? = some (some (.long x))) : Wp X Q (pc, lo, st, w) ↔ Wp X Q (pc + 2, lo, .long x :: st, w) := by
  rw [Wp_step hs hd]
  exact ⟨fun ⟨_, u, h1, h2⟩ => by rw [hl] at h1; cases h1; exact h2, fun h => ⟨rfl, x, hl, h⟩⟩
theorem s_aload_n (hs : rMonoS X.2.1) {k : Fin 4} {x : Nat} (hd : decode X.2.2.2.2.1 pc = .ok (.aload_n k, 1)) (hl : lo[(k : Nat)]? = some (some (.ref x))) : Wp X Q (pc, lo, st, w) ↔ Wp X Q (pc + 1, lo, .ref x :: st, w) := by
  rw [Wp_step hs hd]
  exact ⟨fun ⟨_, u, h1, h2⟩ => by rw [hl] at h1; cases h1; exact h2, fun h => ⟨rfl, x, hl, h⟩⟩
theorem s_aload (hs : rMonoS X.2.1) {k : Nat} {x : Nat} (hd : decode X.2.2.2.2.1 pc = .ok (.aload k, 2)) (hl : lo[k]? = some (some (.ref x))) : Wp X Q (pc, lo, st, w) ↔ Wp X Q (pc + 2, lo, .ref x :: st, w) := by
  rw [Wp_step hs hd]
  exact ⟨fun ⟨_, u, h1, h2⟩ => by rw [hl] at h1; cases h1; exact h2, fun h => ⟨rfl, x, hl, h⟩⟩
theorem s_istore_n (hs : rMonoS X.2.1) {k : Fin 4} {x : Int32} {lo' : List (Option Value)} (hd : decode X.2.2.2.2.1 pc = .ok (.istore_n k, 1)) (hn : (k : Nat) < lo.length) (hN : rNL lo k = true) (hl : lo.set k (some (.int x)) = lo') : Wp X Q (pc, lo, .int x :: st, w) ↔ Wp X Q (pc + 1, lo', st, w) := by
  rw [Wp_step hs hd, ← hl]
  exact ⟨fun ⟨_, u, r, h1, _, _, h2⟩ => by cases h1; exact h2, fun h => ⟨rfl, x, st, rfl, hn, hN, h⟩⟩
theorem s_istore (hs : rMonoS X.2.1) {k : Nat} {x : Int32} {lo' : List (Option Value)} (hd : decode X.2.2.2.2.1 pc = .ok (.istore k, 2)) (hn : k < lo.length) (hN : rNL lo k = true) (hl : lo.set k (some (.int x)) = lo') : Wp X Q (pc, lo, .int x :: st, w) ↔ Wp X Q (pc + 2, lo', st, w) := by
  rw [Wp_step hs hd, ← hl]
  exact ⟨fun ⟨_, u, r, h1, _, _, h2⟩ => by cases h1; exact h2, fun h => ⟨rfl, x, st, rfl, hn, hN, h⟩⟩
theorem s_astore_n (hs : rMonoS X.2.1) {k : Fin 4} {x : Nat} {lo' : List (Option Value)} (hd : decode X.2.2.2.2.1 pc = .ok (.astore_n k, 1)) (hn : (k : Nat) < lo.length) (hN : rNL lo k = true) (hl : lo.set k (some (.ref x)) = lo') : Wp X Q (pc, lo, .ref x :: st, w) ↔ Wp X Q (pc + 1, lo', st, w) := by
  rw [Wp_step hs hd, ← hl]
  exact ⟨fun ⟨_, u, r, h1, _, _, h2⟩ => by cases h1; exact h2, fun h => ⟨rfl, x, st, rfl, hn, hN, h⟩⟩
theorem s_astore (hs : rMonoS X.2.1) {k : Nat} {x : Nat} {lo' : List (Option Value)} (hd : decode X.2.2.2.2.1 pc = .ok (.astore k, 2)) (hn : k < lo.length) (hN : rNL lo k = true) (hl : lo.set k (some (.ref x)) = lo') : Wp X Q (pc, lo, .ref x :: st, w) ↔ Wp X Q (pc + 2, lo', st, w) := by
  rw [Wp_step hs hd, ← hl]
  exact ⟨fun ⟨_, u, r, h1, _, _, h2⟩ => by cases h1; exact h2, fun h => ⟨rfl, x, st, rfl, hn, hN, h⟩⟩
theorem s_lstore (hs : rMonoS X.2.1) {k : Nat} {x : Int64} {lo' : List (Option Value)} (hd : decode X.2.2.2.2.1 pc = .ok (.lstore k, 2)) (hn : k + 1 < lo.length) (hN : rNL lo k = true) (hl : (lo.set k (some (.long x))).set (k + 1) none = lo') : Wp X Q (pc, lo, .long x :: st, w) ↔ Wp X Q (pc + 2, lo', st, w) := by
  rw [Wp_step hs hd, ← hl]
  exact ⟨fun ⟨_, u, r, h1, _, _, h2⟩ => by cases h1; exact h2, fun h => ⟨rfl, x, st, rfl, hn, hN, h⟩⟩
theorem s_iinc (hs : rMonoS X.2.1) {k : Nat} {n : Int} {x v : Int32} {lo' : List (Option Value)} (hd : decode X.2.2.2.2.1 pc = .ok (.iinc k n, 3)) (hl : lo[k]? = some (some (.int x))) (hv : Int32.ofInt n = v) (hl' : lo.set k (some (.int (x + v))) = lo') : Wp X Q (pc, lo, st, w) ↔ Wp X Q (pc + 3, lo', st, w) := by
  rw [Wp_step hs hd, ← hl', ← hv]
  exact ⟨fun ⟨_, u, h1, h2⟩ => by rw [hl] at h1; cases h1; exact h2, fun h => ⟨rfl, x, hl, h⟩⟩
theorem s_iadd (hs : rMonoS X.2.1) {x y : Int32} (hd : decode X.2.2.2.2.1 pc = .ok (.iadd, 1)) : Wp X Q (pc, lo, .int y :: .int x :: st, w) ↔ Wp X Q (pc + 1, lo, .int (x + y) :: st, w) := by
  rw [Wp_step hs hd]
  exact ⟨fun ⟨_, u, v, r, h1, h2⟩ => by cases h1; exact h2, fun h => ⟨rfl, x, y, st, rfl, h⟩⟩
theorem s_isub (hs : rMonoS X.2.1) {x y : Int32} (hd : decode X.2.2.2.2.1 pc = .ok (.isub, 1)) : Wp X Q (pc, lo, .int y :: .int x :: st, w) ↔ Wp X Q (pc + 1, lo, .int (x - y) :: st, w) := by
  rw [Wp_step hs hd]
  exact ⟨fun ⟨_, u, v, r, h1, h2⟩ => by cases h1; exact h2, fun h => ⟨rfl, x, y, st, rfl, h⟩⟩
theorem s_imul (hs : rMonoS X.2.1) {x y : Int32} (hd : decode X.2.2.2.2.1 pc = .ok (.imul, 1)) : Wp X Q (pc, lo, .int y :: .int x :: st, w) ↔ Wp X Q (pc + 1, lo, .int (x * y) :: st, w) := by
  rw [Wp_step hs hd]
  exact ⟨fun ⟨_, u, v, r, h1, h2⟩ => by cases h1; exact h2, fun h => ⟨rfl, x, y, st, rfl, h⟩⟩
theorem s_iand (hs : rMonoS X.2.1) {x y : Int32} (hd : decode X.2.2.2.2.1 pc = .ok (.iand, 1)) : Wp X Q (pc, lo, .int y :: .int x :: st, w) ↔ Wp X Q (pc + 1, lo, .int (x &&& y) :: st, w) := by
  rw [Wp_step hs hd]
  exact ⟨fun ⟨_, u, v, r, h1, h2⟩ => by cases h1; exact h2, fun h => ⟨rfl, x, y, st, rfl, h⟩⟩
theorem s_ior (hs : rMonoS X.2.1) {x y : Int32} (hd : decode X.2.2.2.2.1 pc = .ok (.ior, 1)) : Wp X Q (pc, lo, .int y :: .int x :: st, w) ↔ Wp X Q (pc + 1, lo, .int (x ||| y) :: st, w) := by
  rw [Wp_step hs hd]
  exact ⟨fun ⟨_, u, v, r, h1, h2⟩ => by cases h1; exact h2, fun h => ⟨rfl, x, y, st, rfl, h⟩⟩
theorem s_ixor (hs : rMonoS X.2.1) {x y : Int32} (hd : decode X.2.2.2.2.1 pc = .ok (.ixor, 1)) : Wp X Q (pc, lo, .int y :: .int x :: st, w) ↔ Wp X Q (pc + 1, lo, .int (x ^^^ y) :: st, w) := by
  rw [Wp_step hs hd]
  exact ⟨fun ⟨_, u, v, r, h1, h2⟩ => by cases h1; exact h2, fun h => ⟨rfl, x, y, st, rfl, h⟩⟩
theorem s_ishl (hs : rMonoS X.2.1) {x y : Int32} (hd : decode X.2.2.2.2.1 pc = .ok (.ishl, 1)) : Wp X Q (pc, lo, .int y :: .int x :: st, w) ↔ Wp X Q (pc + 1, lo, .int (x <<< (y &&& 31)) :: st, w) := by
  rw [Wp_step hs hd]
  exact ⟨fun ⟨_, u, v, r, h1, h2⟩ => by cases h1; exact h2, fun h => ⟨rfl, x, y, st, rfl, h⟩⟩
theorem s_ishr (hs : rMonoS X.2.1) {x y : Int32} (hd : decode X.2.2.2.2.1 pc = .ok (.ishr, 1)) : Wp X Q (pc, lo, .int y :: .int x :: st, w) ↔ Wp X Q (pc + 1, lo, .int (x >>> (y &&& 31)) :: st, w) := by
  rw [Wp_step hs hd]
  exact ⟨fun ⟨_, u, v, r, h1, h2⟩ => by cases h1; exact h2, fun h => ⟨rfl, x, y, st, rfl, h⟩⟩
theorem s_iushr (hs : rMonoS X.2.1) {x y : Int32} (hd : decode X.2.2.2.2.1 pc = .ok (.iushr, 1)) : Wp X Q (pc, lo, .int y :: .int x :: st, w) ↔ Wp X Q (pc + 1, lo, .int ((x.toUInt32 >>> (y.toUInt32 &&& Int32.toUInt32 31)).toInt32) :: st, w) := by
  rw [Wp_step hs hd]
  exact ⟨fun ⟨_, u, v, r, h1, h2⟩ => by cases h1; exact h2, fun h => ⟨rfl, x, y, st, rfl, h⟩⟩
theorem s_ladd (hs : rMonoS X.2.1) {x y : Int64} (hd : decode X.2.2.2.2.1 pc = .ok (.ladd, 1)) : Wp X Q (pc, lo, .long y :: .long x :: st, w) ↔ Wp X Q (pc + 1, lo, .long (x + y) :: st, w) := by
  rw [Wp_step hs hd]
  exact ⟨fun ⟨_, u, v, r, h1, h2⟩ => by cases h1; exact h2, fun h => ⟨rfl, x, y, st, rfl, h⟩⟩
theorem s_lsub (hs : rMonoS X.2.1) {x y : Int64} (hd : decode X.2.2.2.2.1 pc = .ok (.lsub, 1)) : Wp X Q (pc, lo, .long y :: .long x :: st, w) ↔ Wp X Q (pc + 1, lo, .long (x - y) :: st, w) := by
  rw [Wp_step hs hd]
  exact ⟨fun ⟨_, u, v, r, h1, h2⟩ => by cases h1; exact h2, fun h => ⟨rfl, x, y, st, rfl, h⟩⟩
theorem s_lmul (hs : rMonoS X.2.1) {x y : Int64} (hd : decode X.2.2.2.2.1 pc = .ok (.lmul, 1)) : Wp X Q (pc, lo, .long y :: .long x :: st, w) ↔ Wp X Q (pc + 1, lo, .long (x * y) :: st, w) := by
  rw [Wp_step hs hd]
  exact ⟨fun ⟨_, u, v, r, h1, h2⟩ => by cases h1; exact h2, fun h => ⟨rfl, x, y, st, rfl, h⟩⟩
theorem s_land (hs : rMonoS X.2.1) {x y : Int64} (hd : decode X.2.2.2.2.1 pc = .ok (.land, 1)) : Wp X Q (pc, lo, .long y :: .long x :: st, w) ↔ Wp X Q (pc + 1, lo, .long (x &&& y) :: st, w) := by
  rw [Wp_step hs hd]
  exact ⟨fun ⟨_, u, v, r, h1, h2⟩ => by cases h1; exact h2, fun h => ⟨rfl, x, y, st, rfl, h⟩⟩
theorem s_lor (hs : rMonoS X.2.1) {x y : Int64} (hd : decode X.2.2.2.2.1 pc = .ok (.lor, 1)) : Wp X Q (pc, lo, .long y :: .long x :: st, w) ↔ Wp X Q (pc + 1, lo, .long (x ||| y) :: st, w) := by
  rw [Wp_step hs hd]
  exact ⟨fun ⟨_, u, v, r, h1, h2⟩ => by cases h1; exact h2, fun h => ⟨rfl, x, y, st, rfl, h⟩⟩
theorem s_lshl (hs : rMonoS X.2.1) {x : Int64} {y : Int32} (hd : decode X.2.2.2.2.1 pc = .ok (.lshl, 1)) : Wp X Q (pc, lo, .int y :: .long x :: st, w) ↔ Wp X Q (pc + 1, lo, .long (x <<< (y.toInt64 &&& 63)) :: st, w) := by
  rw [Wp_step hs hd]
  exact ⟨fun ⟨_, u, v, r, h1, h2⟩ => by cases h1; exact h2, fun h => ⟨rfl, x, y, st, rfl, h⟩⟩
theorem s_lshr (hs : rMonoS X.2.1) {x : Int64} {y : Int32} (hd : decode X.2.2.2.2.1 pc = .ok (.lshr, 1)) : Wp X Q (pc, lo, .int y :: .long x :: st, w) ↔ Wp X Q (pc + 1, lo, .long (x >>> (y.toInt64 &&& 63)) :: st, w) := by
  rw [Wp_step hs hd]
  exact ⟨fun ⟨_, u, v, r, h1, h2⟩ => by cases h1; exact h2, fun h => ⟨rfl, x, y, st, rfl, h⟩⟩
theorem s_lcmp (hs : rMonoS X.2.1) {x y : Int64} (hd : decode X.2.2.2.2.1 pc = .ok (.lcmp, 1)) : Wp X Q (pc, lo, .long y :: .long x :: st, w) ↔ Wp X Q (pc + 1, lo, .int (lg_cmp x y) :: st, w) := by
  rw [Wp_step hs hd]
  exact ⟨fun ⟨_, u, v, r, h1, h2⟩ => by cases h1; exact h2, fun h => ⟨rfl, x, y, st, rfl, h⟩⟩
theorem s_ineg (hs : rMonoS X.2.1) {x : Int32} (hd : decode X.2.2.2.2.1 pc = .ok (.ineg, 1)) : Wp X Q (pc, lo, .int x :: st, w) ↔ Wp X Q (pc + 1, lo, .int (-x) :: st, w) := by
  rw [Wp_step hs hd]
  exact ⟨fun ⟨_, u, r, h1, h2⟩ => by cases h1; exact h2, fun h => ⟨rfl, x, st, rfl, h⟩⟩
theorem s_i2b (hs : rMonoS X.2.1) {x : Int32} (hd : decode X.2.2.2.2.1 pc = .ok (.i2b, 1)) : Wp X Q (pc, lo, .int x :: st, w) ↔ Wp X Q (pc + 1, lo, .int (x.toInt8.toInt32) :: st, w) := by
  rw [Wp_step hs hd]
  exact ⟨fun ⟨_, u, r, h1, h2⟩ => by cases h1; exact h2, fun h => ⟨rfl, x, st, rfl, h⟩⟩
theorem s_i2s (hs : rMonoS X.2.1) {x : Int32} (hd : decode X.2.2.2.2.1 pc = .ok (.i2s, 1)) : Wp X Q (pc, lo, .int x :: st, w) ↔ Wp X Q (pc + 1, lo, .int (x.toInt16.toInt32) :: st, w) := by
  rw [Wp_step hs hd]
  exact ⟨fun ⟨_, u, r, h1, h2⟩ => by cases h1; exact h2, fun h => ⟨rfl, x, st, rfl, h⟩⟩
theorem s_i2c (hs : rMonoS X.2.1) {x : Int32} (hd : decode X.2.2.2.2.1 pc = .ok (.i2c, 1)) : Wp X Q (pc, lo, .int x :: st, w) ↔ Wp X Q (pc + 1, lo, .int ((x.toUInt32 % 65536).toInt32) :: st, w) := by
  rw [Wp_step hs hd]
  exact ⟨fun ⟨_, u, r, h1, h2⟩ => by cases h1; exact h2, fun h => ⟨rfl, x, st, rfl, h⟩⟩
theorem s_i2l (hs : rMonoS X.2.1) {x : Int32} (hd : decode X.2.2.2.2.1 pc = .ok (.i2l, 1)) : Wp X Q (pc, lo, .int x :: st, w) ↔ Wp X Q (pc + 1, lo, .long (x.toInt64) :: st, w) := by
  rw [Wp_step hs hd]
  exact ⟨fun ⟨_, u, r, h1, h2⟩ => by cases h1; exact h2, fun h => ⟨rfl, x, st, rfl, h⟩⟩
theorem s_l2i (hs : rMonoS X.2.1) {x : Int64} (hd : decode X.2.2.2.2.1 pc = .ok (.l2i, 1)) : Wp X Q (pc, lo, .long x :: st, w) ↔ Wp X Q (pc + 1, lo, .int (x.toInt32) :: st, w) := by
  rw [Wp_step hs hd]
  exact ⟨fun ⟨_, u, r, h1, h2⟩ => by cases h1; exact h2, fun h => ⟨rfl, x, st, rfl, h⟩⟩
theorem s_idiv (hs : rMonoS X.2.1) {x y : Int32} (hd : decode X.2.2.2.2.1 pc = .ok (.idiv, 1)) : Wp X Q (pc, lo, .int y :: .int x :: st, w) ↔ (¬ y = 0 ∧ Wp X Q (pc + 1, lo, .int (x / y) :: st, w)) := by
  rw [Wp_step hs hd]
  exact ⟨fun ⟨_, u, v, r, h1, hn, h2⟩ => by cases h1; exact ⟨hn, h2⟩, fun h => ⟨rfl, x, y, st, rfl, h.1, h.2⟩⟩
theorem s_irem (hs : rMonoS X.2.1) {x y : Int32} (hd : decode X.2.2.2.2.1 pc = .ok (.irem, 1)) : Wp X Q (pc, lo, .int y :: .int x :: st, w) ↔ (¬ y = 0 ∧ Wp X Q (pc + 1, lo, .int (x - x / y * y) :: st, w)) := by
  rw [Wp_step hs hd]
  exact ⟨fun ⟨_, u, v, r, h1, hn, h2⟩ => by cases h1; exact ⟨hn, h2⟩, fun h => ⟨rfl, x, y, st, rfl, h.1, h.2⟩⟩
theorem s_dup (hs : rMonoS X.2.1) {v : Value} (hd : decode X.2.2.2.2.1 pc = .ok (.dup, 1)) (hv : v.category = 1) : Wp X Q (pc, lo, v :: st, w) ↔ Wp X Q (pc + 1, lo, v :: v :: st, w) := by
  rw [Wp_step hs hd]
  exact ⟨fun ⟨_, u, r, h1, _, h2⟩ => by cases h1; exact h2, fun h => ⟨rfl, v, st, rfl, hv, h⟩⟩
theorem s_pop (hs : rMonoS X.2.1) {v : Value} (hd : decode X.2.2.2.2.1 pc = .ok (.pop, 1)) (hv : v.category = 1) : Wp X Q (pc, lo, v :: st, w) ↔ Wp X Q (pc + 1, lo, st, w) := by
  rw [Wp_step hs hd]
  exact ⟨fun ⟨_, u, r, h1, _, h2⟩ => by cases h1; exact h2, fun h => ⟨rfl, v, st, rfl, hv, h⟩⟩
theorem s_dup2 (hs : rMonoS X.2.1) {v u : Value} (hd : decode X.2.2.2.2.1 pc = .ok (.dup2, 1)) (hv : v.category = 1) (hu : u.category = 1) : Wp X Q (pc, lo, v :: u :: st, w) ↔ Wp X Q (pc + 1, lo, v :: u :: v :: u :: st, w) := by
  rw [Wp_step hs hd]
  exact ⟨fun ⟨_, _, _, r, h1, _, _, h2⟩ => by cases h1; exact h2, fun h => ⟨rfl, v, u, st, rfl, hv, hu, h⟩⟩
theorem ite_and {P : Prop} [Decidable P] {A B : Prop} : ((P → A) ∧ (¬ P → B)) ↔ if P then A else B := by
  by_cases h : P <;> simp [h]
theorem s_if_eq (hs : rMonoS X.2.1) {x : Int32} {off : Int} {tgt : Nat} (hd : decode X.2.2.2.2.1 pc = .ok (.ifCond .eq off, 3)) (ht : (pc : Int) + off = (tgt : Int)) : Wp X Q (pc, lo, .int x :: st, w) ↔ if x = 0 then Wp X Q (tgt, lo, st, w) else Wp X Q (pc + 3, lo, st, w) := by
  rw [Wp_step hs hd]
  have e : rJ pc off = tgt := by unfold rJ; omega
  rw [← e]
  exact ⟨fun ⟨_, _, _, h1, _, h2, h3⟩ => by cases h1; exact ite_and.mp ⟨h2, h3⟩, fun h => ⟨rfl, x, st, rfl, by omega, (ite_and.mpr h).1, (ite_and.mpr h).2⟩⟩
theorem s_ic_eq (hs : rMonoS X.2.1) {x y : Int32} {off : Int} {tgt : Nat} (hd : decode X.2.2.2.2.1 pc = .ok (.if_icmp .eq off, 3)) (ht : (pc : Int) + off = (tgt : Int)) : Wp X Q (pc, lo, .int y :: .int x :: st, w) ↔ if x = y then Wp X Q (tgt, lo, st, w) else Wp X Q (pc + 3, lo, st, w) := by
  rw [Wp_step hs hd]
  have e : rJ pc off = tgt := by unfold rJ; omega
  rw [← e]
  exact ⟨fun ⟨_, _, _, _, h1, _, h2, h3⟩ => by cases h1; exact ite_and.mp ⟨h2, h3⟩, fun h => ⟨rfl, x, y, st, rfl, by omega, (ite_and.mpr h).1, (ite_and.mpr h).2⟩⟩
theorem s_if_lt (hs : rMonoS X.2.1) {x : Int32} {off : Int} {tgt : Nat} (hd : decode X.2.2.2.2.1 pc = .ok (.ifCond .lt off, 3)) (ht : (pc : Int) + off = (tgt : Int)) : Wp X Q (pc, lo, .int x :: st, w) ↔ if x < 0 then Wp X Q (tgt, lo, st, w) else Wp X Q (pc + 3, lo, st, w) := by
  rw [Wp_step hs hd]
  have e : rJ pc off = tgt := by unfold rJ; omega
  rw [← e]
  exact ⟨fun ⟨_, _, _, h1, _, h2, h3⟩ => by cases h1; exact ite_and.mp ⟨h2, h3⟩, fun h => ⟨rfl, x, st, rfl, by omega, (ite_and.mpr h).1, (ite_and.mpr h).2⟩⟩
theorem s_ic_lt (hs : rMonoS X.2.1) {x y : Int32} {off : Int} {tgt : Nat} (hd : decode X.2.2.2.2.1 pc = .ok (.if_icmp .lt off, 3)) (ht : (pc : Int) + off = (tgt : Int)) : Wp X Q (pc, lo, .int y :: .int x :: st, w) ↔ if x < y then Wp X Q (tgt, lo, st, w) else Wp X Q (pc + 3, lo, st, w) := by
  rw [Wp_step hs hd]
  have e : rJ pc off = tgt := by unfold rJ; omega
  rw [← e]
  exact ⟨fun ⟨_, _, _, _, h1, _, h2, h3⟩ => by cases h1; exact ite_and.mp ⟨h2, h3⟩, fun h => ⟨rfl, x, y, st, rfl, by omega, (ite_and.mpr h).1, (ite_and.mpr h).2⟩⟩
theorem s_if_ge (hs : rMonoS X.2.1) {x : Int32} {off : Int} {tgt : Nat} (hd : decode X.2.2.2.2.1 pc = .ok (.ifCond .ge off, 3)) (ht : (pc : Int) + off = (tgt : Int)) : Wp X Q (pc, lo, .int x :: st, w) ↔ if 0 ≤ x then Wp X Q (tgt, lo, st, w) else Wp X Q (pc + 3, lo, st, w) := by
  rw [Wp_step hs hd]
  have e : rJ pc off = tgt := by unfold rJ; omega
  rw [← e]
  exact ⟨fun ⟨_, _, _, h1, _, h2, h3⟩ => by cases h1; exact ite_and.mp ⟨h2, h3⟩, fun h => ⟨rfl, x, st, rfl, by omega, (ite_and.mpr h).1, (ite_and.mpr h).2⟩⟩
theorem s_ic_ge (hs : rMonoS X.2.1) {x y : Int32} {off : Int} {tgt : Nat} (hd : decode X.2.2.2.2.1 pc = .ok (.if_icmp .ge off, 3)) (ht : (pc : Int) + off = (tgt : Int)) : Wp X Q (pc, lo, .int y :: .int x :: st, w) ↔ if y ≤ x then Wp X Q (tgt, lo, st, w) else Wp X Q (pc + 3, lo, st, w) := by
  rw [Wp_step hs hd]
  have e : rJ pc off = tgt := by unfold rJ; omega
  rw [← e]
  exact ⟨fun ⟨_, _, _, _, h1, _, h2, h3⟩ => by cases h1; exact ite_and.mp ⟨h2, h3⟩, fun h => ⟨rfl, x, y, st, rfl, by omega, (ite_and.mpr h).1, (ite_and.mpr h).2⟩⟩
theorem s_if_gt (hs : rMonoS X.2.1) {x : Int32} {off : Int} {tgt : Nat} (hd : decode X.2.2.2.2.1 pc = .ok (.ifCond .gt off, 3)) (ht : (pc : Int) + off = (tgt : Int)) : Wp X Q (pc, lo, .int x :: st, w) ↔ if 0 < x then Wp X Q (tgt, lo, st, w) else Wp X Q (pc + 3, lo, st, w) := by
  rw [Wp_step hs hd]
  have e : rJ pc off = tgt := by unfold rJ; omega
  rw [← e]
  exact ⟨fun ⟨_, _, _, h1, _, h2, h3⟩ => by cases h1; exact ite_and.mp ⟨h2, h3⟩, fun h => ⟨rfl, x, st, rfl, by omega, (ite_and.mpr h).1, (ite_and.mpr h).2⟩⟩
theorem s_ic_gt (hs : rMonoS X.2.1) {x y : Int32} {off : Int} {tgt : Nat} (hd : decode X.2.2.2.2.1 pc = .ok (.if_icmp .gt off, 3)) (ht : (pc : Int) + off = (tgt : Int)) : Wp X Q (pc, lo, .int y :: .int x :: st, w) ↔ if y < x then Wp X Q (tgt, lo, st, w) else Wp X Q (pc + 3, lo, st, w) := by
  rw [Wp_step hs hd]
  have e : rJ pc off = tgt := by unfold rJ; omega
  rw [← e]
  exact ⟨fun ⟨_, _, _, _, h1, _, h2, h3⟩ => by cases h1; exact ite_and.mp ⟨h2, h3⟩, fun h => ⟨rfl, x, y, st, rfl, by omega, (ite_and.mpr h).1, (ite_and.mpr h).2⟩⟩
theorem s_if_le (hs : rMonoS X.2.1) {x : Int32} {off : Int} {tgt : Nat} (hd : decode X.2.2.2.2.1 pc = .ok (.ifCond .le off, 3)) (ht : (pc : Int) + off = (tgt : Int)) : Wp X Q (pc, lo, .int x :: st, w) ↔ if x ≤ 0 then Wp X Q (tgt, lo, st, w) else Wp X Q (pc + 3, lo, st, w) := by
  rw [Wp_step hs hd]
  have e : rJ pc off = tgt := by unfold rJ; omega
  rw [← e]
  exact ⟨fun ⟨_, _, _, h1, _, h2, h3⟩ => by cases h1; exact ite_and.mp ⟨h2, h3⟩, fun h => ⟨rfl, x, st, rfl, by omega, (ite_and.mpr h).1, (ite_and.mpr h).2⟩⟩
theorem s_ic_le (hs : rMonoS X.2.1) {x y : Int32} {off : Int} {tgt : Nat} (hd : decode X.2.2.2.2.1 pc = .ok (.if_icmp .le off, 3)) (ht : (pc : Int) + off = (tgt : Int)) : Wp X Q (pc, lo, .int y :: .int x :: st, w) ↔ if x ≤ y then Wp X Q (tgt, lo, st, w) else Wp X Q (pc + 3, lo, st, w) := by
  rw [Wp_step hs hd]
  have e : rJ pc off = tgt := by unfold rJ; omega
  rw [← e]
  exact ⟨fun ⟨_, _, _, _, h1, _, h2, h3⟩ => by cases h1; exact ite_and.mp ⟨h2, h3⟩, fun h => ⟨rfl, x, y, st, rfl, by omega, (ite_and.mpr h).1, (ite_and.mpr h).2⟩⟩
theorem s_if_ne (hs : rMonoS X.2.1) {x : Int32} {off : Int} {tgt : Nat} (hd : decode X.2.2.2.2.1 pc = .ok (.ifCond .ne off, 3)) (ht : (pc : Int) + off = (tgt : Int)) : Wp X Q (pc, lo, .int x :: st, w) ↔ if x = 0 then Wp X Q (pc + 3, lo, st, w) else Wp X Q (tgt, lo, st, w) := by
  rw [Wp_step hs hd]
  have e : rJ pc off = tgt := by unfold rJ; omega
  rw [← e]
  exact ⟨fun ⟨_, _, _, h1, _, h2, h3⟩ => by cases h1; exact ite_and.mp ⟨fun z => h3 (fun q => q z), h2⟩, fun h => ⟨rfl, x, st, rfl, by omega, (ite_and.mpr h).2, fun z => (ite_and.mpr h).1 (Decidable.not_not.mp z)⟩⟩
theorem s_ic_ne (hs : rMonoS X.2.1) {x y : Int32} {off : Int} {tgt : Nat} (hd : decode X.2.2.2.2.1 pc = .ok (.if_icmp .ne off, 3)) (ht : (pc : Int) + off = (tgt : Int)) : Wp X Q (pc, lo, .int y :: .int x :: st, w) ↔ if x = y then Wp X Q (pc + 3, lo, st, w) else Wp X Q (tgt, lo, st, w) := by
  rw [Wp_step hs hd]
  have e : rJ pc off = tgt := by unfold rJ; omega
  rw [← e]
  exact ⟨fun ⟨_, _, _, _, h1, _, h2, h3⟩ => by cases h1; exact ite_and.mp ⟨fun z => h3 (fun q => q z), h2⟩, fun h => ⟨rfl, x, y, st, rfl, by omega, (ite_and.mpr h).2, fun z => (ite_and.mpr h).1 (Decidable.not_not.mp z)⟩⟩
theorem s_goto (hs : rMonoS X.2.1) {off : Int} {tgt : Nat} (hd : decode X.2.2.2.2.1 pc = .ok (.goto off, 3)) (ht : (pc : Int) + off = (tgt : Int)) : Wp X Q (pc, lo, st, w) ↔ Wp X Q (tgt, lo, st, w) := by
  rw [Wp_step hs hd]
  have e : rJ pc off = tgt := by unfold rJ; omega
  rw [← e]
  exact ⟨fun h => h.2.2, fun h => ⟨rfl, by omega, h⟩⟩
theorem s_tableO (hs : rMonoS X.2.1) {d l h : Int} {offs : Array Int} {len : Nat} {x : Int32} {tgt : Nat} (hd : decode X.2.2.2.2.1 pc = .ok (.tableswitch d l h offs, len)) (hq : x.toInt < l ∨ h < x.toInt) (ht : (pc : Int) + d = (tgt : Int)) : Wp X Q (pc, lo, .int x :: st, w) ↔ Wp X Q (tgt, lo, st, w) := by
  rw [Wp_step hs hd]
  have e : rJ pc d = tgt := by unfold rJ; omega
  rw [← e]
  exact ⟨fun ⟨_, _, h1, h2, _⟩ => by cases h1; exact (h2 hq).2, fun h => ⟨x, st, rfl, fun _ => ⟨by omega, h⟩, fun z => absurd hq z⟩⟩
theorem s_tableI (hs : rMonoS X.2.1) {d l h off : Int} {offs : Array Int} {len : Nat} {x : Int32} {tgt : Nat} (hd : decode X.2.2.2.2.1 pc = .ok (.tableswitch d l h offs, len)) (hq : ¬ (x.toInt < l ∨ h < x.toInt)) (ho : offs[(x.toInt - l).toNat]? = some off) (ht : (pc : Int) + off = (tgt : Int)) : Wp X Q (pc, lo, .int x :: st, w) ↔ Wp X Q (tgt, lo, st, w) := by
  rw [Wp_step hs hd]
  have e : rJ pc off = tgt := by unfold rJ; omega
  rw [← e]
  exact ⟨fun ⟨_, _, h1, _, h2⟩ => by cases h1; obtain ⟨o2, z1, z2, z3⟩ := h2 hq; rw [ho] at z1; cases z1; exact z3, fun h => ⟨x, st, rfl, fun z => absurd z hq, fun _ => ⟨off, ho, by omega, h⟩⟩⟩
theorem s_lookup (hs : rMonoS X.2.1) {d off : Int} {ps : Array (Int × Int)} {len : Nat} {x : Int32} {tgt : Nat} (hd : decode X.2.2.2.2.1 pc = .ok (.lookupswitch d ps, len)) (hp : (ps.toList.zip (ps.toList.drop 1)).all (fun (a, next) => a.1 < next.1) = true) (ho : Op.lookupswitch.offset ps.toList d x.toInt = off) (ht : (pc : Int) + off = (tgt : Int)) : Wp X Q (pc, lo, .int x :: st, w) ↔ Wp X Q (tgt, lo, st, w) := by
  rw [Wp_step hs hd]
  have e : rJ pc off = tgt := by unfold rJ; omega
  rw [← e, ← ho]
  exact ⟨fun ⟨_, _, h1, _, _, h2⟩ => by cases h1; exact h2, fun h => ⟨x, st, rfl, hp, by rw [ho]; omega, h⟩⟩
theorem s_getf (hs : rMonoS X.2.1) {idx a ci k : Nat} (hd : decode X.2.2.2.2.1 pc = .ok (.getfield idx, 3)) (hf : rFld.lookup (X.2.2.2.1, idx) = some (ci, k)) : Wp X Q (pc, lo, .ref a :: st, w) ↔ (rF w a ci k).elim False (fun v => Wp X Q (pc + 3, lo, v :: st, w)) := by
  rw [Wp_step hs hd]
  constructor
  · rintro ⟨-, b, r, c2, k2, v, h1, h2, h3, h4⟩
    cases h1
    rw [hf] at h2
    cases h2
    rw [h3]
    exact h4
  · intro h
    cases hv : rF w a ci k with
    | none => rw [hv] at h; exact h.elim
    | some v => rw [hv] at h; exact ⟨rfl, a, st, ci, k, v, rfl, hf, hv, h⟩
theorem s_putf (hs : rMonoS X.2.1) {idx a ci k : Nat} {v : Value} {ty : FieldType} (hd : decode X.2.2.2.2.1 pc = .ok (.putfield idx, 3)) (hf : rFld.lookup (X.2.2.2.1, idx) = some (ci, k)) (hty : parseFieldDescriptor (rTk ci k).2.2.1 = some ty) (hfit : fits ty v = true) (hfin : (rTk ci k).2.2.2 = false ∨ ((rTk ci k).2.2.2 = true ∧ X.2.2.2.2.2.2.1 = true ∧ X.2.2.2.1 = ci)) : Wp X Q (pc, lo, v :: .ref a :: st, w) ↔ (narrow ty v = v ∧ (rPf w a ci k v).elim False (fun w' => Wp X Q (pc + 3, lo, st, w'))) := by
  rw [Wp_step hs hd]
  constructor
  · rintro ⟨-, v2, b, r, c2, k2, t2, w2, h1, h2, h3, h4, h5, h6, h7, h8⟩
    cases h1
    rw [hf] at h2
    cases h2
    rw [hty] at h3
    cases h3
    rw [h7]
    exact ⟨h4, h8⟩
  · rintro ⟨hn, h⟩
    cases hv : rPf w a ci k v with
    | none => rw [hv] at h; exact h.elim
    | some w2 => rw [hv] at h; exact ⟨rfl, v, a, st, ci, k, ty, w2, rfl, hf, hty, hn, hfit, hfin, hv, h⟩
theorem s_putz (hs : rMonoS X.2.1) {idx a ci k : Nat} {v : Value} {ty : FieldType} (hd : decode X.2.2.2.2.1 pc = .ok (.putfield idx, 3)) (hf : rFld.lookup (X.2.2.2.1, idx) = some (ci, k)) (hty : parseFieldDescriptor (rTk ci k).2.2.1 = some ty) (hfin : (rTk ci k).2.2.2 = false ∨ ((rTk ci k).2.2.2 = true ∧ X.2.2.2.2.2.2.1 = true ∧ X.2.2.2.1 = ci)) : Wp X Q (pc, lo, v :: .ref a :: st, w) ↔ ((narrow ty v = v ∧ fits ty v = true) ∧ (rPf w a ci k v).elim False (fun w' => Wp X Q (pc + 3, lo, st, w'))) := by
  by_cases hfit : fits ty v = true
  · rw [s_putf hs hd hf hty hfit hfin]
    simp [hfit]
  · constructor
    · rw [Wp_step hs hd]
      rintro ⟨-, v2, b, r, c2, k2, t2, w2, h1, h2, h3, h4, h5, h6, h7, h8⟩
      cases h1
      rw [hf] at h2
      cases h2
      rw [hty] at h3
      cases h3
      exact absurd h5 hfit
    · rintro ⟨⟨h1, h2⟩, h3⟩
      exact absurd h2 hfit
theorem s_iaload (hs : rMonoS X.2.1) {a : Nat} {i : Int32} (hd : decode X.2.2.2.2.1 pc = .ok (.iaload, 1)) : Wp X Q (pc, lo, .int i :: .ref a :: st, w) ↔ (vp_in i (rGn w a) ∧ Wp X Q (pc + 1, lo, .int (rGv w a i.toNatClampNeg) :: st, w)) := by
  rw [Wp_step hs hd]
  constructor
  · rintro ⟨-, j, b, r, t, n, g, h1, h2, h3, h4, h5⟩
    cases h1
    simp only [rGn, rGv, h2, if_pos h3]
    exact ⟨h4, h5⟩
  · rintro ⟨h1, h2⟩
    unfold rGn at h1
    unfold rGv at h2
    split at h1
    · rename_i t n g hc
      rw [hc] at h2
      split at h1
      · rename_i ht
        exact ⟨rfl, i, a, st, t, n, g, rfl, hc, ht, h1, h2⟩
      · exact absurd h1 vp_in0
    · exact absurd h1 vp_in0
theorem s_baload (hs : rMonoS X.2.1) {a : Nat} {i : Int32} (hd : decode X.2.2.2.2.1 pc = .ok (.baload, 1)) : Wp X Q (pc, lo, .int i :: .ref a :: st, w) ↔ (vp_in i (rBn w a) ∧ Wp X Q (pc + 1, lo, .int (rGv w a i.toNatClampNeg) :: st, w)) := by
  rw [Wp_step hs hd]
  constructor
  · rintro ⟨-, j, b, r, t, n, g, h1, h2, h3, h4, h5⟩
    cases h1
    simp only [rBn, rGv, h2, if_pos h3]
    exact ⟨h4, h5⟩
  · rintro ⟨h1, h2⟩
    unfold rBn at h1
    unfold rGv at h2
    split at h1
    · rename_i t n g hc
      rw [hc] at h2
      split at h1
      · rename_i ht
        exact ⟨rfl, i, a, st, t, n, g, rfl, hc, ht, h1, h2⟩
      · exact absurd h1 vp_in0
    · exact absurd h1 vp_in0
theorem s_laload (hs : rMonoS X.2.1) {a : Nat} {i : Int32} (hd : decode X.2.2.2.2.1 pc = .ok (.laload, 1)) : Wp X Q (pc, lo, .int i :: .ref a :: st, w) ↔ (vp_in i (rLn w a) ∧ Wp X Q (pc + 1, lo, .long (rLg w a i.toNatClampNeg) :: st, w)) := by
  rw [Wp_step hs hd]
  constructor
  · rintro ⟨-, j, b, r, n, g, h1, h2, h4, h5⟩
    cases h1
    simp only [rLn, rLg, h2]
    exact ⟨h4, h5⟩
  · rintro ⟨h1, h2⟩
    unfold rLn at h1
    unfold rLg at h2
    split at h1
    · rename_i n g hc
      rw [hc] at h2
      exact ⟨rfl, i, a, st, n, g, rfl, hc, h1, h2⟩
    · exact absurd h1 vp_in0
theorem s_aaload (hs : rMonoS X.2.1) {a : Nat} {i : Int32} (hd : decode X.2.2.2.2.1 pc = .ok (.aaload, 1)) : Wp X Q (pc, lo, .int i :: .ref a :: st, w) ↔ (vp_in i (rRn w a) ∧ Wp X Q (pc + 1, lo, va_rf (rRg w a i.toNatClampNeg) :: st, w)) := by
  rw [Wp_step hs hd]
  constructor
  · rintro ⟨-, j, b, r, n, g, h1, h2, h4, h5⟩
    cases h1
    simp only [rRn, rRg, h2]
    exact ⟨h4, h5⟩
  · rintro ⟨h1, h2⟩
    unfold rRn at h1
    unfold rRg at h2
    split at h1
    · rename_i n g hc
      rw [hc] at h2
      exact ⟨rfl, i, a, st, n, g, rfl, hc, h1, h2⟩
    · exact absurd h1 vp_in0
theorem s_iastore (hs : rMonoS X.2.1) {a : Nat} {i x : Int32} (hd : decode X.2.2.2.2.1 pc = .ok (.iastore, 1)) : Wp X Q (pc, lo, .int x :: .int i :: .ref a :: st, w) ↔ (vp_in i (rWn w a) ∧ Wp X Q (pc + 1, lo, st, rSi w a i.toNatClampNeg x)) := by
  rw [Wp_step hs hd]
  constructor
  · rintro ⟨-, y, j, b, r, n, g, h1, h2, h4, h5⟩
    cases h1
    simp only [rWn, rGv, rSi, h2, if_true]
    exact ⟨h4, h5⟩
  · rintro ⟨h1, h2⟩
    unfold rSi rGv at h2
    unfold rWn at h1 h2
    split at h1
    · rename_i t n g hc
      rw [hc] at h2
      split at h1
      · rename_i ht
        subst ht
        exact ⟨rfl, x, i, a, st, n, g, rfl, hc, h1, h2⟩
      · exact absurd h1 vp_in0
    · exact absurd h1 vp_in0
theorem s_bastore (hs : rMonoS X.2.1) {a : Nat} {i x : Int32} (hd : decode X.2.2.2.2.1 pc = .ok (.bastore, 1)) : Wp X Q (pc, lo, .int x :: .int i :: .ref a :: st, w) ↔ (vp_in i (rBw w a) ∧ Wp X Q (pc + 1, lo, st, rSb w a i.toNatClampNeg x)) := by
  rw [Wp_step hs hd]
  constructor
  · rintro ⟨-, y, j, b, r, n, g, h1, h2, h4, h5⟩
    cases h1
    simp only [rBw, rGv, rSb, h2, if_true]
    exact ⟨h4, h5⟩
  · rintro ⟨h1, h2⟩
    unfold rSb rGv at h2
    unfold rBw at h1 h2
    split at h1
    · rename_i t n g hc
      rw [hc] at h2
      split at h1
      · rename_i ht
        subst ht
        exact ⟨rfl, x, i, a, st, n, g, rfl, hc, h1, h2⟩
      · exact absurd h1 vp_in0
    · exact absurd h1 vp_in0
theorem s_lastore (hs : rMonoS X.2.1) {a : Nat} {i : Int32} {x : Int64} (hd : decode X.2.2.2.2.1 pc = .ok (.lastore, 1)) : Wp X Q (pc, lo, .long x :: .int i :: .ref a :: st, w) ↔ (vp_in i (rLn w a) ∧ Wp X Q (pc + 1, lo, st, rSl w a i.toNatClampNeg x)) := by
  rw [Wp_step hs hd]
  constructor
  · rintro ⟨-, y, j, b, r, n, g, h1, h2, h4, h5⟩
    cases h1
    simp only [rLn, rLg, rSl, h2]
    exact ⟨h4, h5⟩
  · rintro ⟨h1, h2⟩
    unfold rSl rLg at h2
    unfold rLn at h1 h2
    split at h1
    · rename_i n g hc
      rw [hc] at h2
      exact ⟨rfl, x, i, a, st, n, g, rfl, hc, h1, h2⟩
    · exact absurd h1 vp_in0
theorem s_aastore (hs : rMonoS X.2.1) {a x : Nat} {i : Int32} (hd : decode X.2.2.2.2.1 pc = .ok (.aastore, 1)) : Wp X Q (pc, lo, .ref x :: .int i :: .ref a :: st, w) ↔ (rIs w x 1 ∧ vp_in i (rRn w a) ∧ Wp X Q (pc + 1, lo, st, rSr w a i.toNatClampNeg x)) := by
  rw [Wp_step hs hd]
  constructor
  · rintro ⟨-, y, j, b, r, n, g, h1, h2, h3, h4, h5⟩
    cases h1
    simp only [rRn, rRg, rSr, h2]
    exact ⟨h3, h4, h5⟩
  · rintro ⟨h3, h1, h2⟩
    unfold rSr rRg at h2
    unfold rRn at h1 h2
    split at h1
    · rename_i n g hc
      rw [hc] at h2
      exact ⟨rfl, x, i, a, st, n, g, rfl, hc, h3, h1, h2⟩
    · exact absurd h1 vp_in0
theorem s_alen (hs : rMonoS X.2.1) {a : Nat} (hd : decode X.2.2.2.2.1 pc = .ok (.arraylength, 1)) : Wp X Q (pc, lo, .ref a :: st, w) ↔ (rLen w a).elim False (fun n => Wp X Q (pc + 1, lo, .int (Int32.ofNat n) :: st, w)) := by
  rw [Wp_step hs hd]
  constructor
  · rintro ⟨-, b, r, n, h1, h2, h3⟩
    cases h1
    rw [h2]
    exact h3
  · intro h
    cases hv : rLen w a with
    | none => rw [hv] at h; exact h.elim
    | some n => rw [hv] at h; exact ⟨rfl, a, st, n, rfl, hv, h⟩
theorem s_new (hs : rMonoS X.2.1) {idx ci n : Nat} {fs : List Value} (hd : decode X.2.2.2.2.1 pc = .ok (.new idx, 3)) (hf : rCls.lookup (X.2.2.2.1, idx) = some (ci, n, fs)) : Wp X Q (pc, lo, st, w) ↔ (w.2.1 + 1 ≤ X.2.2.2.2.2.2.2.1 ∧ w.2.2 + n ≤ X.2.2.2.2.2.2.2.2 ∧ Wp X Q (pc + 3, lo, .ref w.2.1 :: st, rNew w (rO ci fs) n)) := by
  rw [Wp_step hs hd]
  exact ⟨fun ⟨_, _, _, _, h1, h2, h3, h4⟩ => by rw [hf] at h1; cases h1; exact ⟨h2, h3, h4⟩, fun h => ⟨rfl, ci, n, fs, hf, h.1, h.2.1, h.2.2⟩⟩
theorem s_newa (hs : rMonoS X.2.1) {t : ArrayType} {n : Int32} {N : Nat} {e : rE} (hd : decode X.2.2.2.2.1 pc = .ok (.newarray t, 2)) (hn : ¬ n < 0) (hN : n.toNatClampNeg = N) (hle : N ≤ 1000) (hz : rZero t N = some e) : Wp X Q (pc, lo, .int n :: st, w) ↔ (w.2.1 + 1 ≤ X.2.2.2.2.2.2.2.1 ∧ w.2.2 + N ≤ X.2.2.2.2.2.2.2.2 ∧ Wp X Q (pc + 2, lo, .ref w.2.1 :: st, rNew w e N)) := by
  subst hN
  rw [Wp_step hs hd]
  exact ⟨fun ⟨_, _, _, _, h1, _, _, h3, h4, h5, h6⟩ => by cases h1; rw [hz] at h3; cases h3; exact ⟨h4, h5, h6⟩, fun h => ⟨rfl, n, st, e, rfl, hn, hle, hz, h.1, h.2.1, h.2.2⟩⟩
theorem s_anew (hs : rMonoS X.2.1) {idx : Nat} {n : Int32} {N : Nat} (hd : decode X.2.2.2.2.1 pc = .ok (.anewarray idx, 3)) (hi : (X.2.2.2.1, idx) = (4, 33)) (hn : ¬ n < 0) (hN : n.toNatClampNeg = N) (hle : N ≤ 1000) : Wp X Q (pc, lo, .int n :: st, w) ↔ (w.2.1 + 1 ≤ X.2.2.2.2.2.2.2.1 ∧ w.2.2 + N ≤ X.2.2.2.2.2.2.2.2 ∧ Wp X Q (pc + 3, lo, .ref w.2.1 :: st, rNew w (.inr (.inr (.inl (N, fun _ => none)))) N)) := by
  subst hN
  rw [Wp_step hs hd]
  exact ⟨fun ⟨_, _, _, h1, _, _, _, h4, h5, h6⟩ => by cases h1; exact ⟨h4, h5, h6⟩, fun h => ⟨rfl, n, st, rfl, hi, hn, hle, h.1, h.2.1, h.2.2⟩⟩
theorem rev_inj {As Bs : List Value} {r r2 : List Value} (hl : As.length = Bs.length) (h : As.reverse ++ r = Bs.reverse ++ r2) : As = Bs ∧ r = r2 := by
  have := List.append_inj h (by simp [hl])
  exact ⟨List.reverse_inj.mp this.1, this.2⟩
theorem s_callV (hs : rMonoS X.2.1) {idx mid a : Nat} {md : rM} {As r : List Value} (hd : decode X.2.2.2.2.1 pc = .ok (.invokevirtual idx, 3)) (hf : rCal.lookup (X.2.2.2.1, idx) = some (0, mid)) (hm : rMth mid = some md) (hz : md.2.2.2.2.2.2.1 = 0 ∧ md.2.2.2.2.2.2.2 = 0) (hn : As.length = md.2.2.2.2.2.1) (hst : st = As.reverse ++ .ref a :: r) (hc : rCat r ≤ 8) {ci : Nat} (hci : (if md.2.2.2.2.1 = 7 then 100 else md.2.2.2.2.1) = ci) : Wp X Q (pc, lo, st, w) ↔ (rIs w a ci ∧ X.2.1 mid (.ref a :: As) w (fun v w' => Wp X Q (pc + 3, lo, v.toList ++ r, w'))) := by
  subst hst hci
  rw [Wp_step hs hd]
  constructor
  · rintro ⟨-, md2, mid2, As2, a2, r2, h1, h2, h3, h4, h5, h6, h7, h8⟩
    rw [hf] at h1
    cases h1
    rw [hm] at h2
    cases h2
    obtain ⟨e1, e2⟩ := rev_inj (hn.trans h4.symm) h5
    cases e2
    subst e1
    exact ⟨h7, h8⟩
  · rintro ⟨h1, h2⟩
    exact ⟨rfl, md, mid, As, a, r, hf, hm, Or.inl hz, hn, rfl, hc, h1, h2⟩
theorem s_callI (hs : rMonoS X.2.1) {idx mid a kd : Nat} {md : rM} {As r : List Value} (hd : decode X.2.2.2.2.1 pc = .ok (.invokespecial idx, 3)) (hk : kd = 2 ∨ kd = 3) (hf : rCal.lookup (X.2.2.2.1, idx) = some (kd, mid)) (hm : rMth mid = some md) (hn : As.length = md.2.2.2.2.2.1) (hst : st = As.reverse ++ .ref a :: r) (hc : rCat r ≤ 8) {ci : Nat} (hci : (if md.2.2.2.2.1 = 7 then 100 else md.2.2.2.2.1) = ci) : Wp X Q (pc, lo, st, w) ↔ (rMs md X.2.2.2.2.2.2.2 w ∧ rIs w a ci ∧ X.2.1 mid (.ref a :: As) w (fun v w' => Wp X Q (pc + 3, lo, v.toList ++ r, w'))) := by
  subst hst hci
  rw [Wp_step hs hd]
  constructor
  · rintro ⟨-, h⟩
    rcases h with ⟨md2, mid2, As2, a2, r2, h1, h2, h3, h4, h5, h6, h7, h8⟩ | ⟨md2, mid2, As2, a2, r2, h1, h2, h3, h4, h5, h6, h7, h8⟩ | ⟨a2, r2, h1, -⟩
    · rw [hf] at h1
      cases h1
      rw [hm] at h2
      cases h2
      obtain ⟨e1, e2⟩ := rev_inj (hn.trans h4.symm) h5
      cases e2
      subst e1
      exact ⟨h3, h7, h8⟩
    · rw [hf] at h1
      cases h1
      rw [hm] at h2
      cases h2
      obtain ⟨e1, e2⟩ := rev_inj (hn.trans h4.symm) h5
      cases e2
      subst e1
      exact ⟨h3, h7, h8⟩
    · rw [hf] at h1
      cases h1
      rcases hk with hk | hk <;> cases hk
  · rintro ⟨h3, h1, h2⟩
    rcases hk with rfl | rfl
    · exact ⟨rfl, Or.inl ⟨md, mid, As, a, r, hf, hm, h3, hn, rfl, hc, h1, h2⟩⟩
    · exact ⟨rfl, Or.inr (Or.inl ⟨md, mid, As, a, r, hf, hm, h3, hn, rfl, hc, h1, h2⟩)⟩
theorem s_objI (hs : rMonoS X.2.1) {idx a : Nat} {r : List Value} (hd : decode X.2.2.2.2.1 pc = .ok (.invokespecial idx, 3)) (hf : rCal.lookup (X.2.2.2.1, idx) = some (4, 0)) (h1 : 1 ≤ X.2.2.1) (hc : rCat r ≤ 8) : Wp X Q (pc, lo, .ref a :: r, w) ↔ Wp X Q (pc + 3, lo, r, w) := by
  rw [Wp_step hs hd]
  constructor
  · rintro ⟨-, h⟩
    rcases h with ⟨_, _, _, _, _, h1, -⟩ | ⟨_, _, _, _, _, h1, -⟩ | ⟨a2, r2, h1, h2, h3, h4, h5⟩
    · rw [hf] at h1; cases h1
    · rw [hf] at h1; cases h1
    · cases h3; exact h5
  · intro h
    exact ⟨rfl, Or.inr (Or.inr ⟨a, r, hf, h1, rfl, hc, h⟩)⟩
theorem s_callS (hs : rMonoS X.2.1) {idx mid : Nat} {md : rM} {As r : List Value} (hd : decode X.2.2.2.2.1 pc = .ok (.invokestatic idx, 3)) (hf : rCal.lookup (X.2.2.2.1, idx) = some (1, mid)) (hm : rMth mid = some md) (hz : md.2.2.2.2.2.2.1 = 0 ∧ md.2.2.2.2.2.2.2 = 0) (hn : As.length = md.2.2.2.2.2.1) (hst : st = As.reverse ++ r) (hc : rCat r ≤ 8) : Wp X Q (pc, lo, st, w) ↔ X.2.1 mid As w (fun v w' => Wp X Q (pc + 3, lo, v.toList ++ r, w')) := by
  subst hst
  rw [Wp_step hs hd]
  constructor
  · rintro ⟨-, h⟩
    rcases h with ⟨md2, mid2, As2, r2, h1, h2, h3, h4, h5, h6, h8⟩ | ⟨_, _, _, _, _, _, _, _, _, _, h1, -⟩ | ⟨_, _, _, _, _, _, _, _, _, _, h1, -⟩ | ⟨_, _, _, h1, -⟩ | ⟨_, _, _, h1, -⟩
    · rw [hf] at h1
      cases h1
      rw [hm] at h2
      cases h2
      obtain ⟨e1, e2⟩ := rev_inj (hn.trans h4.symm) h5
      subst e1 e2
      exact h8
    all_goals (rw [hf] at h1; cases h1)
  · intro h2
    exact ⟨rfl, Or.inl ⟨md, mid, As, r, hf, hm, Or.inl hz, hn, rfl, hc, h2⟩⟩
theorem s_max (hs : rMonoS X.2.1) {idx : Nat} {x y : Int32} {r : List Value} (hd : decode X.2.2.2.2.1 pc = .ok (.invokestatic idx, 3)) (hf : rCal.lookup (X.2.2.2.1, idx) = some (6, 0)) (h1 : 1 ≤ X.2.2.1) (hc : rCat r ≤ 8) : Wp X Q (pc, lo, .int y :: .int x :: r, w) ↔ Wp X Q (pc + 3, lo, .int (iMax x y) :: r, w) := by
  rw [Wp_step hs hd]
  constructor
  · rintro ⟨-, h⟩
    rcases h with ⟨_, _, _, _, h1, -⟩ | ⟨_, _, _, _, _, _, _, _, _, _, h1, -⟩ | ⟨_, _, _, _, _, _, _, _, _, _, h1, -⟩ | ⟨_, _, _, h1, _, h2, _, h3⟩ | ⟨_, _, _, h1, -⟩
    · rw [hf] at h1; cases h1
    · rw [hf] at h1; cases h1
    · rw [hf] at h1; cases h1
    · cases h2; exact h3
    · rw [hf] at h1; cases h1
  · intro h
    exact ⟨rfl, Or.inr (Or.inr (Or.inr (Or.inl ⟨x, y, r, hf, h1, rfl, hc, h⟩)))⟩
theorem s_min (hs : rMonoS X.2.1) {idx : Nat} {x y : Int32} {r : List Value} (hd : decode X.2.2.2.2.1 pc = .ok (.invokestatic idx, 3)) (hf : rCal.lookup (X.2.2.2.1, idx) = some (7, 0)) (h1 : 1 ≤ X.2.2.1) (hc : rCat r ≤ 8) : Wp X Q (pc, lo, .int y :: .int x :: r, w) ↔ Wp X Q (pc + 3, lo, .int (iMin x y) :: r, w) := by
  rw [Wp_step hs hd]
  constructor
  · rintro ⟨-, h⟩
    rcases h with ⟨_, _, _, _, h1, -⟩ | ⟨_, _, _, _, _, _, _, _, _, _, h1, -⟩ | ⟨_, _, _, _, _, _, _, _, _, _, h1, -⟩ | ⟨_, _, _, h1, -⟩ | ⟨_, _, _, h1, _, h2, _, h3⟩
    · rw [hf] at h1; cases h1
    · rw [hf] at h1; cases h1
    · rw [hf] at h1; cases h1
    · rw [hf] at h1; cases h1
    · cases h2; exact h3
  · intro h
    exact ⟨rfl, Or.inr (Or.inr (Or.inr (Or.inr ⟨x, y, r, hf, h1, rfl, hc, h⟩)))⟩
/-- System.arraycopy: what must hold, and what it makes (one direction: it is what we need) -/
theorem s_cpI (hs : rMonoS X.2.1) {idx a0 a n0 n1 : Nat} {f g : Nat → Int32} {sp dp n : Int32} {r : List Value} (hd : decode X.2.2.2.2.1 pc = .ok (.invokestatic idx, 3)) (hf : rCal.lookup (X.2.2.2.1, idx) = some (5, 0)) (h1 : 1 ≤ X.2.2.1) (hc : rCat r ≤ 8) (ha0 : w.1 a0 = some (.inl (0, n0, f))) (ha : w.1 a = some (.inl (0, n1, g))) (g1 : ¬ sp < 0) (g2 : ¬ dp < 0) (g3 : ¬ n < 0) (g4 : sp.toNatClampNeg + n.toNatClampNeg ≤ n0) (g5 : dp.toNatClampNeg + n.toNatClampNeg ≤ n1) : Wp X Q (pc, lo, .int n :: .int dp :: .ref a :: .int sp :: .ref a0 :: r, w) ↔ Wp X Q (pc + 3, lo, r, rU w a (.inl (0, n1, va_cpy f g sp.toNatClampNeg dp.toNatClampNeg n.toNatClampNeg))) := by
  rw [Wp_step hs hd]
  constructor
  · rintro ⟨-, h⟩
    rcases h with ⟨_, _, _, _, h1, -⟩ | ⟨_, _, _, _, _, _, _, _, _, _, h1, _, h2, _, h3, h4, _, _, _, _, _, h5⟩ | ⟨_, _, _, _, _, _, _, _, _, _, h1, _, h2, _, h3, -⟩ | ⟨_, _, _, h1, -⟩ | ⟨_, _, _, h1, -⟩
    · rw [hf] at h1; cases h1
    · cases h2
      rw [ha0] at h3
      cases h3
      rw [ha] at h4
      cases h4
      exact h5
    · cases h2
      rw [ha0] at h3
      cases h3
    · rw [hf] at h1; cases h1
    · rw [hf] at h1; cases h1
  · intro h
    exact ⟨rfl, Or.inr (Or.inl ⟨a0, sp, a, dp, n, r, n0, n1, f, g, hf, h1, rfl, hc, ha0, ha, g1, g2, g3, g4, g5, h⟩)⟩
theorem s_cpL (hs : rMonoS X.2.1) {idx a0 a n0 n1 : Nat} {f g : Nat → Int64} {sp dp n : Int32} {r : List Value} (hd : decode X.2.2.2.2.1 pc = .ok (.invokestatic idx, 3)) (hf : rCal.lookup (X.2.2.2.1, idx) = some (5, 0)) (h1 : 1 ≤ X.2.2.1) (hc : rCat r ≤ 8) (ha0 : w.1 a0 = some (.inr (.inl (n0, f)))) (ha : w.1 a = some (.inr (.inl (n1, g)))) (g1 : ¬ sp < 0) (g2 : ¬ dp < 0) (g3 : ¬ n < 0) (g4 : sp.toNatClampNeg + n.toNatClampNeg ≤ n0) (g5 : dp.toNatClampNeg + n.toNatClampNeg ≤ n1) : Wp X Q (pc, lo, .int n :: .int dp :: .ref a :: .int sp :: .ref a0 :: r, w) ↔ Wp X Q (pc + 3, lo, r, rU w a (.inr (.inl (n1, va_cpy f g sp.toNatClampNeg dp.toNatClampNeg n.toNatClampNeg)))) := by
  rw [Wp_step hs hd]
  constructor
  · rintro ⟨-, h⟩
    rcases h with ⟨_, _, _, _, h1, -⟩ | ⟨_, _, _, _, _, _, _, _, _, _, h1, _, h2, _, h3, -⟩ | ⟨_, _, _, _, _, _, _, _, _, _, h1, _, h2, _, h3, h4, _, _, _, _, _, h5⟩ | ⟨_, _, _, h1, -⟩ | ⟨_, _, _, h1, -⟩
    · rw [hf] at h1; cases h1
    · cases h2
      rw [ha0] at h3
      cases h3
    · cases h2
      rw [ha0] at h3
      cases h3
      rw [ha] at h4
      cases h4
      exact h5
    · rw [hf] at h1; cases h1
    · rw [hf] at h1; cases h1
  · intro h
    exact ⟨rfl, Or.inr (Or.inr (Or.inl ⟨a0, sp, a, dp, n, r, n0, n1, f, g, hf, h1, rfl, hc, ha0, ha, g1, g2, g3, g4, g5, h⟩))⟩
theorem s_iret (hs : rMonoS X.2.1) {x : Int32} {ty : FieldType} (hd : decode X.2.2.2.2.1 pc = .ok (.ireturn, 1)) (hr : X.2.2.2.2.2.1 = some ty) : Wp X Q (pc, lo, [.int x], w) ↔ (narrow ty (.int x) = .int x ∧ Q (some (.int x)) w) := by
  rw [Wp_step hs hd]
  constructor
  · rintro ⟨-, v, ⟨y, t, h1, h2, h3, h4⟩, h5⟩
    cases h1
    rw [hr] at h2
    cases h2
    subst h4
    exact ⟨h3, h5⟩
  · rintro ⟨h1, h2⟩
    exact ⟨rfl, _, ⟨x, ty, rfl, hr, h1, rfl⟩, h2⟩
theorem s_lret (hs : rMonoS X.2.1) {x : Int64} (hd : decode X.2.2.2.2.1 pc = .ok (.lreturn, 1)) (hr : X.2.2.2.2.2.1 = some .long) : Wp X Q (pc, lo, [.long x], w) ↔ Q (some (.long x)) w := by
  rw [Wp_step hs hd]
  constructor
  · rintro ⟨-, v, ⟨y, h1, h2, h4⟩, h5⟩
    cases h1
    subst h4
    exact h5
  · intro h2
    exact ⟨rfl, _, ⟨x, rfl, hr, rfl⟩, h2⟩
theorem s_aret (hs : rMonoS X.2.1) {x : Nat} {ty : FieldType} (hd : decode X.2.2.2.2.1 pc = .ok (.areturn, 1)) (hr : X.2.2.2.2.2.1 = some ty) (ht : (∃ n, ty = .object n) ∨ ∃ t, ty = .array t) : Wp X Q (pc, lo, [.ref x], w) ↔ Q (some (.ref x)) w := by
  rw [Wp_step hs hd]
  constructor
  · rintro ⟨-, v, ⟨y, t, h1, h2, h3, h4⟩, h5⟩
    cases h1
    subst h4
    exact h5
  · intro h2
    exact ⟨rfl, _, ⟨x, ty, rfl, hr, ht, rfl⟩, h2⟩
theorem s_vret (hs : rMonoS X.2.1) (hd : decode X.2.2.2.2.1 pc = .ok (.return_, 1)) (hr : X.2.2.2.2.2.1 = none) : Wp X Q (pc, lo, [], w) ↔ Q none w := by
  rw [Wp_step hs hd]
  constructor
  · rintro ⟨-, v, ⟨h1, h2, h4⟩, h5⟩
    subst h4
    exact h5
  · intro h2
    exact ⟨rfl, _, ⟨rfl, hr, rfl⟩, h2⟩
end STEP
