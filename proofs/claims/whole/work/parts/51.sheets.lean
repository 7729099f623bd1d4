/-! the class's four sheets inside its whole object -/
def updS (sh : rSh) (s : Nat) (z : Int32 × Int32 × (Nat → Int64)) : rSh := fun q => if q = s then z else sh q
theorem updS_at {sh : rSh} {s : Nat} {z : Int32 × Int32 × (Nat → Int64)} : updS sh s z s = z := by simp [updS]
theorem updS_self {sh : rSh} {s : Nat} : updS sh s (sh s) = sh := by
  funext q
  by_cases h : q = s <;> simp [updS, h]
theorem sh_rU {w : rW} {k : Nat} {x y : Int32} {g : Nat → Int64} : shSet w k x y g = rU (rU w (k + 1) (rLA 40 g)) k (rO 1 [.ref (k + 1), .int x, .int y]) := rfl
section T51
variable {θ : (Nat → Value) × (Nat → Nat)} {n : Nat} {w : rW} {b : Nat} {P A K : rR} {kp : Int32} {tp : Nat → Int32} {tl rs re : Int32} {sh : rSh} {fd : Nat → Int32} {Q : rQ} {m : Nat}
theorem cw_S {s : Nat} (hs : s < 4) {x y : Int32} {g : Nat → Int64} : shSet (cW w b P A K kp tp tl rs re sh fd) (b + 28 + 2 * s) x y g = cW w b P A K kp tp tl rs re (updS sh s (x, y, g)) fd := by
  rw [sh_rU]
  have h1 : rU (cW w b P A K kp tp tl rs re sh fd) (b + 28 + 2 * s + 1) (rLA 40 g) = cW w b P A K kp tp tl rs re (updS sh s ((sh s).1, (sh s).2.1, g)) fd := by
    refine cw_rU (by omega) (Prod.ext (funext fun q => ?_) rfl)
    simp only [rU, coSet]
    match s, hs with
    | 0, _ => by_cases h : q = b + 29 <;> simp [h, updS]
    | 1, _ => by_cases h : q = b + 31 <;> simp [h, updS]
    | 2, _ => by_cases h : q = b + 33 <;> simp [h, updS]
    | 3, _ => by_cases h : q = b + 35 <;> simp [h, updS]
  rw [h1]
  refine cw_rU (by omega) (Prod.ext (funext fun q => ?_) rfl)
  simp only [rU, coSet]
  match s, hs with
  | 0, _ => by_cases h : q = b + 28 <;> simp [h, updS]
  | 1, _ => by_cases h : q = b + 30 <;> simp [h, updS]
  | 2, _ => by_cases h : q = b + 32 <;> simp [h, updS]
  | 3, _ => by_cases h : q = b + 34 <;> simp [h, updS]
theorem cw_Ss {s : Nat} (hs : s < 4) : shSet (cW w b P A K kp tp tl rs re sh fd) (b + 28 + 2 * s) (sh s).1 (sh s).2.1 (sh s).2.2 = cW w b P A K kp tp tl rs re sh fd := by
  rw [cw_S hs]
  exact congrArg (fun z => cW w b P A K kp tp tl rs re z fd) updS_self
theorem cSh_at {s : Nat} (hs : s < 4) : va_rf (cShA b s) = .ref (b + 28 + 2 * s) := by simp [cShA, hs, va_rf]
theorem cS_is {s : Nat} (hs : s < 4) : rIs (cW w b P A K kp tp tl rs re sh fd) (b + 28 + 2 * s) 1 := by
  rw [← cw_Ss hs]; exact sh_is
theorem cS_f0 {s : Nat} (hs : s < 4) : rF (cW w b P A K kp tp tl rs re sh fd) (b + 28 + 2 * s) 1 0 = some (.ref (b + 28 + 2 * s + 1)) := by
  rw [← cw_Ss hs]; exact sh_f0
theorem cS_f1 {s : Nat} (hs : s < 4) : rF (cW w b P A K kp tp tl rs re sh fd) (b + 28 + 2 * s) 1 1 = some (.int (sh s).1) := by
  rw [← cw_Ss hs]; exact sh_f1
theorem cS_f2 {s : Nat} (hs : s < 4) : rF (cW w b P A K kp tp tl rs re sh fd) (b + 28 + 2 * s) 1 2 = some (.int (sh s).2.1) := by
  rw [← cw_Ss hs]; exact sh_f2
theorem cS_n {s : Nat} (hs : s < 4) : rLn (cW w b P A K kp tp tl rs re sh fd) (b + 28 + 2 * s + 1) = 40 := by
  rw [← cw_Ss hs]; exact sh_n
theorem cS_g {s : Nat} (hs : s < 4) : rLg (cW w b P A K kp tp tl rs re sh fd) (b + 28 + 2 * s + 1) = (sh s).2.2 := by
  rw [← cw_Ss hs]; exact sh_g
theorem qX2_isMissing {s : Nat} (hs : s < 4) : sg θ (n + 1) 24 [.ref (b + 28 + 2 * s)] (cW w b P A K kp tp tl rs re sh fd) Q ↔ Q (some (.int (bI (decide ((sh s).1 = 0))))) (cW w b P A K kp tp tl rs re sh fd) := by
  have h := sX2_isMissing (θ := θ) (n := n) (Q := Q) (w := cW w b P A K kp tp tl rs re sh fd) (k := b + 28 + 2 * s) (bits := (sh s).1) (len := (sh s).2.1) (g := (sh s).2.2)
  simp only [cw_Ss hs] at h
  exact h
theorem qX2_make {s : Nat} (hs : s < 4) {x y : Int32} : sg θ (n + 2) 23 [.ref (b + 28 + 2 * s), .int x, .int y] (cW w b P A K kp tp tl rs re sh fd) Q ↔ Q none (cW w b P A K kp tp tl rs re (updS sh s (x, if x = 0 then 0 else y, fillUp (sh s).2.2 0 40)) fd) := by
  have h := sX2_make (θ := θ) (n := n) (Q := Q) (w := cW w b P A K kp tp tl rs re sh fd) (k := b + 28 + 2 * s) (bits := (sh s).1) (len := (sh s).2.1) (g := (sh s).2.2) (x := x) (y := y)
  simp only [cw_Ss hs] at h
  rw [h, cw_S hs]
theorem qX2_put {s : Nat} (hs : s < 4) {i : Nat} {v : Int64} (hi : i < 40) : sg θ (n + 1) 25 [.ref (b + 28 + 2 * s), .int (nI i), .long v] (cW w b P A K kp tp tl rs re sh fd) Q ↔ Q none (cW w b P A K kp tp tl rs re (updS sh s ((sh s).1, (sh s).2.1, vp_updL (sh s).2.2 i (narL (sh s).1 v))) fd) := by
  have h := sX2_put (θ := θ) (n := n) (Q := Q) (w := cW w b P A K kp tp tl rs re sh fd) (k := b + 28 + 2 * s) (bits := (sh s).1) (len := (sh s).2.1) (g := (sh s).2.2) (v := v) hi
  simp only [cw_Ss hs] at h
  rw [h, cw_S hs]
theorem qX2_hasFrom {s : Nat} (hs : s < 4) {x y : Int32} : sg θ (n + 1) 26 [.ref (b + 28 + 2 * s), .int x, .int y] (cW w b P A K kp tp tl rs re sh fd) Q ↔ Q (some (.int (bI (hasB (sh s).2.1 x y)))) (cW w b P A K kp tp tl rs re sh fd) := by
  have h := sX2_hasFrom (θ := θ) (n := n) (Q := Q) (w := cW w b P A K kp tp tl rs re sh fd) (k := b + 28 + 2 * s) (bits := (sh s).1) (len := (sh s).2.1) (g := (sh s).2.2) (x := x) (y := y)
  simp only [cw_Ss hs] at h
  exact h

theorem sX5_isSheet {x : Int32} : sg θ (n + 1) 69 [.ref b, .int x] (cW w b P A K kp tp tl rs re sh fd) Q ↔ Q (some (.int (bI (decide (0 ≤ x ∧ x < 4))))) (cW w b P A K kp tp tl rs re sh fd) := by
  rw [nX5_isSheet]
  simp only [eX5_isSheet_0, eX5_isSheet_1, eX5_isSheet_4, eX5_isSheet_5, eX5_isSheet_6, eX5_isSheet_9, eX5_isSheet_10, eX5_isSheet_13, eX5_isSheet_14, eX5_isSheet_17, eX5_isSheet_18, cw_is, cw_isP, cw_isA, cw_isK, cw_kp, cw_tis, cw_t0, cw_t1, cw_t2, cw_t3, cw_tp, cw_bn, cw_bw, cw_bv, cw_bs, cw_rp1, cw_rp2, cw_rn, cw_rg, cw_rl, cw_fn, cw_fw, cw_fv, cw_fs, cw_f0, cw_f1, cw_f2, cw_f3, cw_f4, cw_f5, cw_f6, p_n0, p_n1, p_n2, p_n3, p_n4, p_n5, p_n6, p_w0, p_w1, p_w2, p_w3, p_w4, p_w5, p_w6, p_v0, p_v1, p_v2, p_v3, p_v4, p_v5, p_v6, p_s0, p_s1, p_s2, p_s3, p_s4, p_s5, p_s6, a_n0, a_n1, a_n2, a_n3, a_n4, a_n5, a_n6, a_w0, a_w1, a_w2, a_w3, a_w4, a_w5, a_w6, a_v0, a_v1, a_v2, a_v3, a_v4, a_v5, a_v6, a_s0, a_s1, a_s2, a_s3, a_s4, a_s5, a_s6, p_f0, p_f1, p_f2, p_f3, p_f4, p_f5, p_f6, p_f7, p_f8, p_f9, a_f0, a_f1, a_f2, a_f3, a_f4, a_f5, a_f6, a_f7, a_f8, a_f9, p_p1, a_p1, cpAP, cpKP, cpPK, cpPA, Option.elim_some, true_and, and_true, Option.toList_some, Option.toList_none, List.cons_append, List.nil_append]
  by_cases h : x < 0
  · have h1 : ¬ (0 : Int32) ≤ x := Int32.not_le.mpr h
    simp [h, h1, bI, nb_0]
  · have h1 : (0 : Int32) ≤ x := Int32.not_lt.mp h
    by_cases h2 : x < 4
    · have h3 : ¬ (4 : Int32) ≤ x := Int32.not_le.mpr h2
      have h4 : ¬ Int32.ofNat 4 ≤ x := h3
      simp [h, h1, h2, h3, h4, bI, nb_1]
    · have h3 : (4 : Int32) ≤ x := Int32.not_lt.mp h2
      have h4 : Int32.ofNat 4 ≤ x := h3
      simp [h, h1, h2, h3, h4, bI, nb_0]
end T51
