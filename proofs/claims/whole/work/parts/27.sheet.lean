/-- a Sheet: two cells -/
def shSet (w : rW) (k : Nat) (bits len : Int32) (g : Nat → Int64) : rW := (fun q => if q = k then some (rO 1 [.ref (k + 1), .int bits, .int len]) else if q = k + 1 then some (rLA 40 g) else w.1 q, w.2)
section SH
variable {w : rW} {k : Nat} {bits len : Int32} {g : Nat → Int64}
theorem sh_at : (shSet w k bits len g).1 k = some (rO 1 [.ref (k + 1), .int bits, .int len]) := by simp [shSet]
theorem sh_at1 : (shSet w k bits len g).1 (k + 1) = some (rLA 40 g) := by simp [shSet]
theorem sh_off {q : Nat} (h : q < k ∨ k + 2 ≤ q) : (shSet w k bits len g).1 q = w.1 q := by
  simp only [shSet]
  rw [if_neg (by omega), if_neg (by omega)]
theorem sh_is : rIs (shSet w k bits len g) k 1 := ⟨_, sh_at⟩
theorem sh_f0 : rF (shSet w k bits len g) k 1 0 = some (.ref (k + 1)) := by simp [rF, sh_at]
theorem sh_f1 : rF (shSet w k bits len g) k 1 1 = some (.int bits) := by simp [rF, sh_at]
theorem sh_f2 : rF (shSet w k bits len g) k 1 2 = some (.int len) := by simp [rF, sh_at]
theorem sh_n : rLn (shSet w k bits len g) (k + 1) = 40 := by simp [rLn, sh_at1]
theorem sh_g : rLg (shSet w k bits len g) (k + 1) = g := by simp [rLg, sh_at1]
theorem sh_l : rLen (shSet w k bits len g) (k + 1) = some 40 := by simp [rLen, sh_at1]
theorem sh_p1 {x : Int32} : rPf (shSet w k bits len g) k 1 1 (.int x) = some (shSet w k x len g) := by
  simp only [rPf, sh_at]
  refine congrArg some (Prod.ext (funext fun q => ?_) rfl)
  simp only [rU, shSet]
  by_cases h : q = k <;> simp [h]
theorem sh_p2 {x : Int32} : rPf (shSet w k bits len g) k 1 2 (.int x) = some (shSet w k bits x g) := by
  simp only [rPf, sh_at]
  refine congrArg some (Prod.ext (funext fun q => ?_) rfl)
  simp only [rU, shSet]
  by_cases h : q = k <;> simp [h]
theorem sh_s {j : Nat} {x : Int64} : rSl (shSet w k bits len g) (k + 1) j x = shSet w k bits len (vp_updL g j x) := by
  refine Prod.ext (funext fun q => ?_) rfl
  simp only [rSl, sh_n, sh_g]
  simp only [rU, shSet]
  by_cases h : q = k + 1 <;> simp [h]
end SH
section T27
variable {θ : (Nat → Value) × (Nat → Nat)} {n : Nat} {w : rW} {k b : Nat} {bits len : Int32} {g : Nat → Int64} {Q : rQ}
theorem vp40 {j : Nat} (h : j < 40) : vp_in (nI j) 40 := vp_in_nI h (by decide)
theorem cl40 {j : Nat} (h : j < 40) : (nI j).toNatClampNeg = j := nI_clamp (by omega)
theorem sX2_isMissing : sg θ (n + 1) 24 [.ref k] (shSet w k bits len g) Q ↔ Q (some (.int (bI (decide (bits = 0))))) (shSet w k bits len g) := by
  rw [nX2_isMissing]
  simp only [eX2_isMissing_0, eX2_isMissing_1, eX2_isMissing_4, eX2_isMissing_7, eX2_isMissing_8, eX2_isMissing_11, eX2_isMissing_12, sh_f1, Option.elim_some]
  by_cases h : bits = 0 <;> simp [h, bI, nb_0, nb_1]
def fillUp (g : Nat → Int64) (x : Int64) (j : Nat) : Nat → Int64 := fun q => if q < j then x else g q
theorem fill_succ {g : Nat → Int64} {x : Int64} {j : Nat} : vp_updL (fillUp g x j) j x = fillUp g x (j + 1) := by
  funext q
  unfold vp_updL fillUp
  by_cases h : q = j
  · rw [if_pos h, if_pos (by omega)]
  · rw [if_neg h]
    by_cases h2 : q < j
    · rw [if_pos h2, if_pos (by omega)]
    · rw [if_neg h2, if_neg (by omega)]
theorem sJ7_fill {x : Int64} : sg θ (n + 1) 183 [.ref (k + 1), .long x] (shSet w k bits len g) Q ↔ Q none (shSet w k bits len (fillUp g x 40)) := by
  rw [nJ7_fill_d0a16]
  generalize ((shSet w k bits len g).2.1 + 0, (shSet w k bits len g).2.2 + 0) = lim
  have loop : ∀ d j, j + d = 40 → (Wp (xJ7_fill_d0a16 θ n lim) Q (6, [some (.ref (k + 1)), some (.long x), none, some (.int (nI j)), some (.int (Int32.ofNat 40))], [], shSet w k bits len (fillUp g x j)) ↔ Q none (shSet w k bits len (fillUp g x 40))) := by
    intro d
    induction d with
    | zero =>
      intro j hj
      have hj : j = 40 := by omega
      subst hj
      rw [eJ7_fill_d0a16_6]
      simp only [eJ7_fill_d0a16_0, eJ7_fill_d0a16_1, eJ7_fill_d0a16_2, eJ7_fill_d0a16_3, eJ7_fill_d0a16_4, eJ7_fill_d0a16_7, eJ7_fill_d0a16_9, eJ7_fill_d0a16_12, eJ7_fill_d0a16_13, eJ7_fill_d0a16_14, eJ7_fill_d0a16_15, eJ7_fill_d0a16_16, eJ7_fill_d0a16_19, eJ7_fill_d0a16_22, show (Int32.ofNat 40 ≤ nI 40) = True by decide, if_true]
    | succ d ih =>
      intro j hj
      have hlt : j < 40 := by omega
      rw [eJ7_fill_d0a16_6]
      have ih := ih (j + 1) (by omega)
      rw [nI_succ] at ih
      have hn : ¬ Int32.ofNat 40 ≤ nI j := nI_ge hlt (by decide)
      simp only [eJ7_fill_d0a16_0, eJ7_fill_d0a16_1, eJ7_fill_d0a16_2, eJ7_fill_d0a16_3, eJ7_fill_d0a16_4, eJ7_fill_d0a16_7, eJ7_fill_d0a16_9, eJ7_fill_d0a16_12, eJ7_fill_d0a16_13, eJ7_fill_d0a16_14, eJ7_fill_d0a16_15, eJ7_fill_d0a16_16, eJ7_fill_d0a16_19, eJ7_fill_d0a16_22, hn, if_false, sh_n, vp40 hlt, cl40 hlt, sh_s, fill_succ, true_and]
      exact ih
  have h0 : fillUp g x 0 = g := by funext q; simp [fillUp]
  simp only [eJ7_fill_d0a16_0, eJ7_fill_d0a16_1, eJ7_fill_d0a16_2, eJ7_fill_d0a16_3, eJ7_fill_d0a16_4, eJ7_fill_d0a16_7, eJ7_fill_d0a16_9, eJ7_fill_d0a16_12, eJ7_fill_d0a16_13, eJ7_fill_d0a16_14, eJ7_fill_d0a16_15, eJ7_fill_d0a16_16, eJ7_fill_d0a16_19, eJ7_fill_d0a16_22, sh_l, Option.elim_some]
  have := loop 40 0 (by decide)
  rw [h0] at this
  exact this
theorem sX2_make {x y : Int32} : sg θ (n + 2) 23 [.ref k, .int x, .int y] (shSet w k bits len g) Q ↔ Q none (shSet w k x (if x = 0 then 0 else y) (fillUp g 0 40)) := by
  rw [nX2_make]
  simp only [eX2_make_0, eX2_make_1, eX2_make_2, eX2_make_5, eX2_make_6, eX2_make_7, eX2_make_10, eX2_make_11, eX2_make_14, eX2_make_15, eX2_make_18, eX2_make_19, eX2_make_22, eX2_make_23, eX2_make_26, sh_p1, sh_p2, sh_f0, Option.elim_some, sJ7_fill, Option.toList_none, List.nil_append]
  by_cases h : x = 0 <;> simp only [h, if_true, if_false]
def narL (bits : Int32) (v : Int64) : Int64 := if bits = 8 then v.toInt32.toInt8.toInt32.toInt64 else if bits = 16 then v.toInt32.toInt16.toInt32.toInt64 else v
theorem sX2_put {i : Nat} {v : Int64} (hi : i < 40) : sg θ (n + 1) 25 [.ref k, .int (nI i), .long v] (shSet w k bits len g) Q ↔ Q none (shSet w k bits len (vp_updL g i (narL bits v))) := by
  rw [nX2_put]
  simp only [eX2_put_0, eX2_put_1, eX2_put_4, eX2_put_32, eX2_put_33, eX2_put_36, eX2_put_37, eX2_put_38, eX2_put_39, eX2_put_40, eX2_put_41, eX2_put_42, eX2_put_45, eX2_put_46, eX2_put_49, eX2_put_50, eX2_put_51, eX2_put_52, eX2_put_53, eX2_put_54, eX2_put_55, eX2_put_58, eX2_put_59, eX2_put_62, eX2_put_63, eX2_put_64, eX2_put_65, sh_f0, sh_f1, Option.elim_some, sh_n, sh_s, vp40 hi, cl40 hi, true_and, narL]
  by_cases h8 : bits = 8
  · simp only [h8, if_true]
  · by_cases h16 : bits = 16
    · simp only [h16, if_true, show ((16 : Int32) = 8) = False by decide, if_false]
    · simp only [h8, h16, if_false]
def hasB (len from_ n_ : Int32) : Bool := decide (0 ≤ from_ ∧ 0 ≤ n_ ∧ n_ ≤ len ∧ from_ ≤ len - n_)
theorem sX2_hasFrom {x y : Int32} : sg θ (n + 1) 26 [.ref k, .int x, .int y] (shSet w k bits len g) Q ↔ Q (some (.int (bI (hasB len x y)))) (shSet w k bits len g) := by
  rw [nX2_hasFrom]
  simp only [eX2_hasFrom_0, eX2_hasFrom_1, eX2_hasFrom_4, eX2_hasFrom_5, eX2_hasFrom_8, eX2_hasFrom_9, eX2_hasFrom_10, eX2_hasFrom_13, eX2_hasFrom_16, eX2_hasFrom_17, eX2_hasFrom_18, eX2_hasFrom_21, eX2_hasFrom_22, eX2_hasFrom_23, eX2_hasFrom_26, eX2_hasFrom_27, eX2_hasFrom_30, eX2_hasFrom_31, sh_f2, Option.elim_some, hasB]
  simp only [← Int32.not_lt (a := x) (b := 0), ← Int32.not_lt (a := y) (b := 0), ← Int32.not_lt (a := len) (b := y), ← Int32.not_lt (a := len - y) (b := x)]
  by_cases h1 : x < 0
  · simp [h1, bI, nb_0]
  · by_cases h2 : y < 0
    · simp [h1, h2, bI, nb_0]
    · by_cases h3 : len < y
      · simp [h1, h2, h3, bI, nb_0]
      · by_cases h4 : len - y < x
        · simp [h1, h2, h3, h4, bI, nb_0]
        · simp [h1, h2, h3, h4, bI, nb_1]
end T27
