/-! the reference's row -/
def mRow (r : rR) : Nat → Int32 := fun p => if p < 59 then r p else 0
def rowSet (w : rW) (c : Nat) (r : rR) : rW := rU w (c + 1) (rIA 59 (mRow r))
def moOK (w : rW) (c : Nat) : Prop := ∃ fs, w.1 c = some (rO 5 fs) ∧ fs[0]? = some (.ref (c + 1))
section MO
variable {w : rW} {c : Nat} {r : rR}
theorem mo_at (ho : moOK w c) : ∃ fs, (rowSet w c r).1 c = some (rO 5 fs) ∧ fs[0]? = some (.ref (c + 1)) := by
  obtain ⟨fs, h1, h2⟩ := ho
  refine ⟨fs, ?_, h2⟩
  simp only [rowSet, rU]
  rw [if_neg (by omega)]
  exact h1
theorem mo_f (ho : moOK w c) : rF (rowSet w c r) c 5 0 = some (.ref (c + 1)) := by
  obtain ⟨fs, h1, h2⟩ := mo_at (r := r) ho
  simp [rF, h1, h2]
theorem mo_is (ho : moOK w c) : rIs (rowSet w c r) c 5 := by
  obtain ⟨fs, h1, -⟩ := mo_at (r := r) ho
  exact ⟨fs, h1⟩
theorem mo_a : (rowSet w c r).1 (c + 1) = some (rIA 59 (mRow r)) := by simp [rowSet, rU]
theorem mo_n : rGn (rowSet w c r) (c + 1) = 59 := by simp [rGn, mo_a]
theorem mo_w : rWn (rowSet w c r) (c + 1) = 59 := by simp [rWn, mo_a]
theorem mo_v : rGv (rowSet w c r) (c + 1) = mRow r := by simp [rGv, mo_a]
theorem mRow_at {p : Nat} (h : p < 59) : mRow r p = r p := if_pos h
theorem mRow_up {p : Nat} {x : Int32} (h : p < 59) : mRow (upd r p x) = upd (mRow r) p x := by
  funext q
  simp only [mRow, upd]
  by_cases hq : q = p
  · subst hq; simp [h]
  · rw [if_neg hq, if_neg hq]
theorem mo_s {p : Nat} {x : Int32} (h : p < 59) : rSi (rowSet w c r) (c + 1) p x = rowSet w c (upd r p x) := by
  refine Prod.ext (funext fun q => ?_) rfl
  simp only [rSi, mo_w, mo_v]
  simp only [rowSet, rU, mRow_up h]
  by_cases hq : q = c + 1 <;> simp [hq]
theorem mo_set {r' : rR} : rowSet (rowSet w c r) c r' = rowSet w c r' := by
  refine Prod.ext (funext fun q => ?_) rfl
  simp only [rowSet, rU]
  by_cases hq : q = c + 1 <;> simp [hq]
end MO
theorem nI_mul (a b : Nat) : nI a * nI b = nI (a * b) := (Int32.ofNat_mul a b).symm
theorem ix_eq (i c : Nat) : (3 : Int32) + 7 * nI i + nI c = nI (3 + 7 * i + c) := by
  rw [show (3 : Int32) = nI 3 from rfl, show (7 : Int32) = nI 7 from rfl, nI_mul, nI_add, nI_add]
theorem vp59 {p : Nat} (h : p < 59) : vp_in (nI p) 59 := vp_in_nI h (by decide)
theorem cl59 {p : Nat} (h : p < 59) : (nI p).toNatClampNeg = p := nI_clamp (by omega)
section T30
variable {θ : (Nat → Value) × (Nat → Nat)} {n : Nat} {w : rW} {c : Nat} {r : rR} {Q : rQ}
theorem sX6_in {x l h : Int32} : sg θ (n + 1) 85 [.int x, .int l, .int h] w Q ↔ Q (some (.int (bI (decide (l ≤ x ∧ x ≤ h))))) w := by
  rw [nX6_in]
  simp only [eX6_in_0, eX6_in_1, eX6_in_2, eX6_in_5, eX6_in_6, eX6_in_7, eX6_in_10, eX6_in_11, eX6_in_14, eX6_in_15]
  by_cases h1 : x < l
  · have : ¬ l ≤ x := Int32.not_le.mpr h1
    simp [h1, this, bI, nb_0]
  · by_cases h2 : h < x
    · have : ¬ x ≤ h := Int32.not_le.mpr h2
      simp [h1, h2, this, bI, nb_0]
    · have g1 : l ≤ x := Int32.not_lt.mp h1
      have g2 : x ≤ h := Int32.not_lt.mp h2
      simp [h1, h2, g1, g2, bI, nb_1]
def heldI (x l h : Int32) : Int32 := if l ≤ x then (if x ≤ h then x else h) else l
theorem sX6_held {x l h : Int32} : sg θ (n + 1) 114 [.int x, .int l, .int h] w Q ↔ Q (some (.int (heldI x l h))) w := by
  rw [nX6_held]
  simp only [eX6_held_0, eX6_held_1, eX6_held_2, eX6_held_5, eX6_held_6, eX6_held_9, eX6_held_10, eX6_held_11, eX6_held_14, eX6_held_15, eX6_held_18, eX6_held_19, heldI]
  by_cases h1 : l ≤ x <;> by_cases h2 : x ≤ h <;> simp [h1, h2]
theorem sX6_its (ho : moOK w c) {i d : Nat} {x : Int32} (hx : x = nI d) (hi : i < 8) (hd : d < 7) : sg θ (n + 1) 95 [.ref c, .int (nI i), .int x] (rowSet w c r) Q ↔ Q (some (.int (its r i d))) (rowSet w c r) := by
  subst hx
  rw [nX6_its]
  have h59 : 3 + 7 * i + d < 59 := by omega
  simp only [eX6_its_0, eX6_its_1, eX6_its_4, eX6_its_5, eX6_its_7, eX6_its_8, eX6_its_9, eX6_its_10, eX6_its_11, eX6_its_12, eX6_its_13, mo_f ho, Option.elim_some, mo_n, mo_v, ix_eq, vp59 h59, cl59 h59, mRow_at h59, true_and, its]
theorem sX6_puts (ho : moOK w c) {i d : Nat} {x v : Int32} (hx : x = nI d) (hi : i < 8) (hd : d < 7) : sg θ (n + 1) 91 [.ref c, .int (nI i), .int x, .int v] (rowSet w c r) Q ↔ Q none (rowSet w c (upd r (3 + 7 * i + d) v)) := by
  subst hx
  rw [nX6_puts]
  have h59 : 3 + 7 * i + d < 59 := by omega
  simp only [eX6_puts_0, eX6_puts_1, eX6_puts_4, eX6_puts_5, eX6_puts_7, eX6_puts_8, eX6_puts_9, eX6_puts_10, eX6_puts_11, eX6_puts_12, eX6_puts_13, eX6_puts_14, mo_f ho, Option.elim_some, mo_w, ix_eq, vp59 h59, cl59 h59, mo_s h59, true_and]
theorem sX6_more (ho : moOK w c) {i d : Nat} {x : Int32} (hx : x = nI d) (hi : i < 8) (hd : d < 7) : sg θ (n + 2) 113 [.ref c, .int (nI i), .int x] (rowSet w c r) Q ↔ Q none (rowSet w c (upd r (3 + 7 * i + d) (heldI (its r i d + 1) 0 999))) := by
  rw [nX6_more]
  have h1 := fun n Q => sX6_its (θ := θ) (n := n) (r := r) (Q := Q) ho hx hi hd
  have h2 := fun n v Q => sX6_puts (θ := θ) (n := n) (r := r) (v := v) (Q := Q) ho hx hi hd
  simp only [eX6_more_0, eX6_more_1, eX6_more_2, eX6_more_3, eX6_more_4, eX6_more_5, eX6_more_6, eX6_more_9, eX6_more_10, eX6_more_11, eX6_more_12, eX6_more_15, eX6_more_18, eX6_more_21, mo_is ho, h1, h2, sX6_held, Option.toList_some, Option.toList_none, List.cons_append, List.nil_append, true_and]
theorem sX6_isThrough (ho : moOK w c) {i : Nat} (hi : i < 8) : sg θ (n + 2) 94 [.ref c, .int (nI i)] (rowSet w c r) Q ↔ Q (some (.int (bI (thru r i)))) (rowSet w c r) := by
  rw [nX6_isThrough]
  have h1 := fun n Q => sX6_its (θ := θ) (n := n) (r := r) (Q := Q) ho (show (1 : Int32) = nI 1 from rfl) hi (by decide)
  have h2 := fun n Q => sX6_its (θ := θ) (n := n) (r := r) (Q := Q) ho (show (2 : Int32) = nI 2 from rfl) hi (by decide)
  simp only [eX6_isThrough_0, eX6_isThrough_1, eX6_isThrough_2, eX6_isThrough_3, eX6_isThrough_6, eX6_isThrough_7, eX6_isThrough_8, eX6_isThrough_9, eX6_isThrough_12, eX6_isThrough_13, eX6_isThrough_16, eX6_isThrough_18, eX6_isThrough_21, eX6_isThrough_22, eX6_isThrough_25, eX6_isThrough_26, eX6_isThrough_29, eX6_isThrough_30, mo_is ho, h1, h2, Option.toList_some, List.cons_append, List.nil_append, true_and]
  by_cases h : its r i 2 = 1 <;> simp [h, bI, thru, nb_0, nb_1] <;> split <;> simp_all [nb_0, nb_1]
theorem sX6_sight (ho : moOK w c) {i : Nat} (hi : i < 8) : sg θ (n + 2) 96 [.ref c, .int (nI i)] (rowSet w c r) Q ↔ Q (some (.int (sightOf (its r i 0)))) (rowSet w c r) := by
  rw [nX6_sight]
  have h1 := fun n Q => sX6_its (θ := θ) (n := n) (r := r) (Q := Q) ho (show (0 : Int32) = nI 0 from rfl) hi (by decide)
  simp only [eX6_sight_0, eX6_sight_1, eX6_sight_2, eX6_sight_3, eX6_sight_6, eX6_sight_40, eX6_sight_42, eX6_sight_43, eX6_sight_45, eX6_sight_46, eX6_sight_47, eX6_sight_48, eX6_sight_50, eX6_sight_51, eX6_sight_53, mo_is ho, h1, Option.toList_some, List.cons_append, List.nil_append, true_and, sightOf]
  repeat' split
  all_goals simp_all
theorem neg_sub32 (x y : Int32) : -(x - y) = y - x := Int32.neg_sub
theorem sX6_offFrom (ho : moOK w c) {i j : Nat} (hi : i < 8) (hj : j < 8) : sg θ (n + 2) 99 [.ref c, .int (nI i), .int (nI j)] (rowSet w c r) Q ↔ Q (some (.int (dst r i j))) (rowSet w c r) := by
  rw [nX6_offFrom]
  have h1 := fun n i (hi : i < 8) Q => sX6_its (θ := θ) (n := n) (r := r) (Q := Q) ho (show (1 : Int32) = nI 1 from rfl) hi (by decide)
  have h2 := fun n Q => sX6_its (θ := θ) (n := n) (r := r) (Q := Q) ho (show (2 : Int32) = nI 2 from rfl) hi (by decide)
  have h4 := fun n Q => sX6_its (θ := θ) (n := n) (r := r) (Q := Q) ho (show (4 : Int32) = nI 4 from rfl) hi (by decide)
  simp only [eX6_offFrom_0, eX6_offFrom_1, eX6_offFrom_2, eX6_offFrom_3, eX6_offFrom_6, eX6_offFrom_7, eX6_offFrom_8, eX6_offFrom_9, eX6_offFrom_12, eX6_offFrom_13, eX6_offFrom_14, eX6_offFrom_15, eX6_offFrom_16, eX6_offFrom_17, eX6_offFrom_20, eX6_offFrom_21, eX6_offFrom_22, eX6_offFrom_23, eX6_offFrom_26, eX6_offFrom_29, eX6_offFrom_30, eX6_offFrom_33, eX6_offFrom_34, eX6_offFrom_35, mo_is ho, h1 _ i hi, h1 _ j hj, h2, h4, Option.toList_some, List.cons_append, List.nil_append, true_and, dst]
  by_cases h : its r i 2 = its r i 4 <;> simp [h, neg_sub32]
end T30
