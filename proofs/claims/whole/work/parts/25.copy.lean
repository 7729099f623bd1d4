section T25
variable {θ : (Nat → Value) × (Nat → Nat)} {n : Nat} {w : rW} {k b : Nat} {r : rR} {Q : rQ}
/-- one more, as the class adds it -/
def addR (r : rR) (m : Nat) (kd pl : Int32) : rR := upd (upd (upd (upd (upd (upd (upd (upd r (3 + 7 * m + 0) kd) (3 + 7 * m + 1) pl) (3 + 7 * m + 2) 1) (3 + 7 * m + 3) 2) (3 + 7 * m + 4) 0) (3 + 7 * m + 5) 0) (3 + 7 * m + 6) 0) 2 (nI (m + 1))
theorem upd2 {r : rR} {m d : Nat} {x : Int32} : upd r (3 + 7 * m + d) x 2 = r 2 := upd_ne (by omega)
theorem sX0_add {m : Nat} (hm : r 2 = nI m) (h8 : m < 8) {kd pl : Int32} : sg θ (n + 1) 2 [.ref k, .int kd, .int pl] (avSet w k r) Q ↔ Q (some (.int (nI m))) (avSet w k (addR r m kd pl)) := by
  rw [nX0_add]
  simp only [eX0_add_0, eX0_add_1, eX0_add_4, eX0_add_5, eX0_add_6, eX0_add_9, eX0_add_10, eX0_add_11, eX0_add_12, eX0_add_13, eX0_add_16, eX0_add_17, eX0_add_18, eX0_add_19, eX0_add_20, eX0_add_23, eX0_add_24, eX0_add_25, eX0_add_26, eX0_add_27, eX0_add_30, eX0_add_31, eX0_add_32, eX0_add_33, eX0_add_34, eX0_add_37, eX0_add_38, eX0_add_39, eX0_add_40, eX0_add_41, eX0_add_44, eX0_add_45, eX0_add_46, eX0_add_47, eX0_add_48, eX0_add_51, eX0_add_52, eX0_add_53, eX0_add_54, eX0_add_55, eX0_add_56, eX0_add_59, eX0_add_60, eX0_add_61, eX0_add_64, eX0_add_65, av_f0, av_f1, av_f2, av_f3, av_f4, av_f5, av_f6, av_f7, av_f8, av_f9, av_n0, av_n1, av_n2, av_n3, av_n4, av_n5, av_n6, av_w0, av_w1, av_w2, av_w3, av_w4, av_w5, av_w6, av_v0, av_v1, av_v2, av_v3, av_v4, av_v5, av_v6, av_s0, av_s1, av_s2, av_s3, av_s4, av_s5, av_s6, av_l0, av_l1, av_l2, av_l3, av_l4, av_l5, av_l6, av_p0, av_p1, av_p2, av_is, av_set, Option.elim_some, true_and, and_true, avRow_its, Option.toList_some, Option.toList_none, List.cons_append, List.nil_append, hm, vp8 h8, cl8 h8, h8, upd2, nI_1]
  rfl
/-- another avenue's cells -/
theorem av_comm {k2 : Nat} {r2 : rR} (h : k + 8 ≤ k2 ∨ k2 + 8 ≤ k) : avSet (avSet w k r) k2 r2 = avSet (avSet w k2 r2) k r := by
  refine Prod.ext (funext fun q => ?_) rfl
  by_cases h1 : k ≤ q ∧ q < k + 8
  · rw [av_off (w := avSet w k r) (by omega)]
    have : ∀ w' : rW, (avSet w' k r).1 q = (avSet w k r).1 q := by
      intro w'
      obtain ⟨d, rfl⟩ : ∃ d, q = k + d := ⟨q - k, by omega⟩
      have hd : d < 8 := by omega
      match d, hd with
      | 0, _ => rw [show k + 0 = k from rfl, av_at, av_at]
      | 1, _ => rw [av_at1, av_at1]
      | 2, _ => rw [av_at2, av_at2]
      | 3, _ => rw [av_at3, av_at3]
      | 4, _ => rw [av_at4, av_at4]
      | 5, _ => rw [av_at5, av_at5]
      | 6, _ => rw [av_at6, av_at6]
      | 7, _ => rw [av_at7, av_at7]
    exact (this (avSet w k2 r2)).symm
  · rw [av_off (w := avSet w k2 r2) (by omega)]
    by_cases h2 : k2 ≤ q ∧ q < k2 + 8
    · have : ∀ w' : rW, (avSet w' k2 r2).1 q = (avSet w k2 r2).1 q := by
        intro w'
        obtain ⟨d, rfl⟩ : ∃ d, q = k2 + d := ⟨q - k2, by omega⟩
        have hd : d < 8 := by omega
        match d, hd with
        | 0, _ => rw [show k2 + 0 = k2 from rfl, av_at, av_at]
        | 1, _ => rw [av_at1, av_at1]
        | 2, _ => rw [av_at2, av_at2]
        | 3, _ => rw [av_at3, av_at3]
        | 4, _ => rw [av_at4, av_at4]
        | 5, _ => rw [av_at5, av_at5]
        | 6, _ => rw [av_at6, av_at6]
        | 7, _ => rw [av_at7, av_at7]
      rw [this]
    · rw [av_off (w := avSet w k r) (by omega), av_off (by omega), av_off (by omega)]
def colR (r s : rR) (c : Nat) : rR := fun p => if 3 ≤ p ∧ (p - 3) % 7 = c then s p else r p
theorem col_row {r s : rR} {c c' : Nat} (hc : c < 7) (hc' : c' < 7) : avRow (colR r s c) c' = if c' = c then avRow s c else avRow r c' := by
  funext j
  have hm : (3 + 7 * j + c' - 3) % 7 = c' := by omega
  by_cases h : c' = c
  · subst h
    simp only [avRow, colR, hm, if_true]
    rw [if_pos (show 3 ≤ 3 + 7 * j + c' ∧ True from ⟨by omega, trivial⟩)]
  · simp only [avRow, colR, hm, h, and_false, if_false]
theorem col_lo {r s : rR} {c p : Nat} (hp : p < 3) : colR r s c p = r p := by
  unfold colR
  rw [if_neg (by omega)]
theorem av_col {r s : rR} {c : Nat} (hc : c < 7) : rU (avSet w k r) (k + 1 + c) (rIA 8 (avRow s c)) = avSet w k (colR r s c) := by
  refine Prod.ext (funext fun q => ?_) rfl
  simp only [rU, avSet, avObj, col_lo (show 0 < 3 by decide), col_lo (show 1 < 3 by decide), col_lo (show 2 < 3 by decide), col_row hc (show 0 < 7 by decide), col_row hc (show 1 < 7 by decide), col_row hc (show 2 < 7 by decide), col_row hc (show 3 < 7 by decide), col_row hc (show 4 < 7 by decide), col_row hc (show 5 < 7 by decide), col_row hc (show 6 < 7 by decide)]
  match c, hc with
  | 0, _ => by_cases h : q = k + 1 <;> simp [h]
  | 1, _ => by_cases h : q = k + 2 <;> simp [h]
  | 2, _ => by_cases h : q = k + 3 <;> simp [h]
  | 3, _ => by_cases h : q = k + 4 <;> simp [h]
  | 4, _ => by_cases h : q = k + 5 <;> simp [h]
  | 5, _ => by_cases h : q = k + 6 <;> simp [h]
  | 6, _ => by_cases h : q = k + 7 <;> simp [h]
def cpUp (r s : rR) (j : Nat) : rR := fun p => if p < 3 ∨ (p - 3) % 7 < j then s p else r p
theorem cpUp_succ (r s : rR) (j : Nat) : colR (cpUp r s j) s j = cpUp r s (j + 1) := by
  funext p
  unfold colR cpUp
  by_cases h3 : p < 3
  · rw [if_neg (by omega), if_pos (Or.inl h3), if_pos (Or.inl h3)]
  · by_cases hj : (p - 3) % 7 = j
    · rw [if_pos ⟨by omega, hj⟩, if_pos (Or.inr (by omega))]
    · rw [if_neg (by omega)]
      by_cases hl : (p - 3) % 7 < j
      · rw [if_pos (Or.inr hl), if_pos (Or.inr (by omega))]
      · rw [if_neg (by omega), if_neg (by omega)]
theorem cpUp_7 (r s : rR) : cpUp r s 7 = s := by
  funext p
  unfold cpUp
  by_cases h3 : p < 3
  · rw [if_pos (Or.inl h3)]
  · rw [if_pos (Or.inr (Nat.mod_lt _ (by decide)))]
theorem cpUp_0 (r s : rR) : upd (upd (upd r 0 (s 0)) 1 (s 1)) 2 (s 2) = cpUp r s 0 := by
  funext p
  unfold cpUp upd
  match p with
  | 0 => rfl
  | 1 => rfl
  | 2 => rfl
  | p + 3 => simp; omega
theorem cpy_row {r s : rR} {c : Nat} : va_cpy (avRow s c) (avRow r c) 0 0 8 = avRow s c := by
  funext q
  unfold va_cpy
  by_cases h : q < 8
  · rw [if_pos ⟨by omega, by omega⟩]
    congr 1
    omega
  · rw [if_neg (by omega)]
    simp [avRow, h]
theorem av_ac {c : Nat} (hc : c < 7) : (avSet w k r).1 (k + 1 + c) = some (rIA 8 (avRow r c)) := by
  match c, hc with
  | 0, _ => exact av_at1
  | 1, _ => exact av_at2
  | 2, _ => exact av_at3
  | 3, _ => exact av_at4
  | 4, _ => exact av_at5
  | 5, _ => exact av_at6
  | 6, _ => exact av_at7
theorem c80 : ((8 : Int32) < 0) = False := by decide
theorem c00 : ((0 : Int32) < 0) = False := by decide
theorem cl8' : (8 : Int32).toNatClampNeg = 8 := by decide
theorem cl0' : (0 : Int32).toNatClampNeg = 0 := by decide
theorem sX0_copyFrom {k2 : Nat} {s : rR} (h : k + 8 ≤ k2 ∨ k2 + 8 ≤ k) : sg θ (n + 2) 20 [.ref k, .ref k2] (avSet (avSet w k2 s) k r) Q ↔ Q none (avSet (avSet w k2 s) k s) := by
  rw [nX0_copyFrom]
  generalize ((avSet (avSet w k2 s) k r).2.1 + 0, (avSet (avSet w k2 s) k r).2.2 + 0) = lim
  have hsw : ∀ r, avSet (avSet w k2 s) k r = avSet (avSet w k r) k2 s := fun r => (av_comm (w := w) (r := s) (k := k2) (k2 := k) (r2 := r) (by omega))
  have f0 : ∀ r, rF (avSet (avSet w k2 s) k r) k2 0 0 = some (.int (s 0)) := fun r => by rw [hsw]; exact av_f0
  have f1 : ∀ r, rF (avSet (avSet w k2 s) k r) k2 0 1 = some (.int (s 1)) := fun r => by rw [hsw]; exact av_f1
  have f2 : ∀ r, rF (avSet (avSet w k2 s) k r) k2 0 2 = some (.int (s 2)) := fun r => by rw [hsw]; exact av_f2
  have is2 : ∀ r, rIs (avSet (avSet w k2 s) k r) k2 0 := fun r => by rw [hsw]; exact av_is
  have loop : ∀ d j, j + d = 7 → (Wp (xX0_copyFrom θ (n + 1) lim) Q (26, [some (.ref k), some (.ref k2), some (.int (nI j))], [], avSet (avSet w k2 s) k (cpUp r s j)) ↔ Q none (avSet (avSet w k2 s) k s)) := by
    intro d
    induction d with
    | zero =>
      intro j hj
      have hj : j = 7 := by omega
      subst hj
      rw [eX0_copyFrom_26]
      simp only [eX0_copyFrom_0, eX0_copyFrom_1, eX0_copyFrom_2, eX0_copyFrom_5, eX0_copyFrom_8, eX0_copyFrom_9, eX0_copyFrom_10, eX0_copyFrom_13, eX0_copyFrom_16, eX0_copyFrom_17, eX0_copyFrom_18, eX0_copyFrom_21, eX0_copyFrom_24, eX0_copyFrom_25, eX0_copyFrom_27, eX0_copyFrom_29, eX0_copyFrom_32, eX0_copyFrom_33, eX0_copyFrom_34, eX0_copyFrom_37, eX0_copyFrom_38, eX0_copyFrom_39, eX0_copyFrom_40, eX0_copyFrom_43, eX0_copyFrom_44, eX0_copyFrom_49, eX0_copyFrom_52, eX0_copyFrom_55, show ((6 : Int32) < nI 7) = True by decide, if_true, cpUp_7]
    | succ d ih =>
      intro j hj
      have hj7 : j < 7 := by omega
      rw [eX0_copyFrom_26]
      have ih := ih (j + 1) (by omega)
      rw [nI_succ] at ih
      have hn6 : ¬ (6 : Int32) < nI j := by
        rw [show (6 : Int32) = nI 6 from rfl]
        exact nI_nlt (by omega) (by decide)
      have r2 : ∀ n Q, sg θ (n + 1) 7 [.ref k2, .int (nI j)] (avSet (avSet w k2 s) k (cpUp r s j)) Q ↔ Q (some (.ref (k2 + 1 + j))) (avSet (avSet w k2 s) k (cpUp r s j)) := fun n Q => by
        rw [hsw]
        exact sX0_row hj7
      have a2 : (avSet (avSet w k2 s) k (cpUp r s j)).1 (k2 + 1 + j) = some (rIA 8 (avRow s j)) := by
        rw [hsw]
        exact av_ac hj7
      have hcp := fun lo => tt_cpI (Q := Q) (pc := 46) (lo := lo) (w := avSet (avSet w k2 s) k (cpUp r s j)) (n := 8) (dp := 0) (sp := 0) (a := k + 1 + j) (a0 := k2 + 1 + j) (r := []) (hxX0_copyFrom θ (n + 1) lim) dX0_copyFrom_46 (by decide +kernel : rCal.lookup (0, 47) = some (5, 0)) (Nat.le_add_left 1 n) (Nat.le_of_ble_eq_true rfl) a2 (av_ac hj7) (by decide) (by decide) (by decide) (by decide) (by decide)
      simp only [cl8', cl0', cpy_row, Nat.reduceAdd] at hcp
      have hcol : rU (avSet (avSet w k2 s) k (cpUp r s j)) (k + 1 + j) (Sum.inl (0, 8, avRow s j)) = avSet (avSet w k2 s) k (cpUp r s (j + 1)) := by
        rw [← cpUp_succ]
        exact av_col hj7
      rw [hcol] at hcp
      simp only [eX0_copyFrom_0, eX0_copyFrom_1, eX0_copyFrom_2, eX0_copyFrom_5, eX0_copyFrom_8, eX0_copyFrom_9, eX0_copyFrom_10, eX0_copyFrom_13, eX0_copyFrom_16, eX0_copyFrom_17, eX0_copyFrom_18, eX0_copyFrom_21, eX0_copyFrom_24, eX0_copyFrom_25, eX0_copyFrom_27, eX0_copyFrom_29, eX0_copyFrom_32, eX0_copyFrom_33, eX0_copyFrom_34, eX0_copyFrom_37, eX0_copyFrom_38, eX0_copyFrom_39, eX0_copyFrom_40, eX0_copyFrom_43, eX0_copyFrom_44, eX0_copyFrom_49, eX0_copyFrom_52, eX0_copyFrom_55, av_f0, av_f1, av_f2, av_f3, av_f4, av_f5, av_f6, av_f7, av_f8, av_f9, av_n0, av_n1, av_n2, av_n3, av_n4, av_n5, av_n6, av_w0, av_w1, av_w2, av_w3, av_w4, av_w5, av_w6, av_v0, av_v1, av_v2, av_v3, av_v4, av_v5, av_v6, av_s0, av_s1, av_s2, av_s3, av_s4, av_s5, av_s6, av_l0, av_l1, av_l2, av_l3, av_l4, av_l5, av_l6, av_p0, av_p1, av_p2, av_is, av_set, Option.elim_some, true_and, and_true, avRow_its, Option.toList_some, Option.toList_none, List.cons_append, List.nil_append, hn6, if_false, is2, r2, sX0_row hj7, hcp]
      exact ih
  simp only [eX0_copyFrom_0, eX0_copyFrom_1, eX0_copyFrom_2, eX0_copyFrom_5, eX0_copyFrom_8, eX0_copyFrom_9, eX0_copyFrom_10, eX0_copyFrom_13, eX0_copyFrom_16, eX0_copyFrom_17, eX0_copyFrom_18, eX0_copyFrom_21, eX0_copyFrom_24, eX0_copyFrom_25, eX0_copyFrom_27, eX0_copyFrom_29, eX0_copyFrom_32, eX0_copyFrom_33, eX0_copyFrom_34, eX0_copyFrom_37, eX0_copyFrom_38, eX0_copyFrom_39, eX0_copyFrom_40, eX0_copyFrom_43, eX0_copyFrom_44, eX0_copyFrom_49, eX0_copyFrom_52, eX0_copyFrom_55, av_f0, av_f1, av_f2, av_f3, av_f4, av_f5, av_f6, av_f7, av_f8, av_f9, av_n0, av_n1, av_n2, av_n3, av_n4, av_n5, av_n6, av_w0, av_w1, av_w2, av_w3, av_w4, av_w5, av_w6, av_v0, av_v1, av_v2, av_v3, av_v4, av_v5, av_v6, av_s0, av_s1, av_s2, av_s3, av_s4, av_s5, av_s6, av_l0, av_l1, av_l2, av_l3, av_l4, av_l5, av_l6, av_p0, av_p1, av_p2, av_is, av_set, Option.elim_some, true_and, and_true, avRow_its, Option.toList_some, Option.toList_none, List.cons_append, List.nil_append, f0, f1, f2, cpUp_0]
  exact loop 7 0 (by omega)
end T25
