section T34
variable {θ : (Nat → Value) × (Nat → Nat)} {n : Nat} {w : rW} {c : Nat} {r : rR} {Q : rQ}
theorem sX6_oneMinute (ho : moOK w c) {m : Nat} (hv : invR r m) : sg θ (n + 6) 109 [.ref c] (rowSet w c r) Q ↔ Q none (rowSet w c (minR m r)) := by
  have h8 := hv.1.2.1
  rw [nX6_oneMinute]
  generalize ((rowSet w c r).2.1 + 0, (rowSet w c r).2.2 + 0) = lim
  have loop : ∀ d j, j + d = m → (Wp (xX6_oneMinute θ (n + 5) lim) Q (2, [some (.ref c), some (.int (nI j))], [], rowSet w c (minUp m r j)) ↔ Q none (rowSet w c (minR m r))) := by
    intro d
    induction d with
    | zero =>
      intro j hj
      have hj : j = m := by omega
      subst hj
      have hvj := hv.minUp j (Nat.le_refl j)
      rw [eX6_oneMinute_2]
      simp only [eX6_oneMinute_0, eX6_oneMinute_1, eX6_oneMinute_3, eX6_oneMinute_4, eX6_oneMinute_7, eX6_oneMinute_8, eX6_oneMinute_9, eX6_oneMinute_12, eX6_oneMinute_13, eX6_oneMinute_14, eX6_oneMinute_17, eX6_oneMinute_20, eX6_oneMinute_21, eX6_oneMinute_22, eX6_oneMinute_25, eX6_oneMinute_28, eX6_oneMinute_31, eX6_oneMinute_32, eX6_oneMinute_35, eX6_oneMinute_36, eX6_oneMinute_37, eX6_oneMinute_38, eX6_oneMinute_39, eX6_oneMinute_40, eX6_oneMinute_41, mo_f ho, mo_n, mo_v, mo_w, Option.elim_some, vp2, cl2, mR2, vp0, cl0, mR0, true_and, hvj.1.1, nI_le (Nat.le_refl j) (show j < 2 ^ 31 by omega), if_true, minR, mo_s (show 0 < 59 by decide)]
    | succ d ih =>
      intro j hj
      have hlt : j < m := by omega
      have hvj := hv.minUp j (by omega)
      rw [eX6_oneMinute_2]
      have ih := ih (j + 1) (by omega)
      rw [nI_succ] at ih
      simp only [eX6_oneMinute_0, eX6_oneMinute_1, eX6_oneMinute_3, eX6_oneMinute_4, eX6_oneMinute_7, eX6_oneMinute_8, eX6_oneMinute_9, eX6_oneMinute_12, eX6_oneMinute_13, eX6_oneMinute_14, eX6_oneMinute_17, eX6_oneMinute_20, eX6_oneMinute_21, eX6_oneMinute_22, eX6_oneMinute_25, eX6_oneMinute_28, eX6_oneMinute_31, eX6_oneMinute_32, eX6_oneMinute_35, eX6_oneMinute_36, eX6_oneMinute_37, eX6_oneMinute_38, eX6_oneMinute_39, eX6_oneMinute_40, eX6_oneMinute_41, mo_f ho, mo_n, mo_v, mo_is ho, Option.elim_some, vp2, cl2, mR2, true_and, hvj.1.1, nI_ge hlt (show m < 2 ^ 31 by omega), if_false, sX6_isThrough ho (show j < 8 by omega), Option.toList_some, List.cons_append, List.nil_append]
      cases h : thru (minUp m r j) j with
      | true =>
        simp only [minUp, stepR, h, if_true] at ih
        simp only [bI_t, i10, if_false]
        exact ih
      | false =>
        have hw := fun n Q => sX6_walks (θ := θ) (n := n) (Q := Q) ho hvj hlt h
        simp only [minUp, stepR, h, Bool.false_eq_true, if_false] at ih
        simp only [bI_f, if_true, hw, eX6_oneMinute_0, eX6_oneMinute_1, eX6_oneMinute_3, eX6_oneMinute_4, eX6_oneMinute_7, eX6_oneMinute_8, eX6_oneMinute_9, eX6_oneMinute_12, eX6_oneMinute_13, eX6_oneMinute_14, eX6_oneMinute_17, eX6_oneMinute_20, eX6_oneMinute_21, eX6_oneMinute_22, eX6_oneMinute_25, eX6_oneMinute_28, eX6_oneMinute_31, eX6_oneMinute_32, eX6_oneMinute_35, eX6_oneMinute_36, eX6_oneMinute_37, eX6_oneMinute_38, eX6_oneMinute_39, eX6_oneMinute_40, eX6_oneMinute_41, mo_is ho, true_and, Option.toList_none, List.nil_append]
        exact ih
  simp only [eX6_oneMinute_0, eX6_oneMinute_1, eX6_oneMinute_3, eX6_oneMinute_4, eX6_oneMinute_7, eX6_oneMinute_8, eX6_oneMinute_9, eX6_oneMinute_12, eX6_oneMinute_13, eX6_oneMinute_14, eX6_oneMinute_17, eX6_oneMinute_20, eX6_oneMinute_21, eX6_oneMinute_22, eX6_oneMinute_25, eX6_oneMinute_28, eX6_oneMinute_31, eX6_oneMinute_32, eX6_oneMinute_35, eX6_oneMinute_36, eX6_oneMinute_37, eX6_oneMinute_38, eX6_oneMinute_39, eX6_oneMinute_40, eX6_oneMinute_41]
  exact loop m 0 (by omega)
theorem sX6_passes (ho : moOK w c) {m : Nat} (hv : invR r m) {p : Int32} : sg θ (n + 7) 108 [.ref c, .int p] (rowSet w c r) Q ↔ Q none (rowSet w c (minsR m p.toNatClampNeg r)) := by
  have hp := clamp_lt p
  rw [nX6_passes]
  generalize ((rowSet w c r).2.1 + 0, (rowSet w c r).2.2 + 0) = lim
  have loop : ∀ d q r, q + d = p.toNatClampNeg → invR r m → (Wp (xX6_passes θ (n + 6) lim) Q (2, [some (.ref c), some (.int p), some (.int (nI q))], [], rowSet w c r) ↔ Q none (rowSet w c (minsR m d r))) := by
    intro d
    induction d with
    | zero =>
      intro q r hq hv
      rw [eX6_passes_2]
      simp only [eX6_passes_0, eX6_passes_1, eX6_passes_3, eX6_passes_4, eX6_passes_7, eX6_passes_8, eX6_passes_11, eX6_passes_14, eX6_passes_17, ge_clamp (show q < 2 ^ 31 by omega), show p.toNatClampNeg ≤ q by omega, if_true, minsR]
    | succ d ih =>
      intro q r hq hv
      rw [eX6_passes_2]
      have hs := fun n Q => sX6_oneMinute (θ := θ) (n := n) (Q := Q) ho hv
      have ih := ih (q + 1) (minR m r) (by omega) hv.min
      rw [nI_succ] at ih
      simp only [eX6_passes_0, eX6_passes_1, eX6_passes_3, eX6_passes_4, eX6_passes_7, eX6_passes_8, eX6_passes_11, eX6_passes_14, eX6_passes_17, mo_is ho, true_and, ge_clamp (show q < 2 ^ 31 by omega), show ¬ p.toNatClampNeg ≤ q by omega, if_false, hs, minsR, Option.toList_none, List.nil_append]
      exact ih
  simp only [eX6_passes_0, eX6_passes_1, eX6_passes_3, eX6_passes_4, eX6_passes_7, eX6_passes_8, eX6_passes_11, eX6_passes_14, eX6_passes_17]
  exact loop _ 0 r (by omega) hv
theorem sX6_throughSet (ho : moOK w c) {m : Nat} (hm : r 2 = nI m) (h8 : m ≤ 8) : sg θ (n + 3) 117 [.ref c] (rowSet w c r) Q ↔ Q (some (.int (thruUp r m))) (rowSet w c r) := by
  rw [nX6_throughSet]
  generalize ((rowSet w c r).2.1 + 0, (rowSet w c r).2.2 + 0) = lim
  have loop : ∀ d j, j + d = m → (Wp (xX6_throughSet θ (n + 2) lim) Q (4, [some (.ref c), some (.int (thruUp r j)), some (.int (nI j))], [], rowSet w c r) ↔ Q (some (.int (thruUp r m))) (rowSet w c r)) := by
    intro d
    induction d with
    | zero =>
      intro j hj
      have hj : j = m := by omega
      subst hj
      rw [eX6_throughSet_4]
      simp only [eX6_throughSet_0, eX6_throughSet_1, eX6_throughSet_2, eX6_throughSet_3, eX6_throughSet_5, eX6_throughSet_6, eX6_throughSet_9, eX6_throughSet_10, eX6_throughSet_11, eX6_throughSet_14, eX6_throughSet_15, eX6_throughSet_16, eX6_throughSet_17, eX6_throughSet_20, eX6_throughSet_23, eX6_throughSet_24, eX6_throughSet_25, eX6_throughSet_26, eX6_throughSet_29, eX6_throughSet_30, eX6_throughSet_31, eX6_throughSet_32, eX6_throughSet_35, eX6_throughSet_38, eX6_throughSet_39, mo_f ho, mo_n, mo_v, Option.elim_some, vp2, cl2, mR2, true_and, hm, nI_le (Nat.le_refl j) (show j < 2 ^ 31 by omega), if_true]
    | succ d ih =>
      intro j hj
      have hlt : j < m := by omega
      rw [eX6_throughSet_4]
      have ih := ih (j + 1) (by omega)
      rw [nI_succ] at ih
      simp only [thruUp, bitI] at ih
      simp only [eX6_throughSet_0, eX6_throughSet_1, eX6_throughSet_2, eX6_throughSet_3, eX6_throughSet_5, eX6_throughSet_6, eX6_throughSet_9, eX6_throughSet_10, eX6_throughSet_11, eX6_throughSet_14, eX6_throughSet_15, eX6_throughSet_16, eX6_throughSet_17, eX6_throughSet_20, eX6_throughSet_23, eX6_throughSet_24, eX6_throughSet_25, eX6_throughSet_26, eX6_throughSet_29, eX6_throughSet_30, eX6_throughSet_31, eX6_throughSet_32, eX6_throughSet_35, eX6_throughSet_38, eX6_throughSet_39, mo_f ho, mo_n, mo_v, mo_is ho, Option.elim_some, vp2, cl2, mR2, true_and, hm, nI_ge hlt (show m < 2 ^ 31 by omega), if_false, sX6_isThrough ho (show j < 8 by omega), Option.toList_some, List.cons_append, List.nil_append]
      cases ht : thru r j <;> simp only [ht, bI_t, bI_f, if_true, if_false, i10, Bool.false_eq_true, Int32.or_zero] at ih ⊢ <;> exact ih
  simp only [eX6_throughSet_0, eX6_throughSet_1, eX6_throughSet_2, eX6_throughSet_3, eX6_throughSet_5, eX6_throughSet_6, eX6_throughSet_9, eX6_throughSet_10, eX6_throughSet_11, eX6_throughSet_14, eX6_throughSet_15, eX6_throughSet_16, eX6_throughSet_17, eX6_throughSet_20, eX6_throughSet_23, eX6_throughSet_24, eX6_throughSet_25, eX6_throughSet_26, eX6_throughSet_29, eX6_throughSet_30, eX6_throughSet_31, eX6_throughSet_32, eX6_throughSet_35, eX6_throughSet_38, eX6_throughSet_39]
  exact loop m 0 (by omega)
theorem sX6_sumOf (ho : moOK w c) {m d : Nat} {x : Int32} (hx : x = nI d) (hm : r 2 = nI m) (h8 : m ≤ 8) (hd : d < 7) : sg θ (n + 2) 119 [.ref c, .int x] (rowSet w c r) Q ↔ Q (some (.int (sumUp r d m))) (rowSet w c r) := by
  rw [nX6_sumOf]
  generalize ((rowSet w c r).2.1 + 0, (rowSet w c r).2.2 + 0) = lim
  have loop : ∀ e j, j + e = m → (Wp (xX6_sumOf θ (n + 1) lim) Q (4, [some (.ref c), some (.int x), some (.int (sumUp r d j)), some (.int (nI j))], [], rowSet w c r) ↔ Q (some (.int (sumUp r d m))) (rowSet w c r)) := by
    intro e
    induction e with
    | zero =>
      intro j hj
      have hj : j = m := by omega
      subst hj
      rw [eX6_sumOf_4]
      simp only [eX6_sumOf_0, eX6_sumOf_1, eX6_sumOf_2, eX6_sumOf_3, eX6_sumOf_5, eX6_sumOf_6, eX6_sumOf_9, eX6_sumOf_10, eX6_sumOf_11, eX6_sumOf_14, eX6_sumOf_15, eX6_sumOf_16, eX6_sumOf_17, eX6_sumOf_18, eX6_sumOf_21, eX6_sumOf_22, eX6_sumOf_23, eX6_sumOf_26, eX6_sumOf_29, eX6_sumOf_30, mo_f ho, mo_n, mo_v, Option.elim_some, vp2, cl2, mR2, true_and, hm, nI_le (Nat.le_refl j) (show j < 2 ^ 31 by omega), if_true]
    | succ e ih =>
      intro j hj
      have hlt : j < m := by omega
      rw [eX6_sumOf_4]
      have ih := ih (j + 1) (by omega)
      rw [nI_succ] at ih
      have hi := fun n Q => sX6_its (θ := θ) (n := n) (r := r) (Q := Q) ho hx (show j < 8 by omega) hd
      simp only [eX6_sumOf_0, eX6_sumOf_1, eX6_sumOf_2, eX6_sumOf_3, eX6_sumOf_5, eX6_sumOf_6, eX6_sumOf_9, eX6_sumOf_10, eX6_sumOf_11, eX6_sumOf_14, eX6_sumOf_15, eX6_sumOf_16, eX6_sumOf_17, eX6_sumOf_18, eX6_sumOf_21, eX6_sumOf_22, eX6_sumOf_23, eX6_sumOf_26, eX6_sumOf_29, eX6_sumOf_30, mo_f ho, mo_n, mo_v, mo_is ho, Option.elim_some, vp2, cl2, mR2, true_and, hm, nI_ge hlt (show m < 2 ^ 31 by omega), if_false, hi, Option.toList_some, List.cons_append, List.nil_append]
      exact ih
  simp only [eX6_sumOf_0, eX6_sumOf_1, eX6_sumOf_2, eX6_sumOf_3, eX6_sumOf_5, eX6_sumOf_6, eX6_sumOf_9, eX6_sumOf_10, eX6_sumOf_11, eX6_sumOf_14, eX6_sumOf_15, eX6_sumOf_16, eX6_sumOf_17, eX6_sumOf_18, eX6_sumOf_21, eX6_sumOf_22, eX6_sumOf_23, eX6_sumOf_26, eX6_sumOf_29, eX6_sumOf_30]
  exact loop m 0 (by omega)
end T34
