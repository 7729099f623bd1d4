theorem held_up : ∀ p : Nat, p < 100 → heldI (nI p + 5 * 1) 0 99 = iMin (nI p + 5) 99 := by decide +kernel
theorem held_dn : ∀ p : Nat, p < 100 → heldI (nI p + 5 * (-1)) 0 99 = iMax (nI p - 5) 0 := by decide +kernel
theorem lov_max : ∀ p : Nat, p < 10 → (if nI p ≤ 0 then (0 : Int32) else nI p - 1) = iMax 0 (nI p - 1) ∧ (if nI p / 2 ≤ 0 then (0 : Int32) else nI p / 2 - 1) = iMax 0 (nI p / 2 - 1) := by decide +kernel
theorem dst_self (r : rR) (i : Nat) : seesP r i i = false := by
  unfold seesP dst
  have : ¬ (0 : Int32) < 0 := by decide
  simp [Int32.sub_self]
theorem or_ne : ∀ j : Nat, j < 8 → bitI j ≠ 0 := by decide +kernel
theorem or_zero {x y : Int32} (h : x ||| y = 0) : x = 0 ∧ y = 0 := by
  have h1 : x.toBitVec ||| y.toBitVec = 0#32 := by
    have := congrArg Int32.toBitVec h
    simpa using this
  refine ⟨Int32.toBitVec_inj.mp ?_, Int32.toBitVec_inj.mp ?_⟩
  · have : x.toBitVec = 0#32 := by
      ext i hi
      have := congrArg (fun b => b.getLsbD i) h1
      simp at this
      simp_all
    simpa using this
  · have : y.toBitVec = 0#32 := by
      ext i hi
      have := congrArg (fun b => b.getLsbD i) h1
      simp at this
      simp_all
    simpa using this
theorem seen_led (r : rR) (i : Nat) : ∀ m, m ≤ 8 → ((seenUp r i m = 0) = (ledB r i m = false))
  | 0, _ => by simp [seenUp, ledB]
  | m + 1, hm => by
    have ih := seen_led r i m (by omega)
    cases hs : seesP r i m with
    | false => simp only [seenUp, ledB, hs, Bool.or_false, Bool.false_eq_true, if_false]; exact ih
    | true =>
      simp only [seenUp, ledB, hs, Bool.or_true, if_true, Bool.true_eq_false]
      exact eq_false (fun h => or_ne m (by omega) (or_zero h).2)
section T32
variable {θ : (Nat → Value) × (Nat → Nat)} {n : Nat} {w : rW} {c : Nat} {r : rR} {Q : rQ}
theorem vp2 : vp_in 2 59 := by unfold vp_in; decide
theorem cl2 : (2 : Int32).toNatClampNeg = 2 := by decide
theorem vp1 : vp_in 1 59 := by unfold vp_in; decide
theorem cl1 : (1 : Int32).toNatClampNeg = 1 := by decide
theorem vp0 : vp_in 0 59 := by unfold vp_in; decide
theorem cl0 : (0 : Int32).toNatClampNeg = 0 := by decide
theorem mR2 : mRow r 2 = r 2 := mRow_at (by decide)
theorem mR1 : mRow r 1 = r 1 := mRow_at (by decide)
theorem mR0 : mRow r 0 = r 0 := mRow_at (by decide)
theorem sX6_seen (ho : moOK w c) {m i : Nat} (hk : kOK r m) (hi : i < m) : sg θ (n + 3) 98 [.ref c, .int (nI i)] (rowSet w c r) Q ↔ Q (some (.int (seenUp r i m))) (rowSet w c r) := by
  obtain ⟨hm, h8, hkd⟩ := hk
  rw [nX6_seen]
  generalize ((rowSet w c r).2.1 + 0, (rowSet w c r).2.2 + 0) = lim
  have loop : ∀ d j, j + d = m → (Wp (xX6_seen θ (n + 2) lim) Q (4, [some (.ref c), some (.int (nI i)), some (.int (seenUp r i j)), some (.int (nI j))], [], rowSet w c r) ↔ Q (some (.int (seenUp r i m))) (rowSet w c r)) := by
    intro d
    induction d with
    | zero =>
      intro j hj
      have hj : j = m := by omega
      subst hj
      rw [eX6_seen_4]
      simp only [eX6_seen_0, eX6_seen_1, eX6_seen_2, eX6_seen_3, eX6_seen_5, eX6_seen_6, eX6_seen_9, eX6_seen_10, eX6_seen_11, eX6_seen_14, eX6_seen_15, eX6_seen_16, eX6_seen_17, eX6_seen_20, eX6_seen_21, eX6_seen_22, eX6_seen_25, eX6_seen_28, eX6_seen_29, eX6_seen_30, eX6_seen_31, eX6_seen_34, eX6_seen_35, eX6_seen_36, eX6_seen_37, eX6_seen_40, eX6_seen_43, eX6_seen_46, eX6_seen_47, eX6_seen_48, eX6_seen_49, eX6_seen_52, eX6_seen_53, eX6_seen_54, eX6_seen_55, eX6_seen_58, eX6_seen_61, eX6_seen_62, mo_f ho, mo_n, mo_v, Option.elim_some, vp2, cl2, mR2, true_and, hm, nI_le (Nat.le_refl j) (show j < 2 ^ 31 by omega), if_true]
    | succ d ih =>
      intro j hj
      have hlt : j < m := by omega
      rw [eX6_seen_4]
      have ih := ih (j + 1) (by omega)
      rw [nI_succ] at ih
      simp only [seenUp, bitI] at ih
      simp only [eX6_seen_0, eX6_seen_1, eX6_seen_2, eX6_seen_3, eX6_seen_5, eX6_seen_6, eX6_seen_9, eX6_seen_10, eX6_seen_11, eX6_seen_14, eX6_seen_15, eX6_seen_16, eX6_seen_17, eX6_seen_20, eX6_seen_21, eX6_seen_22, eX6_seen_25, eX6_seen_28, eX6_seen_29, eX6_seen_30, eX6_seen_31, eX6_seen_34, eX6_seen_35, eX6_seen_36, eX6_seen_37, eX6_seen_40, eX6_seen_43, eX6_seen_46, eX6_seen_47, eX6_seen_48, eX6_seen_49, eX6_seen_52, eX6_seen_53, eX6_seen_54, eX6_seen_55, eX6_seen_58, eX6_seen_61, eX6_seen_62, mo_f ho, mo_n, mo_v, mo_is ho, Option.elim_some, vp2, cl2, mR2, true_and, hm, nI_ge hlt (show m < 2 ^ 31 by omega), if_false, nI_eq (show j < 2 ^ 31 by omega) (show i < 2 ^ 31 by omega), sX6_isThrough ho (show j < 8 by omega), sX6_sight ho (show i < 8 by omega), sX6_offFrom ho (show i < 8 by omega) (show j < 8 by omega), sX6_in, Option.toList_some, List.cons_append, List.nil_append]
      by_cases h1 : j = i
      · subst h1
        simp only [dst_self, Bool.false_eq_true, if_false] at ih
        simp only [if_true, Int32.or_zero]
        exact ih
      · simp only [h1, if_false]
        cases h3 : thru r j with
        | true =>
          have : seesP r i j = false := by simp [seesP, h3]
          simp only [this, Bool.false_eq_true, if_false] at ih
          simp only [bI_t, i10, if_false, Int32.or_zero]
          exact ih
        | false =>
          have hs : seesP r i j = decide (1 ≤ dst r i j ∧ dst r i j ≤ sightOf (its r i 0)) := by
            have hle : 0 < dst r i j ↔ 1 ≤ dst r i j := by
              rw [Int32.lt_iff_toInt_lt, Int32.le_iff_toInt_le]
              have e0 : (0 : Int32).toInt = 0 := by decide
              have e1 : (1 : Int32).toInt = 1 := by decide
              omega
            simp [seesP, h3, hle]
          simp only [bI_f, if_true, ← hs]
          cases h4 : seesP r i j with
          | true =>
            simp only [h4, if_true] at ih
            simp only [bI_t, i10, if_false]
            exact ih
          | false =>
            simp only [h4, Bool.false_eq_true, if_false] at ih
            simp only [bI_f, if_true, Int32.or_zero]
            exact ih
  simp only [eX6_seen_0, eX6_seen_1, eX6_seen_2, eX6_seen_3, eX6_seen_5, eX6_seen_6, eX6_seen_9, eX6_seen_10, eX6_seen_11, eX6_seen_14, eX6_seen_15, eX6_seen_16, eX6_seen_17, eX6_seen_20, eX6_seen_21, eX6_seen_22, eX6_seen_25, eX6_seen_28, eX6_seen_29, eX6_seen_30, eX6_seen_31, eX6_seen_34, eX6_seen_35, eX6_seen_36, eX6_seen_37, eX6_seen_40, eX6_seen_43, eX6_seen_46, eX6_seen_47, eX6_seen_48, eX6_seen_49, eX6_seen_52, eX6_seen_53, eX6_seen_54, eX6_seen_55, eX6_seen_58, eX6_seen_61, eX6_seen_62]
  exact loop m 0 (by omega)
theorem sX6_goes (ho : moOK w c) {m i : Nat} (hv : invR r m) (hi : i < m) : sg θ (n + 4) 97 [.ref c, .int (nI i)] (rowSet w c r) Q ↔ Q (some (.int (goesAt r i m))) (rowSet w c r) := by
  have h8 := hv.1.2.1
  obtain ⟨p, hp, e⟩ := hv.at hi (show 3 < 7 by decide)
  obtain ⟨l1, l2⟩ := lov_max p (by omega)
  rw [nX6_goes]
  have h0 := fun n Q => sX6_its (θ := θ) (n := n) (r := r) (Q := Q) ho (show (0 : Int32) = nI 0 from rfl) (show i < 8 by omega) (by decide)
  have h3 := fun n Q => sX6_its (θ := θ) (n := n) (r := r) (Q := Q) ho (show (3 : Int32) = nI 3 from rfl) (show i < 8 by omega) (by decide)
  have h4 := fun n Q => sX6_its (θ := θ) (n := n) (r := r) (Q := Q) ho (show (4 : Int32) = nI 4 from rfl) (show i < 8 by omega) (by decide)
  have hs := fun n Q => sX6_seen (θ := θ) (n := n) (Q := Q) ho hv.1 hi
  simp only [eX6_goes_0, eX6_goes_1, eX6_goes_2, eX6_goes_3, eX6_goes_6, eX6_goes_7, eX6_goes_8, eX6_goes_9, eX6_goes_12, eX6_goes_15, eX6_goes_16, eX6_goes_19, eX6_goes_20, eX6_goes_21, eX6_goes_22, eX6_goes_25, eX6_goes_26, eX6_goes_27, eX6_goes_28, eX6_goes_31, eX6_goes_32, eX6_goes_34, eX6_goes_35, eX6_goes_38, eX6_goes_39, eX6_goes_40, eX6_goes_41, eX6_goes_44, eX6_goes_45, eX6_goes_47, eX6_goes_48, eX6_goes_51, eX6_goes_52, eX6_goes_53, eX6_goes_54, eX6_goes_55, eX6_goes_56, eX6_goes_59, eX6_goes_60, eX6_goes_63, eX6_goes_65, eX6_goes_67, eX6_goes_68, eX6_goes_69, eX6_goes_70, eX6_goes_73, eX6_goes_108, eX6_goes_110, eX6_goes_111, eX6_goes_113, eX6_goes_116, eX6_goes_118, eX6_goes_119, eX6_goes_120, eX6_goes_123, eX6_goes_124, eX6_goes_125, eX6_goes_127, eX6_goes_128, eX6_goes_130, eX6_goes_131, eX6_goes_132, eX6_goes_133, eX6_goes_136, eX6_goes_137, eX6_goes_138, eX6_goes_139, eX6_goes_142, eX6_goes_144, eX6_goes_147, eX6_goes_148, eX6_goes_150, eX6_goes_151, eX6_goes_152, eX6_goes_154, mo_f ho, mo_n, mo_v, mo_is ho, Option.elim_some, vp0, cl0, mR0, true_and, h0, h3, h4, hs, seen_led r i m h8, Option.toList_some, List.cons_append, List.nil_append, goesAt, goesOf, e]
  cases hl : ledB r i m <;> by_cases hm : r 0 - r 0 / 4 * 4 = 3 <;> simp only [if_true, if_false, Bool.true_eq_false, Bool.false_eq_true, i10, i20, i40, not_false_iff, true_and, hm, ← l1, ← l2] <;> (repeat' split) <;> first | rfl | (simp_all; done)
theorem sX6_isTurned (ho : moOK w c) {i : Nat} (hi : i < 8) : sg θ (n + 2) 115 [.ref c, .int (nI i)] (rowSet w c r) Q ↔ Q (some (.int (bI (turnsOf (its r i 0) (its r i 3))))) (rowSet w c r) := by
  rw [nX6_isTurned]
  have h0 := fun n Q => sX6_its (θ := θ) (n := n) (r := r) (Q := Q) ho (show (0 : Int32) = nI 0 from rfl) hi (by decide)
  have h3 := fun n Q => sX6_its (θ := θ) (n := n) (r := r) (Q := Q) ho (show (3 : Int32) = nI 3 from rfl) hi (by decide)
  simp only [eX6_isTurned_0, eX6_isTurned_1, eX6_isTurned_2, eX6_isTurned_3, eX6_isTurned_6, eX6_isTurned_7, eX6_isTurned_8, eX6_isTurned_9, eX6_isTurned_12, eX6_isTurned_13, eX6_isTurned_14, eX6_isTurned_15, eX6_isTurned_18, eX6_isTurned_19, eX6_isTurned_22, eX6_isTurned_23, eX6_isTurned_26, eX6_isTurned_27, eX6_isTurned_30, eX6_isTurned_31, eX6_isTurned_32, eX6_isTurned_35, eX6_isTurned_36, eX6_isTurned_39, eX6_isTurned_40, mo_is ho, h0, h3, Option.toList_some, List.cons_append, List.nil_append, true_and]
  generalize its r i 0 = kd
  generalize its r i 3 = p
  by_cases h4 : kd = 4
  · subst h4
    by_cases h : p ≤ 3
    · have : ¬ 3 < p := Int32.not_lt.mpr h
      simp [h, this, turnsOf, bI, nb_0]
    · have : 3 < p := Int32.not_le.mp h
      simp [h, this, turnsOf, bI, nb_1]
  · by_cases h2 : kd = 2
    · subst h2
      simp [turnsOf, bI, nb_0]
    · simp [h4, h2, turnsOf, bI, nb_1]
end T32
