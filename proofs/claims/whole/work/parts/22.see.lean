def goesOf (kd p : Int32) (L : Bool) (rd mi : Int32) : Int32 :=
  if kd = 1 then (if L then p / 2 else p) else if kd = 2 then (if mi - mi / 4 * 4 = 3 then 0 else if L then p + 1 else p) else if kd = 3 then (if L then p + 1 else 2 * p) else if kd = 4 then iMax 0 ((if L then p / 2 else p) - 1) else if kd = 5 then (if mi - mi / 4 * 4 = 3 then 0 else if L then p + 1 else p) + rd else (if L then p + 1 else p)
def turnsOf (kd p : Int32) : Bool := decide (¬ kd = 2 ∧ (kd = 4 → 3 < p))
def dst (r : rR) (i j : Nat) : Int32 := if its r i 2 = its r i 4 then its r j 1 - its r i 1 else its r i 1 - its r j 1
def seesP (r : rR) (i j : Nat) : Bool := decide (0 < dst r i j ∧ dst r i j ≤ sightOf (its r i 0)) && !thru r j
section T22
variable {θ : (Nat → Value) × (Nat → Nat)} {n : Nat} {w : rW} {k b : Nat} {r : rR} {Q : rQ}
theorem sX1_goes {kd p rd mi : Int32} {L : Bool} : sg θ (n + 2) 166 [.int kd, .int p, .int (bI L), .int rd, .int mi] w Q ↔ Q (some (.int (goesOf kd p L rd mi))) w := by
  rw [nX1_goes]
  cases L <;> by_cases hm : mi - mi / 4 * 4 = 3 <;> simp only [eX1_goes_0, eX1_goes_1, eX1_goes_4, eX1_goes_5, eX1_goes_6, eX1_goes_7, eX1_goes_10, eX1_goes_11, eX1_goes_13, eX1_goes_14, eX1_goes_17, eX1_goes_18, eX1_goes_19, eX1_goes_20, eX1_goes_23, eX1_goes_24, eX1_goes_26, eX1_goes_28, eX1_goes_29, eX1_goes_30, eX1_goes_31, eX1_goes_34, eX1_goes_35, eX1_goes_38, eX1_goes_40, eX1_goes_42, eX1_goes_43, eX1_goes_76, eX1_goes_78, eX1_goes_79, eX1_goes_81, eX1_goes_82, eX1_goes_83, eX1_goes_86, eX1_goes_88, eX1_goes_91, eX1_goes_92, eX1_goes_94, eX1_goes_95, eX1_goes_96, eX1_goes_97, eX1_goes_99, eX1_goes_100, eX1_goes_101, eX1_goes_104, eX1_goes_105, eX1_goes_107, eX1_goes_108, eX1_goes_109, eX1_goes_110, eX1_goes_112, goesOf, bI_t, bI_f, hm, if_true, if_false, i10, i20, i40, not_false_iff, true_and, Bool.false_eq_true] <;> (repeat' split) <;> first | rfl | simp_all
theorem sX1_turns {kd p : Int32} : sg θ (n + 1) 169 [.int kd, .int p] w Q ↔ Q (some (.int (bI (turnsOf kd p)))) w := by
  rw [nX1_turns]
  by_cases h2 : kd = 2
  · subst h2
    simp [eX1_turns_0, eX1_turns_1, eX1_turns_28, eX1_turns_29, eX1_turns_30, eX1_turns_31, eX1_turns_32, eX1_turns_35, eX1_turns_36, eX1_turns_39, eX1_turns_40, eX1_turns_41, eX1_turns_42, turnsOf, bI, nb_0]
  · by_cases h4 : kd = 4
    · subst h4
      by_cases h3 : p ≤ 3
      · have : ¬ 3 < p := Int32.not_lt.mpr h3
        simp [eX1_turns_0, eX1_turns_1, eX1_turns_28, eX1_turns_29, eX1_turns_30, eX1_turns_31, eX1_turns_32, eX1_turns_35, eX1_turns_36, eX1_turns_39, eX1_turns_40, eX1_turns_41, eX1_turns_42, turnsOf, bI, nb_0, h3, this]
      · have : 3 < p := Int32.not_le.mp h3
        simp [eX1_turns_0, eX1_turns_1, eX1_turns_28, eX1_turns_29, eX1_turns_30, eX1_turns_31, eX1_turns_32, eX1_turns_35, eX1_turns_36, eX1_turns_39, eX1_turns_40, eX1_turns_41, eX1_turns_42, turnsOf, bI, nb_1, h3, this]
    · simp [eX1_turns_0, eX1_turns_1, eX1_turns_28, eX1_turns_29, eX1_turns_30, eX1_turns_31, eX1_turns_32, eX1_turns_35, eX1_turns_36, eX1_turns_39, eX1_turns_40, eX1_turns_41, eX1_turns_42, turnsOf, bI, nb_1, h2, h4]
theorem sX0_distanceSeen (hx : exOK θ w b) (hb : b ≤ k) {i j kd : Nat} (hi : i < 8) (hj : j < 8) (hkd : kd < 6) (hk : its r i 0 = nI kd) : sg θ (n + 2) 6 [.ref k, .int (nI i), .int (nI j)] (avSet w k r) Q ↔ Q (some (.int (if seesP r i j then dst r i j else 0))) (avSet w k r) := by
  rw [nX0_distanceSeen]
  have hs := fun n Q => sX1_sight (θ := θ) (n := n) (Q := Q) (hx.av (r := r) hb) hkd
  by_cases h1 : its r i 2 = its r i 4 <;> cases h3 : thru r j <;> simp only [eX0_distanceSeen_0, eX0_distanceSeen_1, eX0_distanceSeen_4, eX0_distanceSeen_5, eX0_distanceSeen_6, eX0_distanceSeen_7, eX0_distanceSeen_10, eX0_distanceSeen_11, eX0_distanceSeen_12, eX0_distanceSeen_15, eX0_distanceSeen_16, eX0_distanceSeen_19, eX0_distanceSeen_20, eX0_distanceSeen_21, eX0_distanceSeen_22, eX0_distanceSeen_25, eX0_distanceSeen_26, eX0_distanceSeen_29, eX0_distanceSeen_30, eX0_distanceSeen_31, eX0_distanceSeen_32, eX0_distanceSeen_35, eX0_distanceSeen_36, eX0_distanceSeen_37, eX0_distanceSeen_38, eX0_distanceSeen_41, eX0_distanceSeen_42, eX0_distanceSeen_45, eX0_distanceSeen_46, eX0_distanceSeen_47, eX0_distanceSeen_48, eX0_distanceSeen_51, eX0_distanceSeen_52, eX0_distanceSeen_53, eX0_distanceSeen_54, eX0_distanceSeen_56, eX0_distanceSeen_58, eX0_distanceSeen_61, eX0_distanceSeen_63, eX0_distanceSeen_64, eX0_distanceSeen_67, eX0_distanceSeen_68, eX0_distanceSeen_69, eX0_distanceSeen_72, eX0_distanceSeen_75, eX0_distanceSeen_76, eX0_distanceSeen_77, eX0_distanceSeen_80, eX0_distanceSeen_83, eX0_distanceSeen_84, eX0_distanceSeen_87, eX0_distanceSeen_88, eX0_distanceSeen_90, eX0_distanceSeen_92, eX0_distanceSeen_95, eX0_distanceSeen_97, eX0_distanceSeen_100, eX0_distanceSeen_101, av_f0, av_f1, av_f2, av_f3, av_f4, av_f5, av_f6, av_f7, av_f8, av_f9, av_n0, av_n1, av_n2, av_n3, av_n4, av_n5, av_n6, av_w0, av_w1, av_w2, av_w3, av_w4, av_w5, av_w6, av_v0, av_v1, av_v2, av_v3, av_v4, av_v5, av_v6, av_s0, av_s1, av_s2, av_s3, av_s4, av_s5, av_s6, av_l0, av_l1, av_l2, av_l3, av_l4, av_l5, av_l6, av_p0, av_p1, av_p2, av_is, av_set, Option.elim_some, true_and, and_true, avRow_its, Option.toList_some, Option.toList_none, List.cons_append, List.nil_append, vp8 hi, vp8 hj, cl8 hi, hi, cl8 hj, hj, hk, hs, sX0_isThrough hj, seesP, dst, h1, h3, bI_t, bI_f, if_true, if_false, i10, Bool.not_true, Bool.not_false, Bool.and_false, Bool.and_true, decide_eq_true_eq, Bool.false_eq_true] <;> (repeat' split) <;> first | rfl | (simp_all; done) | (exfalso; simp only [Int32.lt_iff_toInt_lt, Int32.le_iff_toInt_le] at *; omega)
theorem nlt_of {a b : Nat} (h : a ≤ b) (hb : b < 2 ^ 31) : nI a ≤ nI b := nI_le h hb
/-- the set of those that one sees, among the first j -/
def bitI (j : Nat) : Int32 := 1 <<< (nI j &&& 31)
def seenUp (r : rR) (i : Nat) : Nat → Int32
  | 0 => 0
  | j + 1 => if seesP r i j then seenUp r i j ||| bitI j else seenUp r i j
def thruUp (r : rR) : Nat → Int32
  | 0 => 0
  | j + 1 => if thru r j then thruUp r j ||| bitI j else thruUp r j
def sumUp (r : rR) (c : Nat) : Nat → Int32
  | 0 => 0
  | j + 1 => sumUp r c j + its r j c
/-- the nearest one that one sees, among the first j, and how far it is -/
def leadUp (r : rR) (i : Nat) : Nat → Int32 × Int32
  | 0 => (-1, 100)
  | j + 1 => if seesP r i j ∧ dst r i j < (leadUp r i j).2 then (nI j, dst r i j) else leadUp r i j
theorem sX0_throughSet {m : Nat} (hm : r 2 = nI m) (h8 : m ≤ 8) : sg θ (n + 2) 18 [.ref k] (avSet w k r) Q ↔ Q (some (.int (thruUp r m))) (avSet w k r) := by
  rw [nX0_throughSet]
  generalize ((avSet w k r).2.1 + 0, (avSet w k r).2.2 + 0) = lim
  have loop : ∀ d j, j + d = m → (Wp (xX0_throughSet θ (n + 1) lim) Q (4, [some (.ref k), some (.int (thruUp r j)), some (.int (nI j))], [], avSet w k r) ↔ Q (some (.int (thruUp r m))) (avSet w k r)) := by
    intro d
    induction d with
    | zero =>
      intro j hj
      have hj : j = m := by omega
      subst hj
      rw [eX0_throughSet_4]
      simp only [eX0_throughSet_0, eX0_throughSet_1, eX0_throughSet_2, eX0_throughSet_3, eX0_throughSet_5, eX0_throughSet_6, eX0_throughSet_9, eX0_throughSet_12, eX0_throughSet_13, eX0_throughSet_14, eX0_throughSet_17, eX0_throughSet_20, eX0_throughSet_21, eX0_throughSet_22, eX0_throughSet_23, eX0_throughSet_24, eX0_throughSet_25, eX0_throughSet_26, eX0_throughSet_29, eX0_throughSet_32, eX0_throughSet_33, av_f0, av_f1, av_f2, av_f3, av_f4, av_f5, av_f6, av_f7, av_f8, av_f9, av_n0, av_n1, av_n2, av_n3, av_n4, av_n5, av_n6, av_w0, av_w1, av_w2, av_w3, av_w4, av_w5, av_w6, av_v0, av_v1, av_v2, av_v3, av_v4, av_v5, av_v6, av_s0, av_s1, av_s2, av_s3, av_s4, av_s5, av_s6, av_l0, av_l1, av_l2, av_l3, av_l4, av_l5, av_l6, av_p0, av_p1, av_p2, av_is, av_set, Option.elim_some, true_and, and_true, avRow_its, Option.toList_some, Option.toList_none, List.cons_append, List.nil_append, hm, nI_le (Nat.le_refl j) (show j < 2 ^ 31 by omega), if_true]
    | succ d ih =>
      intro j hj
      have hlt : j < m := by omega
      rw [eX0_throughSet_4]
      simp only [eX0_throughSet_0, eX0_throughSet_1, eX0_throughSet_2, eX0_throughSet_3, eX0_throughSet_5, eX0_throughSet_6, eX0_throughSet_9, eX0_throughSet_12, eX0_throughSet_13, eX0_throughSet_14, eX0_throughSet_17, eX0_throughSet_20, eX0_throughSet_21, eX0_throughSet_22, eX0_throughSet_23, eX0_throughSet_24, eX0_throughSet_25, eX0_throughSet_26, eX0_throughSet_29, eX0_throughSet_32, eX0_throughSet_33, av_f0, av_f1, av_f2, av_f3, av_f4, av_f5, av_f6, av_f7, av_f8, av_f9, av_n0, av_n1, av_n2, av_n3, av_n4, av_n5, av_n6, av_w0, av_w1, av_w2, av_w3, av_w4, av_w5, av_w6, av_v0, av_v1, av_v2, av_v3, av_v4, av_v5, av_v6, av_s0, av_s1, av_s2, av_s3, av_s4, av_s5, av_s6, av_l0, av_l1, av_l2, av_l3, av_l4, av_l5, av_l6, av_p0, av_p1, av_p2, av_is, av_set, Option.elim_some, true_and, and_true, avRow_its, Option.toList_some, Option.toList_none, List.cons_append, List.nil_append, hm, nI_ge hlt (show m < 2 ^ 31 by omega), if_false, sX0_isThrough (show j < 8 by omega)]
      have ih := ih (j + 1) (by omega)
      rw [nI_succ] at ih
      simp only [thruUp, bitI] at ih
      cases ht : thru r j <;> simp only [ht, bI_t, bI_f, if_true, if_false, i10, Bool.false_eq_true] at ih ⊢ <;> exact ih
  simp only [eX0_throughSet_0, eX0_throughSet_1, eX0_throughSet_2, eX0_throughSet_3, eX0_throughSet_5, eX0_throughSet_6, eX0_throughSet_9, eX0_throughSet_12, eX0_throughSet_13, eX0_throughSet_14, eX0_throughSet_17, eX0_throughSet_20, eX0_throughSet_21, eX0_throughSet_22, eX0_throughSet_23, eX0_throughSet_24, eX0_throughSet_25, eX0_throughSet_26, eX0_throughSet_29, eX0_throughSet_32, eX0_throughSet_33, av_f0, av_f1, av_f2, av_f3, av_f4, av_f5, av_f6, av_f7, av_f8, av_f9, av_n0, av_n1, av_n2, av_n3, av_n4, av_n5, av_n6, av_w0, av_w1, av_w2, av_w3, av_w4, av_w5, av_w6, av_v0, av_v1, av_v2, av_v3, av_v4, av_v5, av_v6, av_s0, av_s1, av_s2, av_s3, av_s4, av_s5, av_s6, av_l0, av_l1, av_l2, av_l3, av_l4, av_l5, av_l6, av_p0, av_p1, av_p2, av_is, av_set, Option.elim_some, true_and, and_true, avRow_its, Option.toList_some, Option.toList_none, List.cons_append, List.nil_append]
  exact loop m 0 (by omega)
end T22
