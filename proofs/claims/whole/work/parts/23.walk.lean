/-- how many there are, and of what kinds -/
def kOK (r : rR) (m : Nat) : Prop := r 2 = nI m ∧ m ≤ 8 ∧ ∀ i, i < m → ∃ kd, kd < 6 ∧ its r i 0 = nI kd
def ledB (r : rR) (i : Nat) : Nat → Bool
  | 0 => false
  | j + 1 => ledB r i j || seesP r i j
def goesAt (r : rR) (i m : Nat) : Int32 := goesOf (its r i 0) (its r i 3) (ledB r i m) (its r i 4) (r 0)
theorem sight_le (x : Int32) : (sightOf x).toInt ≤ 40 := by
  unfold sightOf
  repeat' split
  all_goals decide
theorem lead_spec (r : rR) (i : Nat) : ∀ m, m < 2 ^ 31 → (ledB r i m = false → leadUp r i m = (-1, 100)) ∧ (ledB r i m = true → ∃ j, j < m ∧ (leadUp r i m).1 = nI j)
  | 0, _ => ⟨fun _ => rfl, fun h => by cases h⟩
  | m + 1, hm => by
    obtain ⟨h1, h2⟩ := lead_spec r i m (by omega)
    cases hl : ledB r i m with
    | false =>
      cases hs : seesP r i m with
      | false =>
        refine ⟨fun _ => ?_, fun h => ?_⟩
        · simp only [leadUp, hs, Bool.false_eq_true, false_and, if_false]
          exact h1 hl
        · simp [ledB, hl, hs] at h
      | true =>
        refine ⟨fun h => ?_, fun _ => ⟨m, by omega, ?_⟩⟩
        · simp [ledB, hl, hs] at h
        · have hd : dst r i m < (leadUp r i m).2 := by
            rw [h1 hl]
            simp only [seesP, Bool.and_eq_true, decide_eq_true_eq] at hs
            have h3 := Int32.le_iff_toInt_le.mp hs.1.2
            have h4 := sight_le (its r i 0)
            rw [Int32.lt_iff_toInt_lt]
            have h5 : (100 : Int32).toInt = 100 := by decide
            show _ < (100 : Int32).toInt
            omega
          simp only [leadUp, hs, hd, true_and, if_true]
    | true =>
      refine ⟨fun h => by simp [ledB, hl] at h, fun _ => ?_⟩
      obtain ⟨j, hj, he⟩ := h2 hl
      by_cases hc : seesP r i m = true ∧ dst r i m < (leadUp r i m).2
      · exact ⟨m, by omega, by simp only [leadUp, if_pos hc]⟩
      · exact ⟨j, by omega, by simp only [leadUp, if_neg hc]; exact he⟩
theorem lead_neg {r : rR} {i m : Nat} (hm : m < 2 ^ 31) : ((leadUp r i m).1 < 0) = (ledB r i m = false) := by
  obtain ⟨h1, h2⟩ := lead_spec r i m hm
  cases hl : ledB r i m with
  | false => rw [h1 hl]; decide
  | true =>
    obtain ⟨j, hj, he⟩ := h2 hl
    rw [he]
    simp [nI_pos (show j < 2 ^ 31 by omega)]
section T23
variable {θ : (Nat → Value) × (Nat → Nat)} {n : Nat} {w : rW} {k b : Nat} {r : rR} {Q : rQ}
theorem sX0_seenBy (hx : exOK θ w b) (hb : b ≤ k) {m i : Nat} (hk : kOK r m) (hi : i < m) : sg θ (n + 3) 10 [.ref k, .int (nI i)] (avSet w k r) Q ↔ Q (some (.int (seenUp r i m))) (avSet w k r) := by
  obtain ⟨hm, h8, hkd⟩ := hk
  obtain ⟨kd, hkd1, hkd2⟩ := hkd i hi
  rw [nX0_seenBy]
  generalize ((avSet w k r).2.1 + 0, (avSet w k r).2.2 + 0) = lim
  have loop : ∀ d j, j + d = m → (Wp (xX0_seenBy θ (n + 2) lim) Q (4, [some (.ref k), some (.int (nI i)), some (.int (seenUp r i j)), some (.int (nI j))], [], avSet w k r) ↔ Q (some (.int (seenUp r i m))) (avSet w k r)) := by
    intro d
    induction d with
    | zero =>
      intro j hj
      have hj : j = m := by omega
      subst hj
      rw [eX0_seenBy_4]
      simp only [eX0_seenBy_0, eX0_seenBy_1, eX0_seenBy_2, eX0_seenBy_3, eX0_seenBy_5, eX0_seenBy_6, eX0_seenBy_9, eX0_seenBy_12, eX0_seenBy_13, eX0_seenBy_14, eX0_seenBy_15, eX0_seenBy_18, eX0_seenBy_21, eX0_seenBy_22, eX0_seenBy_23, eX0_seenBy_24, eX0_seenBy_25, eX0_seenBy_26, eX0_seenBy_27, eX0_seenBy_30, eX0_seenBy_33, eX0_seenBy_34, av_f0, av_f1, av_f2, av_f3, av_f4, av_f5, av_f6, av_f7, av_f8, av_f9, av_n0, av_n1, av_n2, av_n3, av_n4, av_n5, av_n6, av_w0, av_w1, av_w2, av_w3, av_w4, av_w5, av_w6, av_v0, av_v1, av_v2, av_v3, av_v4, av_v5, av_v6, av_s0, av_s1, av_s2, av_s3, av_s4, av_s5, av_s6, av_l0, av_l1, av_l2, av_l3, av_l4, av_l5, av_l6, av_p0, av_p1, av_p2, av_is, av_set, Option.elim_some, true_and, and_true, avRow_its, Option.toList_some, Option.toList_none, List.cons_append, List.nil_append, hm, nI_le (Nat.le_refl j) (show j < 2 ^ 31 by omega), if_true]
    | succ d ih =>
      intro j hj
      have hlt : j < m := by omega
      rw [eX0_seenBy_4]
      have hs := fun n Q => sX0_distanceSeen (θ := θ) (n := n) (Q := Q) hx hb (show i < 8 by omega) (show j < 8 by omega) hkd1 hkd2
      simp only [eX0_seenBy_0, eX0_seenBy_1, eX0_seenBy_2, eX0_seenBy_3, eX0_seenBy_5, eX0_seenBy_6, eX0_seenBy_9, eX0_seenBy_12, eX0_seenBy_13, eX0_seenBy_14, eX0_seenBy_15, eX0_seenBy_18, eX0_seenBy_21, eX0_seenBy_22, eX0_seenBy_23, eX0_seenBy_24, eX0_seenBy_25, eX0_seenBy_26, eX0_seenBy_27, eX0_seenBy_30, eX0_seenBy_33, eX0_seenBy_34, av_f0, av_f1, av_f2, av_f3, av_f4, av_f5, av_f6, av_f7, av_f8, av_f9, av_n0, av_n1, av_n2, av_n3, av_n4, av_n5, av_n6, av_w0, av_w1, av_w2, av_w3, av_w4, av_w5, av_w6, av_v0, av_v1, av_v2, av_v3, av_v4, av_v5, av_v6, av_s0, av_s1, av_s2, av_s3, av_s4, av_s5, av_s6, av_l0, av_l1, av_l2, av_l3, av_l4, av_l5, av_l6, av_p0, av_p1, av_p2, av_is, av_set, Option.elim_some, true_and, and_true, avRow_its, Option.toList_some, Option.toList_none, List.cons_append, List.nil_append, hm, nI_ge hlt (show m < 2 ^ 31 by omega), if_false, hs]
      have ih := ih (j + 1) (by omega)
      rw [nI_succ] at ih
      simp only [seenUp, bitI] at ih
      cases ht : seesP r i j with
      | false =>
        simp only [ht, if_false, Bool.false_eq_true, Int32.le_refl, if_true] at ih ⊢
        exact ih
      | true =>
        have hpos : ¬ dst r i j ≤ 0 := by
          simp only [seesP, Bool.and_eq_true, decide_eq_true_eq] at ht
          exact Int32.not_le.mpr ht.1.1
        simp only [ht, if_true, hpos, if_false] at ih ⊢
        exact ih
  simp only [eX0_seenBy_0, eX0_seenBy_1, eX0_seenBy_2, eX0_seenBy_3, eX0_seenBy_5, eX0_seenBy_6, eX0_seenBy_9, eX0_seenBy_12, eX0_seenBy_13, eX0_seenBy_14, eX0_seenBy_15, eX0_seenBy_18, eX0_seenBy_21, eX0_seenBy_22, eX0_seenBy_23, eX0_seenBy_24, eX0_seenBy_25, eX0_seenBy_26, eX0_seenBy_27, eX0_seenBy_30, eX0_seenBy_33, eX0_seenBy_34, av_f0, av_f1, av_f2, av_f3, av_f4, av_f5, av_f6, av_f7, av_f8, av_f9, av_n0, av_n1, av_n2, av_n3, av_n4, av_n5, av_n6, av_w0, av_w1, av_w2, av_w3, av_w4, av_w5, av_w6, av_v0, av_v1, av_v2, av_v3, av_v4, av_v5, av_v6, av_s0, av_s1, av_s2, av_s3, av_s4, av_s5, av_s6, av_l0, av_l1, av_l2, av_l3, av_l4, av_l5, av_l6, av_p0, av_p1, av_p2, av_is, av_set, Option.elim_some, true_and, and_true, avRow_its, Option.toList_some, Option.toList_none, List.cons_append, List.nil_append]
  exact loop m 0 (by omega)
theorem sX0_leaderOf (hx : exOK θ w b) (hb : b ≤ k) {m i : Nat} (hk : kOK r m) (hi : i < m) : sg θ (n + 3) 5 [.ref k, .int (nI i)] (avSet w k r) Q ↔ Q (some (.int (leadUp r i m).1)) (avSet w k r) := by
  obtain ⟨hm, h8, hkd⟩ := hk
  obtain ⟨kd, hkd1, hkd2⟩ := hkd i hi
  rw [nX0_leaderOf]
  generalize ((avSet w k r).2.1 + 0, (avSet w k r).2.2 + 0) = lim
  have loop : ∀ d j o5, j + d = m → (Wp (xX0_leaderOf θ (n + 2) lim) Q (8, [some (.ref k), some (.int (nI i)), some (.int (leadUp r i j).1), some (.int (leadUp r i j).2), some (.int (nI j)), o5], [], avSet w k r) ↔ Q (some (.int (leadUp r i m).1)) (avSet w k r)) := by
    intro d
    induction d with
    | zero =>
      intro j o5 hj
      have hj : j = m := by omega
      subst hj
      rw [eX0_leaderOf_8]
      simp only [eX0_leaderOf_0, eX0_leaderOf_1, eX0_leaderOf_2, eX0_leaderOf_4, eX0_leaderOf_5, eX0_leaderOf_6, eX0_leaderOf_10, eX0_leaderOf_11, eX0_leaderOf_14, eX0_leaderOf_17, eX0_leaderOf_18, eX0_leaderOf_19, eX0_leaderOf_21, eX0_leaderOf_24, eX0_leaderOf_26, eX0_leaderOf_28, eX0_leaderOf_31, eX0_leaderOf_33, eX0_leaderOf_34, eX0_leaderOf_37, eX0_leaderOf_39, eX0_leaderOf_40, eX0_leaderOf_42, eX0_leaderOf_43, eX0_leaderOf_46, eX0_leaderOf_49, eX0_leaderOf_50, av_f0, av_f1, av_f2, av_f3, av_f4, av_f5, av_f6, av_f7, av_f8, av_f9, av_n0, av_n1, av_n2, av_n3, av_n4, av_n5, av_n6, av_w0, av_w1, av_w2, av_w3, av_w4, av_w5, av_w6, av_v0, av_v1, av_v2, av_v3, av_v4, av_v5, av_v6, av_s0, av_s1, av_s2, av_s3, av_s4, av_s5, av_s6, av_l0, av_l1, av_l2, av_l3, av_l4, av_l5, av_l6, av_p0, av_p1, av_p2, av_is, av_set, Option.elim_some, true_and, and_true, avRow_its, Option.toList_some, Option.toList_none, List.cons_append, List.nil_append, hm, nI_le (Nat.le_refl j) (show j < 2 ^ 31 by omega), if_true]
    | succ d ih =>
      intro j o5 hj
      have hlt : j < m := by omega
      rw [eX0_leaderOf_8]
      have hs := fun n Q => sX0_distanceSeen (θ := θ) (n := n) (Q := Q) hx hb (show i < 8 by omega) (show j < 8 by omega) hkd1 hkd2
      simp only [eX0_leaderOf_0, eX0_leaderOf_1, eX0_leaderOf_2, eX0_leaderOf_4, eX0_leaderOf_5, eX0_leaderOf_6, eX0_leaderOf_10, eX0_leaderOf_11, eX0_leaderOf_14, eX0_leaderOf_17, eX0_leaderOf_18, eX0_leaderOf_19, eX0_leaderOf_21, eX0_leaderOf_24, eX0_leaderOf_26, eX0_leaderOf_28, eX0_leaderOf_31, eX0_leaderOf_33, eX0_leaderOf_34, eX0_leaderOf_37, eX0_leaderOf_39, eX0_leaderOf_40, eX0_leaderOf_42, eX0_leaderOf_43, eX0_leaderOf_46, eX0_leaderOf_49, eX0_leaderOf_50, av_f0, av_f1, av_f2, av_f3, av_f4, av_f5, av_f6, av_f7, av_f8, av_f9, av_n0, av_n1, av_n2, av_n3, av_n4, av_n5, av_n6, av_w0, av_w1, av_w2, av_w3, av_w4, av_w5, av_w6, av_v0, av_v1, av_v2, av_v3, av_v4, av_v5, av_v6, av_s0, av_s1, av_s2, av_s3, av_s4, av_s5, av_s6, av_l0, av_l1, av_l2, av_l3, av_l4, av_l5, av_l6, av_p0, av_p1, av_p2, av_is, av_set, Option.elim_some, true_and, and_true, avRow_its, Option.toList_some, Option.toList_none, List.cons_append, List.nil_append, hm, nI_ge hlt (show m < 2 ^ 31 by omega), if_false, hs]
      have ih := fun o => ih (j + 1) o (by omega)
      rw [nI_succ] at ih
      cases ht : seesP r i j with
      | false =>
        simp only [leadUp, ht, if_false, Bool.false_eq_true, false_and, Int32.le_refl, if_true] at ih ⊢
        exact ih _
      | true =>
        have hpos : ¬ dst r i j ≤ 0 := by
          simp only [seesP, Bool.and_eq_true, decide_eq_true_eq] at ht
          exact Int32.not_le.mpr ht.1.1
        by_cases hd : dst r i j < (leadUp r i j).2
        · have hd2 : ¬ (leadUp r i j).2 ≤ dst r i j := Int32.not_le.mpr hd
          simp only [leadUp, ht, if_true, hpos, if_false, hd, hd2, true_and] at ih ⊢
          exact ih _
        · have hd2 : (leadUp r i j).2 ≤ dst r i j := Int32.not_lt.mp hd
          simp only [leadUp, ht, if_true, hpos, if_false, hd, hd2, and_false] at ih ⊢
          exact ih _
  simp only [eX0_leaderOf_0, eX0_leaderOf_1, eX0_leaderOf_2, eX0_leaderOf_4, eX0_leaderOf_5, eX0_leaderOf_6, eX0_leaderOf_10, eX0_leaderOf_11, eX0_leaderOf_14, eX0_leaderOf_17, eX0_leaderOf_18, eX0_leaderOf_19, eX0_leaderOf_21, eX0_leaderOf_24, eX0_leaderOf_26, eX0_leaderOf_28, eX0_leaderOf_31, eX0_leaderOf_33, eX0_leaderOf_34, eX0_leaderOf_37, eX0_leaderOf_39, eX0_leaderOf_40, eX0_leaderOf_42, eX0_leaderOf_43, eX0_leaderOf_46, eX0_leaderOf_49, eX0_leaderOf_50, av_f0, av_f1, av_f2, av_f3, av_f4, av_f5, av_f6, av_f7, av_f8, av_f9, av_n0, av_n1, av_n2, av_n3, av_n4, av_n5, av_n6, av_w0, av_w1, av_w2, av_w3, av_w4, av_w5, av_w6, av_v0, av_v1, av_v2, av_v3, av_v4, av_v5, av_v6, av_s0, av_s1, av_s2, av_s3, av_s4, av_s5, av_s6, av_l0, av_l1, av_l2, av_l3, av_l4, av_l5, av_l6, av_p0, av_p1, av_p2, av_is, av_set, Option.elim_some, true_and, and_true, avRow_its, Option.toList_some, Option.toList_none, List.cons_append, List.nil_append]
  exact loop m 0 none (by omega)
theorem sX0_placesToGo (hx : exOK θ w b) (hb : b ≤ k) {m i : Nat} (hk : kOK r m) (hi : i < m) : sg θ (n + 4) 4 [.ref k, .int (nI i)] (avSet w k r) Q ↔ Q (some (.int (goesAt r i m))) (avSet w k r) := by
  have h8 := hk.2.1
  rw [nX0_placesToGo]
  have hl := fun n Q => sX0_leaderOf (θ := θ) (n := n) (Q := Q) hx hb hk hi
  simp only [eX0_placesToGo_0, eX0_placesToGo_1, eX0_placesToGo_4, eX0_placesToGo_5, eX0_placesToGo_6, eX0_placesToGo_7, eX0_placesToGo_10, eX0_placesToGo_11, eX0_placesToGo_12, eX0_placesToGo_13, eX0_placesToGo_14, eX0_placesToGo_17, eX0_placesToGo_20, eX0_placesToGo_21, eX0_placesToGo_24, eX0_placesToGo_25, eX0_placesToGo_26, eX0_placesToGo_29, eX0_placesToGo_30, eX0_placesToGo_31, eX0_placesToGo_32, eX0_placesToGo_35, eX0_placesToGo_38, av_f0, av_f1, av_f2, av_f3, av_f4, av_f5, av_f6, av_f7, av_f8, av_f9, av_n0, av_n1, av_n2, av_n3, av_n4, av_n5, av_n6, av_w0, av_w1, av_w2, av_w3, av_w4, av_w5, av_w6, av_v0, av_v1, av_v2, av_v3, av_v4, av_v5, av_v6, av_s0, av_s1, av_s2, av_s3, av_s4, av_s5, av_s6, av_l0, av_l1, av_l2, av_l3, av_l4, av_l5, av_l6, av_p0, av_p1, av_p2, av_is, av_set, Option.elim_some, true_and, and_true, avRow_its, Option.toList_some, Option.toList_none, List.cons_append, List.nil_append, vp8 (show i < 8 by omega), cl8 (show i < 8 by omega), (show i < 8 by omega), hl, lead_neg (show m < 2 ^ 31 by omega)]
  have hg := fun n L Q => sX1_goes (θ := θ) (n := n) (Q := Q) (w := avSet w k r) (kd := its r i 0) (p := its r i 3) (rd := its r i 4) (mi := r 0) (L := L)
  cases h : ledB r i m with
  | false =>
    have := hg (n + 1) false
    simp only [bI_f] at this
    simp only [if_true, this, goesAt, h, eX0_placesToGo_0, eX0_placesToGo_1, eX0_placesToGo_4, eX0_placesToGo_5, eX0_placesToGo_6, eX0_placesToGo_7, eX0_placesToGo_10, eX0_placesToGo_11, eX0_placesToGo_12, eX0_placesToGo_13, eX0_placesToGo_14, eX0_placesToGo_17, eX0_placesToGo_20, eX0_placesToGo_21, eX0_placesToGo_24, eX0_placesToGo_25, eX0_placesToGo_26, eX0_placesToGo_29, eX0_placesToGo_30, eX0_placesToGo_31, eX0_placesToGo_32, eX0_placesToGo_35, eX0_placesToGo_38, av_f0, av_f1, av_f2, av_f3, av_f4, av_f5, av_f6, av_f7, av_f8, av_f9, av_n0, av_n1, av_n2, av_n3, av_n4, av_n5, av_n6, av_w0, av_w1, av_w2, av_w3, av_w4, av_w5, av_w6, av_v0, av_v1, av_v2, av_v3, av_v4, av_v5, av_v6, av_s0, av_s1, av_s2, av_s3, av_s4, av_s5, av_s6, av_l0, av_l1, av_l2, av_l3, av_l4, av_l5, av_l6, av_p0, av_p1, av_p2, av_is, av_set, Option.elim_some, true_and, and_true, avRow_its, Option.toList_some, Option.toList_none, List.cons_append, List.nil_append]
  | true =>
    have := hg (n + 1) true
    simp only [bI_t] at this
    simp only [if_false, Bool.true_eq_false, this, goesAt, h, eX0_placesToGo_0, eX0_placesToGo_1, eX0_placesToGo_4, eX0_placesToGo_5, eX0_placesToGo_6, eX0_placesToGo_7, eX0_placesToGo_10, eX0_placesToGo_11, eX0_placesToGo_12, eX0_placesToGo_13, eX0_placesToGo_14, eX0_placesToGo_17, eX0_placesToGo_20, eX0_placesToGo_21, eX0_placesToGo_24, eX0_placesToGo_25, eX0_placesToGo_26, eX0_placesToGo_29, eX0_placesToGo_30, eX0_placesToGo_31, eX0_placesToGo_32, eX0_placesToGo_35, eX0_placesToGo_38, av_f0, av_f1, av_f2, av_f3, av_f4, av_f5, av_f6, av_f7, av_f8, av_f9, av_n0, av_n1, av_n2, av_n3, av_n4, av_n5, av_n6, av_w0, av_w1, av_w2, av_w3, av_w4, av_w5, av_w6, av_v0, av_v1, av_v2, av_v3, av_v4, av_v5, av_v6, av_s0, av_s1, av_s2, av_s3, av_s4, av_s5, av_s6, av_l0, av_l1, av_l2, av_l3, av_l4, av_l5, av_l6, av_p0, av_p1, av_p2, av_is, av_set, Option.elim_some, true_and, and_true, avRow_its, Option.toList_some, Option.toList_none, List.cons_append, List.nil_append]
/-- who stands in one's way: the least other one at its place that isn't through -/
def inWay (r : rR) (i : Nat) : Nat → Nat → Option Nat
  | 0, _ => none
  | d + 1, j => if (j ≠ i ∧ its r j 1 = its r i 1) ∧ thru r j = false then some j else inWay r i d (j + 1)
def oI (o : Option Nat) : Int32 := match o with
  | some j => nI j
  | none => -1
theorem sX0_inTheWayOf {m i : Nat} (hm : r 2 = nI m) (h8 : m ≤ 8) (hi : i < m) : sg θ (n + 2) 14 [.ref k, .int (nI i)] (avSet w k r) Q ↔ Q (some (.int (oI (inWay r i m 0)))) (avSet w k r) := by
  rw [nX0_inTheWayOf]
  generalize ((avSet w k r).2.1 + 0, (avSet w k r).2.2 + 0) = lim
  have loop : ∀ d j, j + d = m → (Wp (xX0_inTheWayOf θ (n + 1) lim) Q (2, [some (.ref k), some (.int (nI i)), some (.int (nI j))], [], avSet w k r) ↔ Q (some (.int (oI (inWay r i d j)))) (avSet w k r)) := by
    intro d
    induction d with
    | zero =>
      intro j hj
      have hj : j = m := by omega
      subst hj
      rw [eX0_inTheWayOf_2]
      simp only [eX0_inTheWayOf_0, eX0_inTheWayOf_1, eX0_inTheWayOf_3, eX0_inTheWayOf_4, eX0_inTheWayOf_7, eX0_inTheWayOf_10, eX0_inTheWayOf_11, eX0_inTheWayOf_12, eX0_inTheWayOf_15, eX0_inTheWayOf_16, eX0_inTheWayOf_19, eX0_inTheWayOf_20, eX0_inTheWayOf_21, eX0_inTheWayOf_22, eX0_inTheWayOf_25, eX0_inTheWayOf_26, eX0_inTheWayOf_27, eX0_inTheWayOf_30, eX0_inTheWayOf_31, eX0_inTheWayOf_32, eX0_inTheWayOf_35, eX0_inTheWayOf_38, eX0_inTheWayOf_39, eX0_inTheWayOf_40, eX0_inTheWayOf_43, eX0_inTheWayOf_46, eX0_inTheWayOf_47, av_f0, av_f1, av_f2, av_f3, av_f4, av_f5, av_f6, av_f7, av_f8, av_f9, av_n0, av_n1, av_n2, av_n3, av_n4, av_n5, av_n6, av_w0, av_w1, av_w2, av_w3, av_w4, av_w5, av_w6, av_v0, av_v1, av_v2, av_v3, av_v4, av_v5, av_v6, av_s0, av_s1, av_s2, av_s3, av_s4, av_s5, av_s6, av_l0, av_l1, av_l2, av_l3, av_l4, av_l5, av_l6, av_p0, av_p1, av_p2, av_is, av_set, Option.elim_some, true_and, and_true, avRow_its, Option.toList_some, Option.toList_none, List.cons_append, List.nil_append, hm, nI_le (Nat.le_refl j) (show j < 2 ^ 31 by omega), if_true, inWay, oI]
    | succ d ih =>
      intro j hj
      have hlt : j < m := by omega
      rw [eX0_inTheWayOf_2]
      simp only [eX0_inTheWayOf_0, eX0_inTheWayOf_1, eX0_inTheWayOf_3, eX0_inTheWayOf_4, eX0_inTheWayOf_7, eX0_inTheWayOf_10, eX0_inTheWayOf_11, eX0_inTheWayOf_12, eX0_inTheWayOf_15, eX0_inTheWayOf_16, eX0_inTheWayOf_19, eX0_inTheWayOf_20, eX0_inTheWayOf_21, eX0_inTheWayOf_22, eX0_inTheWayOf_25, eX0_inTheWayOf_26, eX0_inTheWayOf_27, eX0_inTheWayOf_30, eX0_inTheWayOf_31, eX0_inTheWayOf_32, eX0_inTheWayOf_35, eX0_inTheWayOf_38, eX0_inTheWayOf_39, eX0_inTheWayOf_40, eX0_inTheWayOf_43, eX0_inTheWayOf_46, eX0_inTheWayOf_47, av_f0, av_f1, av_f2, av_f3, av_f4, av_f5, av_f6, av_f7, av_f8, av_f9, av_n0, av_n1, av_n2, av_n3, av_n4, av_n5, av_n6, av_w0, av_w1, av_w2, av_w3, av_w4, av_w5, av_w6, av_v0, av_v1, av_v2, av_v3, av_v4, av_v5, av_v6, av_s0, av_s1, av_s2, av_s3, av_s4, av_s5, av_s6, av_l0, av_l1, av_l2, av_l3, av_l4, av_l5, av_l6, av_p0, av_p1, av_p2, av_is, av_set, Option.elim_some, true_and, and_true, avRow_its, Option.toList_some, Option.toList_none, List.cons_append, List.nil_append, hm, nI_ge hlt (show m < 2 ^ 31 by omega), if_false, sX0_isThrough (show j < 8 by omega), vp8 (show i < 8 by omega), vp8 (show j < 8 by omega), cl8 (show i < 8 by omega), (show i < 8 by omega), cl8 (show j < 8 by omega), (show j < 8 by omega), nI_eq (show j < 2 ^ 31 by omega) (show i < 2 ^ 31 by omega)]
      have ih := ih (j + 1) (by omega)
      rw [nI_succ] at ih
      by_cases h1 : j = i
      · simp only [inWay, h1, if_true, ne_eq, not_true, false_and, if_false] at ih ⊢
        exact ih
      · by_cases h2 : its r j 1 = its r i 1
        · cases h3 : thru r j with
          | false => simp only [inWay, h1, h2, h3, if_true, if_false, ne_eq, not_false_iff, true_and, bI_f, oI]
          | true =>
            simp only [inWay, h1, h2, h3, if_true, if_false, ne_eq, not_false_iff, true_and, bI_t, i10, Bool.true_eq_false] at ih ⊢
            exact ih
        · simp only [inWay, h1, h2, if_false, ne_eq, not_false_iff, and_false, false_and] at ih ⊢
          exact ih
  simp only [eX0_inTheWayOf_0, eX0_inTheWayOf_1, eX0_inTheWayOf_3, eX0_inTheWayOf_4, eX0_inTheWayOf_7, eX0_inTheWayOf_10, eX0_inTheWayOf_11, eX0_inTheWayOf_12, eX0_inTheWayOf_15, eX0_inTheWayOf_16, eX0_inTheWayOf_19, eX0_inTheWayOf_20, eX0_inTheWayOf_21, eX0_inTheWayOf_22, eX0_inTheWayOf_25, eX0_inTheWayOf_26, eX0_inTheWayOf_27, eX0_inTheWayOf_30, eX0_inTheWayOf_31, eX0_inTheWayOf_32, eX0_inTheWayOf_35, eX0_inTheWayOf_38, eX0_inTheWayOf_39, eX0_inTheWayOf_40, eX0_inTheWayOf_43, eX0_inTheWayOf_46, eX0_inTheWayOf_47, av_f0, av_f1, av_f2, av_f3, av_f4, av_f5, av_f6, av_f7, av_f8, av_f9, av_n0, av_n1, av_n2, av_n3, av_n4, av_n5, av_n6, av_w0, av_w1, av_w2, av_w3, av_w4, av_w5, av_w6, av_v0, av_v1, av_v2, av_v3, av_v4, av_v5, av_v6, av_s0, av_s1, av_s2, av_s3, av_s4, av_s5, av_s6, av_l0, av_l1, av_l2, av_l3, av_l4, av_l5, av_l6, av_p0, av_p1, av_p2, av_is, av_set, Option.elim_some, true_and, and_true, avRow_its, Option.toList_some, Option.toList_none, List.cons_append, List.nil_append]
  exact loop m 0 (by omega)
end T23
