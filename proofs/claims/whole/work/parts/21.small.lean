/-! what lies outside: texts; what the class tells by a KIND or a row's number -/
def tMOST : Nat → Int32 := fun j => [5, 99, 1, 9, 1, 999, 999].getD j 0
def tABOVE : Nat → Int32 := fun j => [-1, 0, 0, 0, 1, 2].getD j 0
def tTX : List (List Int32) := [[116, 114, 97, 109, 115], [113, 117, 105, 101, 116], [108, 111, 118, 101, 114], [115, 111, 108, 100, 105, 101, 114], [116, 104, 105, 101, 102], [98, 108, 105, 110, 100], [101, 110, 118, 111, 121], [119, 97, 108, 107, 101, 114], [97, 116], [98, 97, 99, 107], [112, 97, 99, 101], [114, 111, 117, 110, 100], [59]]
def exOK (θ : (Nat → Value) × (Nat → Nat)) (w : rW) (b : Nat) : Prop :=
  θ.1 0 = .int 1 ∧ ∀ (j : Nat) (tx : List Int32), tTX[j]? = some tx → ∃ vj : Nat, θ.2 j < b ∧ vj < b ∧ w.1 (θ.2 j) = some (rO 100 [.ref vj, .int 0]) ∧ w.1 vj = some (.inl (3, tx.length, fun q => tx.getD q 0))
theorem exOK.to {θ : (Nat → Value) × (Nat → Nat)} {w w' : rW} {b : Nat} (h : exOK θ w b) (hw : ∀ q, q < b → w'.1 q = w.1 q) : exOK θ w' b := by
  obtain ⟨hc, hs⟩ := h
  refine ⟨hc, fun j tx hj => ?_⟩
  obtain ⟨vj, a1, a2, a3, a4⟩ := hs j tx hj
  exact ⟨vj, a1, a2, by rw [hw _ a1]; exact a3, by rw [hw _ a2]; exact a4⟩
theorem av_off {w : rW} {k q : Nat} {r : rR} (h : q < k ∨ k + 8 ≤ q) : (avSet w k r).1 q = w.1 q := by
  simp only [avSet]
  rw [if_neg (by omega), if_neg (by omega), if_neg (by omega), if_neg (by omega), if_neg (by omega), if_neg (by omega), if_neg (by omega), if_neg (by omega)]
theorem exOK.av {θ : (Nat → Value) × (Nat → Nat)} {w : rW} {b k : Nat} {r : rR} (h : exOK θ w b) (hk : b ≤ k) : exOK θ (avSet w k r) b := h.to (fun q hq => av_off (Or.inl (by omega)))
def sightOf (x : Int32) : Int32 := if x = 1 then 30 else if x = 3 then 10 else if x = 4 then 0 else if x = 5 then 40 else 20
section T21
variable {θ : (Nat → Value) × (Nat → Nat)} {n : Nat} {w : rW} {k b : Nat} {r : rR} {Q : rQ}
theorem sX0_isThrough {i : Nat} (hi : i < 8) : sg θ (n + 1) 3 [.ref k, .int (nI i)] (avSet w k r) Q ↔ Q (some (.int (bI (thru r i)))) (avSet w k r) := by
  rw [nX0_isThrough]
  simp only [eX0_isThrough_0, eX0_isThrough_1, eX0_isThrough_4, eX0_isThrough_5, eX0_isThrough_6, eX0_isThrough_7, eX0_isThrough_10, eX0_isThrough_11, eX0_isThrough_12, eX0_isThrough_13, eX0_isThrough_16, eX0_isThrough_18, eX0_isThrough_21, eX0_isThrough_22, eX0_isThrough_25, eX0_isThrough_26, eX0_isThrough_29, eX0_isThrough_30, av_f0, av_f1, av_f2, av_f3, av_f4, av_f5, av_f6, av_f7, av_f8, av_f9, av_n0, av_n1, av_n2, av_n3, av_n4, av_n5, av_n6, av_w0, av_w1, av_w2, av_w3, av_w4, av_w5, av_w6, av_v0, av_v1, av_v2, av_v3, av_v4, av_v5, av_v6, av_s0, av_s1, av_s2, av_s3, av_s4, av_s5, av_s6, av_l0, av_l1, av_l2, av_l3, av_l4, av_l5, av_l6, av_p0, av_p1, av_p2, av_is, av_set, Option.elim_some, true_and, and_true, avRow_its, Option.toList_some, Option.toList_none, List.cons_append, List.nil_append, vp8 hi, cl8 hi, hi]
  by_cases h : its r i 2 = 1 <;> simp [h, bI, thru, nb_0, nb_1] <;> split <;> simp_all [nb_0, nb_1]
theorem sX1_sight (hx : exOK θ w b) {j : Nat} (hj : j < 6) : sg θ (n + 1) 165 [.int (nI j)] w Q ↔ Q (some (.int (sightOf (nI j)))) w := by
  rw [nX1_sight]
  match j, hj with
  | 0, _ => simp (decide := true) only [eX1_sight_0, eX1_sight_1, eX1_sight_36, eX1_sight_38, eX1_sight_39, eX1_sight_41, eX1_sight_42, eX1_sight_43, eX1_sight_44, eX1_sight_46, eX1_sight_47, eX1_sight_49, show nI 0 = 0 from rfl, sightOf, if_true, if_false]
  | 1, _ => simp (decide := true) only [eX1_sight_0, eX1_sight_1, eX1_sight_36, eX1_sight_38, eX1_sight_39, eX1_sight_41, eX1_sight_42, eX1_sight_43, eX1_sight_44, eX1_sight_46, eX1_sight_47, eX1_sight_49, show nI 1 = 1 from rfl, sightOf, if_true, if_false]
  | 2, _ => simp (decide := true) only [eX1_sight_0, eX1_sight_1, eX1_sight_36, eX1_sight_38, eX1_sight_39, eX1_sight_41, eX1_sight_42, eX1_sight_43, eX1_sight_44, eX1_sight_46, eX1_sight_47, eX1_sight_49, show nI 2 = 2 from rfl, sightOf, if_true, if_false]
  | 3, _ => simp (decide := true) only [eX1_sight_0, eX1_sight_1, eX1_sight_36, eX1_sight_38, eX1_sight_39, eX1_sight_41, eX1_sight_42, eX1_sight_43, eX1_sight_44, eX1_sight_46, eX1_sight_47, eX1_sight_49, show nI 3 = 3 from rfl, sightOf, if_true, if_false]
  | 4, _ => simp (decide := true) only [eX1_sight_0, eX1_sight_1, eX1_sight_36, eX1_sight_38, eX1_sight_39, eX1_sight_41, eX1_sight_42, eX1_sight_43, eX1_sight_44, eX1_sight_46, eX1_sight_47, eX1_sight_49, show nI 4 = 4 from rfl, sightOf, if_true, if_false]
  | 5, _ => simp (decide := true) only [eX1_sight_0, eX1_sight_1, eX1_sight_36, eX1_sight_38, eX1_sight_39, eX1_sight_41, eX1_sight_42, eX1_sight_43, eX1_sight_44, eX1_sight_46, eX1_sight_47, eX1_sight_49, show nI 5 = 5 from rfl, sightOf, if_true, if_false]
theorem sX0_most (hx : exOK θ w b) {j : Nat} (hj : j < 7) : sg θ (n + 1) 8 [.int (nI j)] w Q ↔ Q (some (.int (tMOST j))) w := by
  rw [nX0_most]
  match j, hj with
  | 0, _ => simp (decide := true) only [eX0_most_0, eX0_most_1, eX0_most_36, eX0_most_37, eX0_most_38, eX0_most_40, eX0_most_41, eX0_most_43, eX0_most_44, eX0_most_45, eX0_most_46, eX0_most_49, show nI 0 = 0 from rfl, show tMOST 0 = 5 from rfl, if_true, if_false]
  | 1, _ => simp (decide := true) only [eX0_most_0, eX0_most_1, eX0_most_36, eX0_most_37, eX0_most_38, eX0_most_40, eX0_most_41, eX0_most_43, eX0_most_44, eX0_most_45, eX0_most_46, eX0_most_49, show nI 1 = 1 from rfl, show tMOST 1 = 99 from rfl, if_true, if_false]
  | 2, _ => simp (decide := true) only [eX0_most_0, eX0_most_1, eX0_most_36, eX0_most_37, eX0_most_38, eX0_most_40, eX0_most_41, eX0_most_43, eX0_most_44, eX0_most_45, eX0_most_46, eX0_most_49, show nI 2 = 2 from rfl, show tMOST 2 = 1 from rfl, if_true, if_false]
  | 3, _ => simp (decide := true) only [eX0_most_0, eX0_most_1, eX0_most_36, eX0_most_37, eX0_most_38, eX0_most_40, eX0_most_41, eX0_most_43, eX0_most_44, eX0_most_45, eX0_most_46, eX0_most_49, show nI 3 = 3 from rfl, show tMOST 3 = 9 from rfl, if_true, if_false]
  | 4, _ => simp (decide := true) only [eX0_most_0, eX0_most_1, eX0_most_36, eX0_most_37, eX0_most_38, eX0_most_40, eX0_most_41, eX0_most_43, eX0_most_44, eX0_most_45, eX0_most_46, eX0_most_49, show nI 4 = 4 from rfl, show tMOST 4 = 1 from rfl, if_true, if_false]
  | 5, _ => simp (decide := true) only [eX0_most_0, eX0_most_1, eX0_most_36, eX0_most_37, eX0_most_38, eX0_most_40, eX0_most_41, eX0_most_43, eX0_most_44, eX0_most_45, eX0_most_46, eX0_most_49, show nI 5 = 5 from rfl, show tMOST 5 = 999 from rfl, if_true, if_false]
  | 6, _ => simp (decide := true) only [eX0_most_0, eX0_most_1, eX0_most_36, eX0_most_37, eX0_most_38, eX0_most_40, eX0_most_41, eX0_most_43, eX0_most_44, eX0_most_45, eX0_most_46, eX0_most_49, show nI 6 = 6 from rfl, show tMOST 6 = 999 from rfl, if_true, if_false]
theorem sX0_row {c : Nat} (hc : c < 7) : sg θ (n + 1) 7 [.ref k, .int (nI c)] (avSet w k r) Q ↔ Q (some (.ref (k + 1 + c))) (avSet w k r) := by
  rw [nX0_row]
  match c, hc with
  | 0, _ => simp [eX0_row_0, eX0_row_1, eX0_row_40, eX0_row_41, eX0_row_44, eX0_row_45, eX0_row_46, eX0_row_49, eX0_row_50, eX0_row_51, eX0_row_54, eX0_row_55, eX0_row_56, eX0_row_59, eX0_row_60, eX0_row_61, eX0_row_64, eX0_row_65, eX0_row_66, eX0_row_69, eX0_row_70, eX0_row_71, eX0_row_74, av_f0, av_f1, av_f2, av_f3, av_f4, av_f5, av_f6, av_f7, av_f8, av_f9, av_n0, av_n1, av_n2, av_n3, av_n4, av_n5, av_n6, av_w0, av_w1, av_w2, av_w3, av_w4, av_w5, av_w6, av_v0, av_v1, av_v2, av_v3, av_v4, av_v5, av_v6, av_s0, av_s1, av_s2, av_s3, av_s4, av_s5, av_s6, av_l0, av_l1, av_l2, av_l3, av_l4, av_l5, av_l6, av_p0, av_p1, av_p2, av_is, av_set, Option.elim_some, true_and, and_true, avRow_its, Option.toList_some, Option.toList_none, List.cons_append, List.nil_append, show nI 0 = 0 from rfl]
  | 1, _ => simp [eX0_row_0, eX0_row_1, eX0_row_40, eX0_row_41, eX0_row_44, eX0_row_45, eX0_row_46, eX0_row_49, eX0_row_50, eX0_row_51, eX0_row_54, eX0_row_55, eX0_row_56, eX0_row_59, eX0_row_60, eX0_row_61, eX0_row_64, eX0_row_65, eX0_row_66, eX0_row_69, eX0_row_70, eX0_row_71, eX0_row_74, av_f0, av_f1, av_f2, av_f3, av_f4, av_f5, av_f6, av_f7, av_f8, av_f9, av_n0, av_n1, av_n2, av_n3, av_n4, av_n5, av_n6, av_w0, av_w1, av_w2, av_w3, av_w4, av_w5, av_w6, av_v0, av_v1, av_v2, av_v3, av_v4, av_v5, av_v6, av_s0, av_s1, av_s2, av_s3, av_s4, av_s5, av_s6, av_l0, av_l1, av_l2, av_l3, av_l4, av_l5, av_l6, av_p0, av_p1, av_p2, av_is, av_set, Option.elim_some, true_and, and_true, avRow_its, Option.toList_some, Option.toList_none, List.cons_append, List.nil_append, show nI 1 = 1 from rfl]
  | 2, _ => simp [eX0_row_0, eX0_row_1, eX0_row_40, eX0_row_41, eX0_row_44, eX0_row_45, eX0_row_46, eX0_row_49, eX0_row_50, eX0_row_51, eX0_row_54, eX0_row_55, eX0_row_56, eX0_row_59, eX0_row_60, eX0_row_61, eX0_row_64, eX0_row_65, eX0_row_66, eX0_row_69, eX0_row_70, eX0_row_71, eX0_row_74, av_f0, av_f1, av_f2, av_f3, av_f4, av_f5, av_f6, av_f7, av_f8, av_f9, av_n0, av_n1, av_n2, av_n3, av_n4, av_n5, av_n6, av_w0, av_w1, av_w2, av_w3, av_w4, av_w5, av_w6, av_v0, av_v1, av_v2, av_v3, av_v4, av_v5, av_v6, av_s0, av_s1, av_s2, av_s3, av_s4, av_s5, av_s6, av_l0, av_l1, av_l2, av_l3, av_l4, av_l5, av_l6, av_p0, av_p1, av_p2, av_is, av_set, Option.elim_some, true_and, and_true, avRow_its, Option.toList_some, Option.toList_none, List.cons_append, List.nil_append, show nI 2 = 2 from rfl]
  | 3, _ => simp [eX0_row_0, eX0_row_1, eX0_row_40, eX0_row_41, eX0_row_44, eX0_row_45, eX0_row_46, eX0_row_49, eX0_row_50, eX0_row_51, eX0_row_54, eX0_row_55, eX0_row_56, eX0_row_59, eX0_row_60, eX0_row_61, eX0_row_64, eX0_row_65, eX0_row_66, eX0_row_69, eX0_row_70, eX0_row_71, eX0_row_74, av_f0, av_f1, av_f2, av_f3, av_f4, av_f5, av_f6, av_f7, av_f8, av_f9, av_n0, av_n1, av_n2, av_n3, av_n4, av_n5, av_n6, av_w0, av_w1, av_w2, av_w3, av_w4, av_w5, av_w6, av_v0, av_v1, av_v2, av_v3, av_v4, av_v5, av_v6, av_s0, av_s1, av_s2, av_s3, av_s4, av_s5, av_s6, av_l0, av_l1, av_l2, av_l3, av_l4, av_l5, av_l6, av_p0, av_p1, av_p2, av_is, av_set, Option.elim_some, true_and, and_true, avRow_its, Option.toList_some, Option.toList_none, List.cons_append, List.nil_append, show nI 3 = 3 from rfl]
  | 4, _ => simp [eX0_row_0, eX0_row_1, eX0_row_40, eX0_row_41, eX0_row_44, eX0_row_45, eX0_row_46, eX0_row_49, eX0_row_50, eX0_row_51, eX0_row_54, eX0_row_55, eX0_row_56, eX0_row_59, eX0_row_60, eX0_row_61, eX0_row_64, eX0_row_65, eX0_row_66, eX0_row_69, eX0_row_70, eX0_row_71, eX0_row_74, av_f0, av_f1, av_f2, av_f3, av_f4, av_f5, av_f6, av_f7, av_f8, av_f9, av_n0, av_n1, av_n2, av_n3, av_n4, av_n5, av_n6, av_w0, av_w1, av_w2, av_w3, av_w4, av_w5, av_w6, av_v0, av_v1, av_v2, av_v3, av_v4, av_v5, av_v6, av_s0, av_s1, av_s2, av_s3, av_s4, av_s5, av_s6, av_l0, av_l1, av_l2, av_l3, av_l4, av_l5, av_l6, av_p0, av_p1, av_p2, av_is, av_set, Option.elim_some, true_and, and_true, avRow_its, Option.toList_some, Option.toList_none, List.cons_append, List.nil_append, show nI 4 = 4 from rfl]
  | 5, _ => simp [eX0_row_0, eX0_row_1, eX0_row_40, eX0_row_41, eX0_row_44, eX0_row_45, eX0_row_46, eX0_row_49, eX0_row_50, eX0_row_51, eX0_row_54, eX0_row_55, eX0_row_56, eX0_row_59, eX0_row_60, eX0_row_61, eX0_row_64, eX0_row_65, eX0_row_66, eX0_row_69, eX0_row_70, eX0_row_71, eX0_row_74, av_f0, av_f1, av_f2, av_f3, av_f4, av_f5, av_f6, av_f7, av_f8, av_f9, av_n0, av_n1, av_n2, av_n3, av_n4, av_n5, av_n6, av_w0, av_w1, av_w2, av_w3, av_w4, av_w5, av_w6, av_v0, av_v1, av_v2, av_v3, av_v4, av_v5, av_v6, av_s0, av_s1, av_s2, av_s3, av_s4, av_s5, av_s6, av_l0, av_l1, av_l2, av_l3, av_l4, av_l5, av_l6, av_p0, av_p1, av_p2, av_is, av_set, Option.elim_some, true_and, and_true, avRow_its, Option.toList_some, Option.toList_none, List.cons_append, List.nil_append, show nI 5 = 5 from rfl]
  | 6, _ => simp [eX0_row_0, eX0_row_1, eX0_row_40, eX0_row_41, eX0_row_44, eX0_row_45, eX0_row_46, eX0_row_49, eX0_row_50, eX0_row_51, eX0_row_54, eX0_row_55, eX0_row_56, eX0_row_59, eX0_row_60, eX0_row_61, eX0_row_64, eX0_row_65, eX0_row_66, eX0_row_69, eX0_row_70, eX0_row_71, eX0_row_74, av_f0, av_f1, av_f2, av_f3, av_f4, av_f5, av_f6, av_f7, av_f8, av_f9, av_n0, av_n1, av_n2, av_n3, av_n4, av_n5, av_n6, av_w0, av_w1, av_w2, av_w3, av_w4, av_w5, av_w6, av_v0, av_v1, av_v2, av_v3, av_v4, av_v5, av_v6, av_s0, av_s1, av_s2, av_s3, av_s4, av_s5, av_s6, av_l0, av_l1, av_l2, av_l3, av_l4, av_l5, av_l6, av_p0, av_p1, av_p2, av_is, av_set, Option.elim_some, true_and, and_true, avRow_its, Option.toList_some, Option.toList_none, List.cons_append, List.nil_append, show nI 6 = 6 from rfl]
theorem av_nc {c : Nat} (hc : c < 7) : rGn (avSet w k r) (k + 1 + c) = 8 := by
  match c, hc with
  | 0, _ => exact av_n0
  | 1, _ => exact av_n1
  | 2, _ => exact av_n2
  | 3, _ => exact av_n3
  | 4, _ => exact av_n4
  | 5, _ => exact av_n5
  | 6, _ => exact av_n6
theorem av_wc {c : Nat} (hc : c < 7) : rWn (avSet w k r) (k + 1 + c) = 8 := by
  match c, hc with
  | 0, _ => exact av_w0
  | 1, _ => exact av_w1
  | 2, _ => exact av_w2
  | 3, _ => exact av_w3
  | 4, _ => exact av_w4
  | 5, _ => exact av_w5
  | 6, _ => exact av_w6
theorem av_vc {c : Nat} (hc : c < 7) : rGv (avSet w k r) (k + 1 + c) = avRow r c := by
  match c, hc with
  | 0, _ => exact av_v0
  | 1, _ => exact av_v1
  | 2, _ => exact av_v2
  | 3, _ => exact av_v3
  | 4, _ => exact av_v4
  | 5, _ => exact av_v5
  | 6, _ => exact av_v6
theorem av_sc {c j : Nat} {x : Int32} (hc : c < 7) (hj : j < 8) : rSi (avSet w k r) (k + 1 + c) j x = avSet w k (upd r (3 + 7 * j + c) x) := by
  match c, hc with
  | 0, _ => exact av_s0 hj
  | 1, _ => exact av_s1 hj
  | 2, _ => exact av_s2 hj
  | 3, _ => exact av_s3 hj
  | 4, _ => exact av_s4 hj
  | 5, _ => exact av_s5 hj
  | 6, _ => exact av_s6 hj
theorem sX0_put {i c : Nat} {x : Int32} (hi : i < 8) (hc : c < 7) : sg θ (n + 2) 9 [.ref k, .int (nI i), .int (nI c), .int x] (avSet w k r) Q ↔ Q (some (.int (its r i c))) (avSet w k (upd r (3 + 7 * i + c) x)) := by
  rw [nX0_put]
  simp only [eX0_put_0, eX0_put_1, eX0_put_2, eX0_put_5, eX0_put_7, eX0_put_9, eX0_put_10, eX0_put_11, eX0_put_13, eX0_put_15, eX0_put_16, eX0_put_17, eX0_put_18, eX0_put_20, av_f0, av_f1, av_f2, av_f3, av_f4, av_f5, av_f6, av_f7, av_f8, av_f9, av_n0, av_n1, av_n2, av_n3, av_n4, av_n5, av_n6, av_w0, av_w1, av_w2, av_w3, av_w4, av_w5, av_w6, av_v0, av_v1, av_v2, av_v3, av_v4, av_v5, av_v6, av_s0, av_s1, av_s2, av_s3, av_s4, av_s5, av_s6, av_l0, av_l1, av_l2, av_l3, av_l4, av_l5, av_l6, av_p0, av_p1, av_p2, av_is, av_set, Option.elim_some, true_and, and_true, avRow_its, Option.toList_some, Option.toList_none, List.cons_append, List.nil_append, sX0_row hc, av_nc hc, av_wc hc, av_vc hc, av_sc hc, vp8 hi, cl8 hi, hi]
theorem sX0_isFull : sg θ (n + 1) 1 [.ref k] (avSet w k r) Q ↔ Q (some (.int (bI (decide (8 ≤ r 2))))) (avSet w k r) := by
  rw [nX0_isFull]
  simp only [eX0_isFull_0, eX0_isFull_1, eX0_isFull_4, eX0_isFull_6, eX0_isFull_9, eX0_isFull_10, eX0_isFull_13, eX0_isFull_14, av_f0, av_f1, av_f2, av_f3, av_f4, av_f5, av_f6, av_f7, av_f8, av_f9, av_n0, av_n1, av_n2, av_n3, av_n4, av_n5, av_n6, av_w0, av_w1, av_w2, av_w3, av_w4, av_w5, av_w6, av_v0, av_v1, av_v2, av_v3, av_v4, av_v5, av_v6, av_s0, av_s1, av_s2, av_s3, av_s4, av_s5, av_s6, av_l0, av_l1, av_l2, av_l3, av_l4, av_l5, av_l6, av_p0, av_p1, av_p2, av_is, av_set, Option.elim_some, true_and, and_true, avRow_its, Option.toList_some, Option.toList_none, List.cons_append, List.nil_append]
  by_cases h : 8 ≤ r 2
  · have : ¬ r 2 < 8 := Int32.not_lt.mpr h
    simp [h, this, bI, nb_1]
  · have : r 2 < 8 := Int32.not_le.mp h
    simp [h, this, bI, nb_0]
theorem sX0_tramPlace : sg θ (n + 1) 17 [.ref k] (avSet w k r) Q ↔ Q (some (.int (4 * r 0 - 4 * r 0 / 100 * 100))) (avSet w k r) := by
  rw [nX0_tramPlace]
  simp only [eX0_tramPlace_0, eX0_tramPlace_1, eX0_tramPlace_2, eX0_tramPlace_5, eX0_tramPlace_6, eX0_tramPlace_8, eX0_tramPlace_9, av_f0, av_f1, av_f2, av_f3, av_f4, av_f5, av_f6, av_f7, av_f8, av_f9, av_n0, av_n1, av_n2, av_n3, av_n4, av_n5, av_n6, av_w0, av_w1, av_w2, av_w3, av_w4, av_w5, av_w6, av_v0, av_v1, av_v2, av_v3, av_v4, av_v5, av_v6, av_s0, av_s1, av_s2, av_s3, av_s4, av_s5, av_s6, av_l0, av_l1, av_l2, av_l3, av_l4, av_l5, av_l6, av_p0, av_p1, av_p2, av_is, av_set, Option.elim_some, true_and, and_true, avRow_its, Option.toList_some, Option.toList_none, List.cons_append, List.nil_append]
  simp
end T21
