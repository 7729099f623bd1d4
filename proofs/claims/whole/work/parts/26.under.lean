def underB (kd wd : Nat) : Bool := wd == 0 || wd == kd || (wd == 1 && kd == 4) || (wd == 2 && kd == 5)
section T26
variable {θ : (Nat → Value) × (Nat → Nat)} {n : Nat} {w : rW} {k b : Nat} {r : rR} {Q : rQ}
theorem sX1_above {j : Nat} (hj : j < 6) (h0 : 0 < j) : sg θ (n + 1) 168 [.int (nI j)] w Q ↔ Q (some (.int (tABOVE j))) w := by
  rw [nX1_above]
  match j, hj, h0 with
  | 1, _, _ => simp (decide := true) only [eX1_above_0, eX1_above_1, eX1_above_28, eX1_above_29, eX1_above_30, eX1_above_31, eX1_above_32, eX1_above_33, show nI 1 = 1 from rfl, show tABOVE 1 = 0 from rfl, if_true, if_false]
  | 2, _, _ => simp (decide := true) only [eX1_above_0, eX1_above_1, eX1_above_28, eX1_above_29, eX1_above_30, eX1_above_31, eX1_above_32, eX1_above_33, show nI 2 = 2 from rfl, show tABOVE 2 = 0 from rfl, if_true, if_false]
  | 3, _, _ => simp (decide := true) only [eX1_above_0, eX1_above_1, eX1_above_28, eX1_above_29, eX1_above_30, eX1_above_31, eX1_above_32, eX1_above_33, show nI 3 = 3 from rfl, show tABOVE 3 = 0 from rfl, if_true, if_false]
  | 4, _, _ => simp (decide := true) only [eX1_above_0, eX1_above_1, eX1_above_28, eX1_above_29, eX1_above_30, eX1_above_31, eX1_above_32, eX1_above_33, show nI 4 = 4 from rfl, show tABOVE 4 = 1 from rfl, if_true, if_false]
  | 5, _, _ => simp (decide := true) only [eX1_above_0, eX1_above_1, eX1_above_28, eX1_above_29, eX1_above_30, eX1_above_31, eX1_above_32, eX1_above_33, show nI 5 = 5 from rfl, show tABOVE 5 = 2 from rfl, if_true, if_false]
theorem sX1_isUnder (hx : exOK θ w b) {kd wd : Nat} (hk : kd < 6) (hw : wd < 6) : sg θ (n + 2) 167 [.int (nI kd), .int (nI wd)] w Q ↔ Q (some (.int (bI (underB kd wd)))) w := by
  rw [nX1_isUnder]
  generalize (w.2.1 + 0, w.2.2 + 0) = lim
  have stop : ∀ (x : Nat) (i : Int32) (o0 : Option Value), (x ≤ wd ∨ 5 ≤ i) → (Wp (xX1_isUnder θ (n + 1) lim) Q (4, [o0, some (.int (nI wd)), some (.int (nI x)), some (.int i)], [], w) ↔ Q (some (.int (bI (decide (nI x = nI wd))))) w) := by
    intro x i o0 hs
    rw [eX1_isUnder_4]
    by_cases h5 : (5 : Int32) ≤ i
    · by_cases he : nI x = nI wd <;> simp [eX1_isUnder_0, eX1_isUnder_1, eX1_isUnder_2, eX1_isUnder_3, eX1_isUnder_5, eX1_isUnder_6, eX1_isUnder_9, eX1_isUnder_10, eX1_isUnder_11, eX1_isUnder_14, eX1_isUnder_15, eX1_isUnder_18, eX1_isUnder_19, eX1_isUnder_22, eX1_isUnder_25, eX1_isUnder_26, eX1_isUnder_27, eX1_isUnder_30, eX1_isUnder_31, eX1_isUnder_34, eX1_isUnder_35, h5, he, bI, nb_0, nb_1]
    · have hx : nI x ≤ nI wd := nI_le (by rcases hs with q | q; · exact q
                                          · exact absurd q h5) (by omega)
      by_cases he : nI x = nI wd <;> simp [eX1_isUnder_0, eX1_isUnder_1, eX1_isUnder_2, eX1_isUnder_3, eX1_isUnder_5, eX1_isUnder_6, eX1_isUnder_9, eX1_isUnder_10, eX1_isUnder_11, eX1_isUnder_14, eX1_isUnder_15, eX1_isUnder_18, eX1_isUnder_19, eX1_isUnder_22, eX1_isUnder_25, eX1_isUnder_26, eX1_isUnder_27, eX1_isUnder_30, eX1_isUnder_31, eX1_isUnder_34, eX1_isUnder_35, h5, hx, he, bI, nb_0, nb_1]
  have more : ∀ (x : Nat) (i : Int32) (o0 : Option Value), wd < x → x < 6 → ¬ (5 : Int32) ≤ i → (Wp (xX1_isUnder θ (n + 1) lim) Q (4, [o0, some (.int (nI wd)), some (.int (nI x)), some (.int i)], [], w) ↔ Wp (xX1_isUnder θ (n + 1) lim) Q (4, [o0, some (.int (nI wd)), some (.int (tABOVE x)), some (.int (i + 1))], [], w)) := by
    intro x i o0 hlt h6 h5
    conv => lhs; rw [eX1_isUnder_4]
    have ha := fun n Q => sX1_above (θ := θ) (n := n) (w := w) (Q := Q) h6 (show 0 < x by omega)
    simp only [eX1_isUnder_0, eX1_isUnder_1, eX1_isUnder_2, eX1_isUnder_3, eX1_isUnder_5, eX1_isUnder_6, eX1_isUnder_9, eX1_isUnder_10, eX1_isUnder_11, eX1_isUnder_14, eX1_isUnder_15, eX1_isUnder_18, eX1_isUnder_19, eX1_isUnder_22, eX1_isUnder_25, eX1_isUnder_26, eX1_isUnder_27, eX1_isUnder_30, eX1_isUnder_31, eX1_isUnder_34, eX1_isUnder_35, h5, if_false, nI_ge hlt (show x < 2 ^ 31 by omega), ha, Option.toList_some, List.cons_append, List.nil_append]
  simp only [eX1_isUnder_0, eX1_isUnder_1, eX1_isUnder_2, eX1_isUnder_3, eX1_isUnder_5, eX1_isUnder_6, eX1_isUnder_9, eX1_isUnder_10, eX1_isUnder_11, eX1_isUnder_14, eX1_isUnder_15, eX1_isUnder_18, eX1_isUnder_19, eX1_isUnder_22, eX1_isUnder_25, eX1_isUnder_26, eX1_isUnder_27, eX1_isUnder_30, eX1_isUnder_31, eX1_isUnder_34, eX1_isUnder_35]
  have a1 : tABOVE 1 = nI 0 := by decide
  have a2 : tABOVE 2 = nI 0 := by decide
  have a3 : tABOVE 3 = nI 0 := by decide
  have a4 : tABOVE 4 = nI 1 := by decide
  have a5 : tABOVE 5 = nI 2 := by decide
  have hk6 : kd = 0 ∨ kd = 1 ∨ kd = 2 ∨ kd = 3 ∨ kd = 4 ∨ kd = 5 := by omega
  have hw6 : wd = 0 ∨ wd = 1 ∨ wd = 2 ∨ wd = 3 ∨ wd = 4 ∨ wd = 5 := by omega
  rcases hk6 with rfl | rfl | rfl | rfl | rfl | rfl <;> rcases hw6 with rfl | rfl | rfl | rfl | rfl | rfl
  · rw [stop 0 0 _ (Or.inl (by decide))]; exact Iff.of_eq (congrArg (fun z => Q (some (.int z)) w) (by decide))
  · rw [stop 0 0 _ (Or.inl (by decide))]; exact Iff.of_eq (congrArg (fun z => Q (some (.int z)) w) (by decide))
  · rw [stop 0 0 _ (Or.inl (by decide))]; exact Iff.of_eq (congrArg (fun z => Q (some (.int z)) w) (by decide))
  · rw [stop 0 0 _ (Or.inl (by decide))]; exact Iff.of_eq (congrArg (fun z => Q (some (.int z)) w) (by decide))
  · rw [stop 0 0 _ (Or.inl (by decide))]; exact Iff.of_eq (congrArg (fun z => Q (some (.int z)) w) (by decide))
  · rw [stop 0 0 _ (Or.inl (by decide))]; exact Iff.of_eq (congrArg (fun z => Q (some (.int z)) w) (by decide))
  · rw [more 1 0 _ (by decide) (by decide) (by decide), a1]; rw [stop 0 (0 + 1) _ (Or.inl (by decide))]; exact Iff.of_eq (congrArg (fun z => Q (some (.int z)) w) (by decide))
  · rw [stop 1 0 _ (Or.inl (by decide))]; exact Iff.of_eq (congrArg (fun z => Q (some (.int z)) w) (by decide))
  · rw [stop 1 0 _ (Or.inl (by decide))]; exact Iff.of_eq (congrArg (fun z => Q (some (.int z)) w) (by decide))
  · rw [stop 1 0 _ (Or.inl (by decide))]; exact Iff.of_eq (congrArg (fun z => Q (some (.int z)) w) (by decide))
  · rw [stop 1 0 _ (Or.inl (by decide))]; exact Iff.of_eq (congrArg (fun z => Q (some (.int z)) w) (by decide))
  · rw [stop 1 0 _ (Or.inl (by decide))]; exact Iff.of_eq (congrArg (fun z => Q (some (.int z)) w) (by decide))
  · rw [more 2 0 _ (by decide) (by decide) (by decide), a2]; rw [stop 0 (0 + 1) _ (Or.inl (by decide))]; exact Iff.of_eq (congrArg (fun z => Q (some (.int z)) w) (by decide))
  · rw [more 2 0 _ (by decide) (by decide) (by decide), a2]; rw [stop 0 (0 + 1) _ (Or.inl (by decide))]; exact Iff.of_eq (congrArg (fun z => Q (some (.int z)) w) (by decide))
  · rw [stop 2 0 _ (Or.inl (by decide))]; exact Iff.of_eq (congrArg (fun z => Q (some (.int z)) w) (by decide))
  · rw [stop 2 0 _ (Or.inl (by decide))]; exact Iff.of_eq (congrArg (fun z => Q (some (.int z)) w) (by decide))
  · rw [stop 2 0 _ (Or.inl (by decide))]; exact Iff.of_eq (congrArg (fun z => Q (some (.int z)) w) (by decide))
  · rw [stop 2 0 _ (Or.inl (by decide))]; exact Iff.of_eq (congrArg (fun z => Q (some (.int z)) w) (by decide))
  · rw [more 3 0 _ (by decide) (by decide) (by decide), a3]; rw [stop 0 (0 + 1) _ (Or.inl (by decide))]; exact Iff.of_eq (congrArg (fun z => Q (some (.int z)) w) (by decide))
  · rw [more 3 0 _ (by decide) (by decide) (by decide), a3]; rw [stop 0 (0 + 1) _ (Or.inl (by decide))]; exact Iff.of_eq (congrArg (fun z => Q (some (.int z)) w) (by decide))
  · rw [more 3 0 _ (by decide) (by decide) (by decide), a3]; rw [stop 0 (0 + 1) _ (Or.inl (by decide))]; exact Iff.of_eq (congrArg (fun z => Q (some (.int z)) w) (by decide))
  · rw [stop 3 0 _ (Or.inl (by decide))]; exact Iff.of_eq (congrArg (fun z => Q (some (.int z)) w) (by decide))
  · rw [stop 3 0 _ (Or.inl (by decide))]; exact Iff.of_eq (congrArg (fun z => Q (some (.int z)) w) (by decide))
  · rw [stop 3 0 _ (Or.inl (by decide))]; exact Iff.of_eq (congrArg (fun z => Q (some (.int z)) w) (by decide))
  · rw [more 4 0 _ (by decide) (by decide) (by decide), a4]; rw [more 1 (0 + 1) _ (by decide) (by decide) (by decide), a1]; rw [stop 0 (0 + 1 + 1) _ (Or.inl (by decide))]; exact Iff.of_eq (congrArg (fun z => Q (some (.int z)) w) (by decide))
  · rw [more 4 0 _ (by decide) (by decide) (by decide), a4]; rw [stop 1 (0 + 1) _ (Or.inl (by decide))]; exact Iff.of_eq (congrArg (fun z => Q (some (.int z)) w) (by decide))
  · rw [more 4 0 _ (by decide) (by decide) (by decide), a4]; rw [stop 1 (0 + 1) _ (Or.inl (by decide))]; exact Iff.of_eq (congrArg (fun z => Q (some (.int z)) w) (by decide))
  · rw [more 4 0 _ (by decide) (by decide) (by decide), a4]; rw [stop 1 (0 + 1) _ (Or.inl (by decide))]; exact Iff.of_eq (congrArg (fun z => Q (some (.int z)) w) (by decide))
  · rw [stop 4 0 _ (Or.inl (by decide))]; exact Iff.of_eq (congrArg (fun z => Q (some (.int z)) w) (by decide))
  · rw [stop 4 0 _ (Or.inl (by decide))]; exact Iff.of_eq (congrArg (fun z => Q (some (.int z)) w) (by decide))
  · rw [more 5 0 _ (by decide) (by decide) (by decide), a5]; rw [more 2 (0 + 1) _ (by decide) (by decide) (by decide), a2]; rw [stop 0 (0 + 1 + 1) _ (Or.inl (by decide))]; exact Iff.of_eq (congrArg (fun z => Q (some (.int z)) w) (by decide))
  · rw [more 5 0 _ (by decide) (by decide) (by decide), a5]; rw [more 2 (0 + 1) _ (by decide) (by decide) (by decide), a2]; rw [stop 0 (0 + 1 + 1) _ (Or.inl (by decide))]; exact Iff.of_eq (congrArg (fun z => Q (some (.int z)) w) (by decide))
  · rw [more 5 0 _ (by decide) (by decide) (by decide), a5]; rw [stop 2 (0 + 1) _ (Or.inl (by decide))]; exact Iff.of_eq (congrArg (fun z => Q (some (.int z)) w) (by decide))
  · rw [more 5 0 _ (by decide) (by decide) (by decide), a5]; rw [stop 2 (0 + 1) _ (Or.inl (by decide))]; exact Iff.of_eq (congrArg (fun z => Q (some (.int z)) w) (by decide))
  · rw [more 5 0 _ (by decide) (by decide) (by decide), a5]; rw [stop 2 (0 + 1) _ (Or.inl (by decide))]; exact Iff.of_eq (congrArg (fun z => Q (some (.int z)) w) (by decide))
  · rw [stop 5 0 _ (Or.inl (by decide))]; exact Iff.of_eq (congrArg (fun z => Q (some (.int z)) w) (by decide))
end T26
