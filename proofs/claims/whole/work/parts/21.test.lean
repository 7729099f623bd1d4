section T21
variable {θ : (Nat → Value) × (Nat → Nat)} {n : Nat} {w : rW} {k : Nat} {r : rR} {Q : rQ}
theorem sX0_isThrough {i : Nat} (hi : i < 8) : sg θ (n + 1) 3 [.ref k, .int (nI i)] (avSet w k r) Q ↔ Q (some (.int (b2i (thru r i)))) (avSet w k r) := by
  rw [nX0_isThrough]
  simp only [eX0_isThrough_0, eX0_isThrough_1, eX0_isThrough_4, eX0_isThrough_5, eX0_isThrough_6, eX0_isThrough_7, eX0_isThrough_10, eX0_isThrough_11, eX0_isThrough_12, eX0_isThrough_13, eX0_isThrough_16, eX0_isThrough_18, eX0_isThrough_21, eX0_isThrough_22, eX0_isThrough_25, eX0_isThrough_26, eX0_isThrough_29, eX0_isThrough_30, av_f4, av_f5, Option.elim_some, av_n1, av_n2, av_v1, av_v2, vp8 hi, cl8 hi, avRow_its, true_and]
  by_cases h : its r i 2 = 1 <;> simp [h, b2i, thru, nb_0, nb_1] <;> split <;> simp_all [nb_0, nb_1]
end T21
