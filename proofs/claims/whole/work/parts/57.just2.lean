section T57
variable {θ : (Nat → Value) × (Nat → Nat)} {n : Nat} {w : rW} {b : Nat} {P A K : rR} {kp : Int32} {tp : Nat → Int32} {tl rs re : Int32} {sh : rSh} {fd : Nat → Int32} {Q : rQ} {m : Nat}
theorem sX5_isJustSo (hx : exOK θ w b) {s i L : Nat} (hs : s < 4) (hi : i < 8) (hL : L ≤ 40) (eL : (sh s).2.1 = nI L) (hk : kOK A m) : sg θ (n + 6) 77 [.ref b, .ref (b + 28 + 2 * s), .int (nI i)] (cW w b P A K kp tp tl rs re sh fd) Q ↔ Q (some (.int (bI (justB (sh s).2.2 m i L 0 A)))) (cW w b P (justW (sh s).2.2 m i L 0 A) K kp tp tl rs re sh fd) := by
  rw [nX5_isJustSo]
  generalize ((cW w b P A K kp tp tl rs re sh fd).2.1 + 0, (cW w b P A K kp tp tl rs re sh fd).2.2 + 0) = lim
  simp only [eX5_isJustSo_0, eX5_isJustSo_1, eX5_isJustSo_3, eX5_isJustSo_4, eX5_isJustSo_7, eX5_isJustSo_10, eX5_isJustSo_11, eX5_isJustSo_14, eX5_isJustSo_15, eX5_isJustSo_16, eX5_isJustSo_17, eX5_isJustSo_20, eX5_isJustSo_23, eX5_isJustSo_24, eX5_isJustSo_25, eX5_isJustSo_26, eX5_isJustSo_27, eX5_isJustSo_30, eX5_isJustSo_31, eX5_isJustSo_32, eX5_isJustSo_33, eX5_isJustSo_36, eX5_isJustSo_39, eX5_isJustSo_42, eX5_isJustSo_45, eX5_isJustSo_46]
  exact just_loop hx hs hi hL eL L 0 A (by omega) hk
end T57
