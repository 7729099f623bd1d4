section T41
variable {θ : (Nat → Value) × (Nat → Nat)} {n : Nat} {w : rW} {b : Nat} {P A K : rR} {kp : Int32} {tp : Nat → Int32} {tl rs re : Int32} {sh : rSh} {fd : Nat → Int32} {Q : rQ}
theorem pX0_isThrough {i : Nat} (hi : i < 8) : sg θ (n + 1) 3 [.ref (b + 1), .int (nI i)] (cW w b P A K kp tp tl rs re sh fd) Q ↔ Q (some (.int (bI (thru P i)))) (cW w b P A K kp tp tl rs re sh fd) := by
  have h := sX0_isThrough (θ := θ) (n := n) (Q := Q) (w := cW w b P A K kp tp tl rs re sh fd) (k := b + 1) (r := P) hi
  simp only [cw_P] at h
  exact h
theorem pX0_throughSet {m : Nat} (hm : P 2 = nI m) (h8 : m ≤ 8) : sg θ (n + 2) 18 [.ref (b + 1)] (cW w b P A K kp tp tl rs re sh fd) Q ↔ Q (some (.int (thruUp P m))) (cW w b P A K kp tp tl rs re sh fd) := by
  have h := sX0_throughSet (θ := θ) (n := n) (Q := Q) (w := cW w b P A K kp tp tl rs re sh fd) (k := b + 1) (r := P) hm h8
  simp only [cw_P] at h
  exact h
theorem pX0_sum {m c : Nat} (hm : P 2 = nI m) (h8 : m ≤ 8) (hc : c < 7) : sg θ (n + 2) 19 [.ref (b + 1), .int (nI c)] (cW w b P A K kp tp tl rs re sh fd) Q ↔ Q (some (.int (sumUp P c m))) (cW w b P A K kp tp tl rs re sh fd) := by
  have h := sX0_sum (θ := θ) (n := n) (Q := Q) (w := cW w b P A K kp tp tl rs re sh fd) (k := b + 1) (r := P) hm h8 hc
  simp only [cw_P] at h
  exact h
theorem pX0_put {i c : Nat} {x : Int32} (hi : i < 8) (hc : c < 7) : sg θ (n + 2) 9 [.ref (b + 1), .int (nI i), .int (nI c), .int x] (cW w b P A K kp tp tl rs re sh fd) Q ↔ Q (some (.int (its P i c))) (cW w b (upd P (3 + 7 * i + c) x) A K kp tp tl rs re sh fd) := by
  have h := sX0_put (θ := θ) (n := n) (Q := Q) (w := cW w b P A K kp tp tl rs re sh fd) (k := b + 1) (r := P) (x := x) hi hc
  simp only [cw_P] at h
  exact h
theorem pX0_passMinute (hx : exOK θ w b) {m : Nat} (hk : kOK P m) : sg θ (n + 5) 12 [.ref (b + 1)] (cW w b P A K kp tp tl rs re sh fd) Q ↔ Q none (cW w b (minR m P) A K kp tp tl rs re sh fd) := by
  have h := sX0_passMinute (θ := θ) (n := n) (Q := Q) (w := cW w b P A K kp tp tl rs re sh fd) (k := b + 1) (r := P) (cw_ex hx) (by omega) hk
  simp only [cw_P] at h
  exact h
theorem pX0_passMinutes (hx : exOK θ w b) {m : Nat} (hk : kOK P m) {p : Int32} : sg θ (n + 6) 11 [.ref (b + 1), .int p] (cW w b P A K kp tp tl rs re sh fd) Q ↔ Q none (cW w b (minsR m p.toNatClampNeg P) A K kp tp tl rs re sh fd) := by
  have h := sX0_passMinutes (θ := θ) (n := n) (Q := Q) (w := cW w b P A K kp tp tl rs re sh fd) (k := b + 1) (r := P) (p := p) (cw_ex hx) (by omega) hk
  simp only [cw_P] at h
  exact h
theorem pX0_minutesTillThrough (hx : exOK θ w b) {m i l : Nat} (hk : kOK P m) (hi : i < m) (hl : l < 2 ^ 31) : sg θ (n + 6) 21 [.ref (b + 1), .int (nI i), .int (nI l)] (cW w b P A K kp tp tl rs re sh fd) Q ↔ Q (some (.int (nI (tillR m i l P)))) (cW w b (tillW m i l P) A K kp tp tl rs re sh fd) := by
  have h := sX0_minutesTillThrough (θ := θ) (n := n) (Q := Q) (w := cW w b P A K kp tp tl rs re sh fd) (k := b + 1) (r := P) (cw_ex hx) (by omega) hk hi hl
  simp only [cw_P] at h
  exact h
theorem pX0_distanceSeen (hx : exOK θ w b) {i j kd : Nat} (hi : i < 8) (hj : j < 8) (hkd : kd < 6) (hk : its P i 0 = nI kd) : sg θ (n + 2) 6 [.ref (b + 1), .int (nI i), .int (nI j)] (cW w b P A K kp tp tl rs re sh fd) Q ↔ Q (some (.int (if seesP P i j then dst P i j else 0))) (cW w b P A K kp tp tl rs re sh fd) := by
  have h := sX0_distanceSeen (θ := θ) (n := n) (Q := Q) (w := cW w b P A K kp tp tl rs re sh fd) (k := b + 1) (r := P) (cw_ex hx) (by omega) hi hj hkd hk
  simp only [cw_P] at h
  exact h
theorem aX0_isThrough {i : Nat} (hi : i < 8) : sg θ (n + 1) 3 [.ref (b + 9), .int (nI i)] (cW w b P A K kp tp tl rs re sh fd) Q ↔ Q (some (.int (bI (thru A i)))) (cW w b P A K kp tp tl rs re sh fd) := by
  have h := sX0_isThrough (θ := θ) (n := n) (Q := Q) (w := cW w b P A K kp tp tl rs re sh fd) (k := b + 9) (r := A) hi
  simp only [cw_A] at h
  exact h
theorem aX0_throughSet {m : Nat} (hm : A 2 = nI m) (h8 : m ≤ 8) : sg θ (n + 2) 18 [.ref (b + 9)] (cW w b P A K kp tp tl rs re sh fd) Q ↔ Q (some (.int (thruUp A m))) (cW w b P A K kp tp tl rs re sh fd) := by
  have h := sX0_throughSet (θ := θ) (n := n) (Q := Q) (w := cW w b P A K kp tp tl rs re sh fd) (k := b + 9) (r := A) hm h8
  simp only [cw_A] at h
  exact h
theorem aX0_sum {m c : Nat} (hm : A 2 = nI m) (h8 : m ≤ 8) (hc : c < 7) : sg θ (n + 2) 19 [.ref (b + 9), .int (nI c)] (cW w b P A K kp tp tl rs re sh fd) Q ↔ Q (some (.int (sumUp A c m))) (cW w b P A K kp tp tl rs re sh fd) := by
  have h := sX0_sum (θ := θ) (n := n) (Q := Q) (w := cW w b P A K kp tp tl rs re sh fd) (k := b + 9) (r := A) hm h8 hc
  simp only [cw_A] at h
  exact h
theorem aX0_put {i c : Nat} {x : Int32} (hi : i < 8) (hc : c < 7) : sg θ (n + 2) 9 [.ref (b + 9), .int (nI i), .int (nI c), .int x] (cW w b P A K kp tp tl rs re sh fd) Q ↔ Q (some (.int (its A i c))) (cW w b P (upd A (3 + 7 * i + c) x) K kp tp tl rs re sh fd) := by
  have h := sX0_put (θ := θ) (n := n) (Q := Q) (w := cW w b P A K kp tp tl rs re sh fd) (k := b + 9) (r := A) (x := x) hi hc
  simp only [cw_A] at h
  exact h
theorem aX0_passMinute (hx : exOK θ w b) {m : Nat} (hk : kOK A m) : sg θ (n + 5) 12 [.ref (b + 9)] (cW w b P A K kp tp tl rs re sh fd) Q ↔ Q none (cW w b P (minR m A) K kp tp tl rs re sh fd) := by
  have h := sX0_passMinute (θ := θ) (n := n) (Q := Q) (w := cW w b P A K kp tp tl rs re sh fd) (k := b + 9) (r := A) (cw_ex hx) (by omega) hk
  simp only [cw_A] at h
  exact h
theorem aX0_passMinutes (hx : exOK θ w b) {m : Nat} (hk : kOK A m) {p : Int32} : sg θ (n + 6) 11 [.ref (b + 9), .int p] (cW w b P A K kp tp tl rs re sh fd) Q ↔ Q none (cW w b P (minsR m p.toNatClampNeg A) K kp tp tl rs re sh fd) := by
  have h := sX0_passMinutes (θ := θ) (n := n) (Q := Q) (w := cW w b P A K kp tp tl rs re sh fd) (k := b + 9) (r := A) (p := p) (cw_ex hx) (by omega) hk
  simp only [cw_A] at h
  exact h
theorem aX0_minutesTillThrough (hx : exOK θ w b) {m i l : Nat} (hk : kOK A m) (hi : i < m) (hl : l < 2 ^ 31) : sg θ (n + 6) 21 [.ref (b + 9), .int (nI i), .int (nI l)] (cW w b P A K kp tp tl rs re sh fd) Q ↔ Q (some (.int (nI (tillR m i l A)))) (cW w b P (tillW m i l A) K kp tp tl rs re sh fd) := by
  have h := sX0_minutesTillThrough (θ := θ) (n := n) (Q := Q) (w := cW w b P A K kp tp tl rs re sh fd) (k := b + 9) (r := A) (cw_ex hx) (by omega) hk hi hl
  simp only [cw_A] at h
  exact h
theorem aX0_distanceSeen (hx : exOK θ w b) {i j kd : Nat} (hi : i < 8) (hj : j < 8) (hkd : kd < 6) (hk : its A i 0 = nI kd) : sg θ (n + 2) 6 [.ref (b + 9), .int (nI i), .int (nI j)] (cW w b P A K kp tp tl rs re sh fd) Q ↔ Q (some (.int (if seesP A i j then dst A i j else 0))) (cW w b P A K kp tp tl rs re sh fd) := by
  have h := sX0_distanceSeen (θ := θ) (n := n) (Q := Q) (w := cW w b P A K kp tp tl rs re sh fd) (k := b + 9) (r := A) (cw_ex hx) (by omega) hi hj hkd hk
  simp only [cw_A] at h
  exact h
theorem pX0_seenBy (hx : exOK θ w b) {m i : Nat} (hk : kOK P m) (hi : i < m) : sg θ (n + 3) 10 [.ref (b + 1), .int (nI i)] (cW w b P A K kp tp tl rs re sh fd) Q ↔ Q (some (.int (seenUp P i m))) (cW w b P A K kp tp tl rs re sh fd) := by
  have h := sX0_seenBy (θ := θ) (n := n) (Q := Q) (w := cW w b P A K kp tp tl rs re sh fd) (k := b + 1) (r := P) (cw_ex hx) (by omega) hk hi
  simp only [cw_P] at h
  exact h
theorem pX0_leaderOf (hx : exOK θ w b) {m i : Nat} (hk : kOK P m) (hi : i < m) : sg θ (n + 3) 5 [.ref (b + 1), .int (nI i)] (cW w b P A K kp tp tl rs re sh fd) Q ↔ Q (some (.int (leadUp P i m).1)) (cW w b P A K kp tp tl rs re sh fd) := by
  have h := sX0_leaderOf (θ := θ) (n := n) (Q := Q) (w := cW w b P A K kp tp tl rs re sh fd) (k := b + 1) (r := P) (cw_ex hx) (by omega) hk hi
  simp only [cw_P] at h
  exact h
theorem pX0_placesToGo (hx : exOK θ w b) {m i : Nat} (hk : kOK P m) (hi : i < m) : sg θ (n + 4) 4 [.ref (b + 1), .int (nI i)] (cW w b P A K kp tp tl rs re sh fd) Q ↔ Q (some (.int (goesAt P i m))) (cW w b P A K kp tp tl rs re sh fd) := by
  have h := sX0_placesToGo (θ := θ) (n := n) (Q := Q) (w := cW w b P A K kp tp tl rs re sh fd) (k := b + 1) (r := P) (cw_ex hx) (by omega) hk hi
  simp only [cw_P] at h
  exact h
theorem pX0_isFull  : sg θ (n + 1) 1 [.ref (b + 1)] (cW w b P A K kp tp tl rs re sh fd) Q ↔ Q (some (.int (bI (decide (8 ≤ P 2))))) (cW w b P A K kp tp tl rs re sh fd) := by
  have h := sX0_isFull (θ := θ) (n := n) (Q := Q) (w := cW w b P A K kp tp tl rs re sh fd) (k := b + 1) (r := P) 
  simp only [cw_P] at h
  exact h
theorem aX0_isFull  : sg θ (n + 1) 1 [.ref (b + 9)] (cW w b P A K kp tp tl rs re sh fd) Q ↔ Q (some (.int (bI (decide (8 ≤ A 2))))) (cW w b P A K kp tp tl rs re sh fd) := by
  have h := sX0_isFull (θ := θ) (n := n) (Q := Q) (w := cW w b P A K kp tp tl rs re sh fd) (k := b + 9) (r := A) 
  simp only [cw_A] at h
  exact h
theorem pX0_tramPlace  : sg θ (n + 1) 17 [.ref (b + 1)] (cW w b P A K kp tp tl rs re sh fd) Q ↔ Q (some (.int (4 * P 0 - 4 * P 0 / 100 * 100))) (cW w b P A K kp tp tl rs re sh fd) := by
  have h := sX0_tramPlace (θ := θ) (n := n) (Q := Q) (w := cW w b P A K kp tp tl rs re sh fd) (k := b + 1) (r := P) 
  simp only [cw_P] at h
  exact h
theorem pX0_add {m : Nat} (hm : P 2 = nI m) (h8 : m < 8) {kd pl : Int32} : sg θ (n + 1) 2 [.ref (b + 1), .int kd, .int pl] (cW w b P A K kp tp tl rs re sh fd) Q ↔ Q (some (.int (nI m))) (cW w b (addR P m kd pl) A K kp tp tl rs re sh fd) := by
  have h := sX0_add (θ := θ) (n := n) (Q := Q) (w := cW w b P A K kp tp tl rs re sh fd) (k := b + 1) (r := P) (kd := kd) (pl := pl) hm h8
  simp only [cw_P] at h
  exact h
theorem aX0_add {m : Nat} (hm : A 2 = nI m) (h8 : m < 8) {kd pl : Int32} : sg θ (n + 1) 2 [.ref (b + 9), .int kd, .int pl] (cW w b P A K kp tp tl rs re sh fd) Q ↔ Q (some (.int (nI m))) (cW w b P (addR A m kd pl) K kp tp tl rs re sh fd) := by
  have h := sX0_add (θ := θ) (n := n) (Q := Q) (w := cW w b P A K kp tp tl rs re sh fd) (k := b + 9) (r := A) (kd := kd) (pl := pl) hm h8
  simp only [cw_A] at h
  exact h
theorem pX0_row {c : Nat} (hc : c < 7) : sg θ (n + 1) 7 [.ref (b + 1), .int (nI c)] (cW w b P A K kp tp tl rs re sh fd) Q ↔ Q (some (.ref (b + 1 + 1 + c))) (cW w b P A K kp tp tl rs re sh fd) := by
  have h := sX0_row (θ := θ) (n := n) (Q := Q) (w := cW w b P A K kp tp tl rs re sh fd) (k := b + 1) (r := P) hc
  simp only [cw_P] at h
  exact h
theorem cpAP : sg θ (n + 2) 20 [.ref (b + 9), .ref (b + 1)] (cW w b P A K kp tp tl rs re sh fd) Q ↔ Q none (cW w b P P K kp tp tl rs re sh fd) := by
  have h := sX0_copyFrom (θ := θ) (n := n) (Q := Q) (w := cW w b P A K kp tp tl rs re sh fd) (k := b + 9) (k2 := b + 1) (r := A) (s := P) (by omega)
  simp only [cw_P, cw_A, cw_K] at h
  exact h
theorem cpKP : sg θ (n + 2) 20 [.ref (b + 17), .ref (b + 1)] (cW w b P A K kp tp tl rs re sh fd) Q ↔ Q none (cW w b P A P kp tp tl rs re sh fd) := by
  have h := sX0_copyFrom (θ := θ) (n := n) (Q := Q) (w := cW w b P A K kp tp tl rs re sh fd) (k := b + 17) (k2 := b + 1) (r := K) (s := P) (by omega)
  simp only [cw_P, cw_A, cw_K] at h
  exact h
theorem cpPK : sg θ (n + 2) 20 [.ref (b + 1), .ref (b + 17)] (cW w b P A K kp tp tl rs re sh fd) Q ↔ Q none (cW w b K A K kp tp tl rs re sh fd) := by
  have h := sX0_copyFrom (θ := θ) (n := n) (Q := Q) (w := cW w b P A K kp tp tl rs re sh fd) (k := b + 1) (k2 := b + 17) (r := P) (s := K) (by omega)
  simp only [cw_P, cw_A, cw_K] at h
  exact h
theorem cpPA : sg θ (n + 2) 20 [.ref (b + 1), .ref (b + 9)] (cW w b P A K kp tp tl rs re sh fd) Q ↔ Q none (cW w b A A K kp tp tl rs re sh fd) := by
  have h := sX0_copyFrom (θ := θ) (n := n) (Q := Q) (w := cW w b P A K kp tp tl rs re sh fd) (k := b + 1) (k2 := b + 9) (r := P) (s := A) (by omega)
  simp only [cw_P, cw_A, cw_K] at h
  exact h
theorem p_f0 : rF (cW w b P A K kp tp tl rs re sh fd) (b + 1) 0 0 = some (.int (P 0)) := by rw [← cw_P (P := P) (r := P)]; exact av_f0
theorem p_f1 : rF (cW w b P A K kp tp tl rs re sh fd) (b + 1) 0 1 = some (.int (P 1)) := by rw [← cw_P (P := P) (r := P)]; exact av_f1
theorem p_f2 : rF (cW w b P A K kp tp tl rs re sh fd) (b + 1) 0 2 = some (.int (P 2)) := by rw [← cw_P (P := P) (r := P)]; exact av_f2
theorem p_f3 : rF (cW w b P A K kp tp tl rs re sh fd) (b + 1) 0 3 = some (.ref (b + 2)) := by rw [← cw_P (P := P) (r := P)]; exact av_f3
theorem p_f4 : rF (cW w b P A K kp tp tl rs re sh fd) (b + 1) 0 4 = some (.ref (b + 3)) := by rw [← cw_P (P := P) (r := P)]; exact av_f4
theorem p_f5 : rF (cW w b P A K kp tp tl rs re sh fd) (b + 1) 0 5 = some (.ref (b + 4)) := by rw [← cw_P (P := P) (r := P)]; exact av_f5
theorem p_f6 : rF (cW w b P A K kp tp tl rs re sh fd) (b + 1) 0 6 = some (.ref (b + 5)) := by rw [← cw_P (P := P) (r := P)]; exact av_f6
theorem p_f7 : rF (cW w b P A K kp tp tl rs re sh fd) (b + 1) 0 7 = some (.ref (b + 6)) := by rw [← cw_P (P := P) (r := P)]; exact av_f7
theorem p_f8 : rF (cW w b P A K kp tp tl rs re sh fd) (b + 1) 0 8 = some (.ref (b + 7)) := by rw [← cw_P (P := P) (r := P)]; exact av_f8
theorem p_f9 : rF (cW w b P A K kp tp tl rs re sh fd) (b + 1) 0 9 = some (.ref (b + 8)) := by rw [← cw_P (P := P) (r := P)]; exact av_f9
theorem p_n0 : rGn (cW w b P A K kp tp tl rs re sh fd) (b + 2) = 8 := by rw [← cw_P (P := P) (r := P)]; exact av_n0
theorem p_w0 : rWn (cW w b P A K kp tp tl rs re sh fd) (b + 2) = 8 := by rw [← cw_P (P := P) (r := P)]; exact av_w0
theorem p_v0 : rGv (cW w b P A K kp tp tl rs re sh fd) (b + 2) = avRow P 0 := by rw [← cw_P (P := P) (r := P)]; exact av_v0
theorem p_s0 {j : Nat} {x : Int32} (hj : j < 8) : rSi (cW w b P A K kp tp tl rs re sh fd) (b + 2) j x = cW w b (upd P (3 + 7 * j + 0) x) A K kp tp tl rs re sh fd := by
  have h := av_s0 (w := cW w b P A K kp tp tl rs re sh fd) (k := b + 1) (r := P) (x := x) hj
  simp only [cw_P] at h
  exact h
theorem p_n1 : rGn (cW w b P A K kp tp tl rs re sh fd) (b + 3) = 8 := by rw [← cw_P (P := P) (r := P)]; exact av_n1
theorem p_w1 : rWn (cW w b P A K kp tp tl rs re sh fd) (b + 3) = 8 := by rw [← cw_P (P := P) (r := P)]; exact av_w1
theorem p_v1 : rGv (cW w b P A K kp tp tl rs re sh fd) (b + 3) = avRow P 1 := by rw [← cw_P (P := P) (r := P)]; exact av_v1
theorem p_s1 {j : Nat} {x : Int32} (hj : j < 8) : rSi (cW w b P A K kp tp tl rs re sh fd) (b + 3) j x = cW w b (upd P (3 + 7 * j + 1) x) A K kp tp tl rs re sh fd := by
  have h := av_s1 (w := cW w b P A K kp tp tl rs re sh fd) (k := b + 1) (r := P) (x := x) hj
  simp only [cw_P] at h
  exact h
theorem p_n2 : rGn (cW w b P A K kp tp tl rs re sh fd) (b + 4) = 8 := by rw [← cw_P (P := P) (r := P)]; exact av_n2
theorem p_w2 : rWn (cW w b P A K kp tp tl rs re sh fd) (b + 4) = 8 := by rw [← cw_P (P := P) (r := P)]; exact av_w2
theorem p_v2 : rGv (cW w b P A K kp tp tl rs re sh fd) (b + 4) = avRow P 2 := by rw [← cw_P (P := P) (r := P)]; exact av_v2
theorem p_s2 {j : Nat} {x : Int32} (hj : j < 8) : rSi (cW w b P A K kp tp tl rs re sh fd) (b + 4) j x = cW w b (upd P (3 + 7 * j + 2) x) A K kp tp tl rs re sh fd := by
  have h := av_s2 (w := cW w b P A K kp tp tl rs re sh fd) (k := b + 1) (r := P) (x := x) hj
  simp only [cw_P] at h
  exact h
theorem p_n3 : rGn (cW w b P A K kp tp tl rs re sh fd) (b + 5) = 8 := by rw [← cw_P (P := P) (r := P)]; exact av_n3
theorem p_w3 : rWn (cW w b P A K kp tp tl rs re sh fd) (b + 5) = 8 := by rw [← cw_P (P := P) (r := P)]; exact av_w3
theorem p_v3 : rGv (cW w b P A K kp tp tl rs re sh fd) (b + 5) = avRow P 3 := by rw [← cw_P (P := P) (r := P)]; exact av_v3
theorem p_s3 {j : Nat} {x : Int32} (hj : j < 8) : rSi (cW w b P A K kp tp tl rs re sh fd) (b + 5) j x = cW w b (upd P (3 + 7 * j + 3) x) A K kp tp tl rs re sh fd := by
  have h := av_s3 (w := cW w b P A K kp tp tl rs re sh fd) (k := b + 1) (r := P) (x := x) hj
  simp only [cw_P] at h
  exact h
theorem p_n4 : rGn (cW w b P A K kp tp tl rs re sh fd) (b + 6) = 8 := by rw [← cw_P (P := P) (r := P)]; exact av_n4
theorem p_w4 : rWn (cW w b P A K kp tp tl rs re sh fd) (b + 6) = 8 := by rw [← cw_P (P := P) (r := P)]; exact av_w4
theorem p_v4 : rGv (cW w b P A K kp tp tl rs re sh fd) (b + 6) = avRow P 4 := by rw [← cw_P (P := P) (r := P)]; exact av_v4
theorem p_s4 {j : Nat} {x : Int32} (hj : j < 8) : rSi (cW w b P A K kp tp tl rs re sh fd) (b + 6) j x = cW w b (upd P (3 + 7 * j + 4) x) A K kp tp tl rs re sh fd := by
  have h := av_s4 (w := cW w b P A K kp tp tl rs re sh fd) (k := b + 1) (r := P) (x := x) hj
  simp only [cw_P] at h
  exact h
theorem p_n5 : rGn (cW w b P A K kp tp tl rs re sh fd) (b + 7) = 8 := by rw [← cw_P (P := P) (r := P)]; exact av_n5
theorem p_w5 : rWn (cW w b P A K kp tp tl rs re sh fd) (b + 7) = 8 := by rw [← cw_P (P := P) (r := P)]; exact av_w5
theorem p_v5 : rGv (cW w b P A K kp tp tl rs re sh fd) (b + 7) = avRow P 5 := by rw [← cw_P (P := P) (r := P)]; exact av_v5
theorem p_s5 {j : Nat} {x : Int32} (hj : j < 8) : rSi (cW w b P A K kp tp tl rs re sh fd) (b + 7) j x = cW w b (upd P (3 + 7 * j + 5) x) A K kp tp tl rs re sh fd := by
  have h := av_s5 (w := cW w b P A K kp tp tl rs re sh fd) (k := b + 1) (r := P) (x := x) hj
  simp only [cw_P] at h
  exact h
theorem p_n6 : rGn (cW w b P A K kp tp tl rs re sh fd) (b + 8) = 8 := by rw [← cw_P (P := P) (r := P)]; exact av_n6
theorem p_w6 : rWn (cW w b P A K kp tp tl rs re sh fd) (b + 8) = 8 := by rw [← cw_P (P := P) (r := P)]; exact av_w6
theorem p_v6 : rGv (cW w b P A K kp tp tl rs re sh fd) (b + 8) = avRow P 6 := by rw [← cw_P (P := P) (r := P)]; exact av_v6
theorem p_s6 {j : Nat} {x : Int32} (hj : j < 8) : rSi (cW w b P A K kp tp tl rs re sh fd) (b + 8) j x = cW w b (upd P (3 + 7 * j + 6) x) A K kp tp tl rs re sh fd := by
  have h := av_s6 (w := cW w b P A K kp tp tl rs re sh fd) (k := b + 1) (r := P) (x := x) hj
  simp only [cw_P] at h
  exact h
theorem p_p1 {x : Int32} : rPf (cW w b P A K kp tp tl rs re sh fd) (b + 1) 0 1 (.int x) = some (cW w b (upd P 1 x) A K kp tp tl rs re sh fd) := by
  have h := av_p1 (w := cW w b P A K kp tp tl rs re sh fd) (k := b + 1) (r := P) (x := x)
  simp only [cw_P] at h
  exact h
theorem a_f0 : rF (cW w b P A K kp tp tl rs re sh fd) (b + 9) 0 0 = some (.int (A 0)) := by rw [← cw_A (A := A) (r := A)]; exact av_f0
theorem a_f1 : rF (cW w b P A K kp tp tl rs re sh fd) (b + 9) 0 1 = some (.int (A 1)) := by rw [← cw_A (A := A) (r := A)]; exact av_f1
theorem a_f2 : rF (cW w b P A K kp tp tl rs re sh fd) (b + 9) 0 2 = some (.int (A 2)) := by rw [← cw_A (A := A) (r := A)]; exact av_f2
theorem a_f3 : rF (cW w b P A K kp tp tl rs re sh fd) (b + 9) 0 3 = some (.ref (b + 10)) := by rw [← cw_A (A := A) (r := A)]; exact av_f3
theorem a_f4 : rF (cW w b P A K kp tp tl rs re sh fd) (b + 9) 0 4 = some (.ref (b + 11)) := by rw [← cw_A (A := A) (r := A)]; exact av_f4
theorem a_f5 : rF (cW w b P A K kp tp tl rs re sh fd) (b + 9) 0 5 = some (.ref (b + 12)) := by rw [← cw_A (A := A) (r := A)]; exact av_f5
theorem a_f6 : rF (cW w b P A K kp tp tl rs re sh fd) (b + 9) 0 6 = some (.ref (b + 13)) := by rw [← cw_A (A := A) (r := A)]; exact av_f6
theorem a_f7 : rF (cW w b P A K kp tp tl rs re sh fd) (b + 9) 0 7 = some (.ref (b + 14)) := by rw [← cw_A (A := A) (r := A)]; exact av_f7
theorem a_f8 : rF (cW w b P A K kp tp tl rs re sh fd) (b + 9) 0 8 = some (.ref (b + 15)) := by rw [← cw_A (A := A) (r := A)]; exact av_f8
theorem a_f9 : rF (cW w b P A K kp tp tl rs re sh fd) (b + 9) 0 9 = some (.ref (b + 16)) := by rw [← cw_A (A := A) (r := A)]; exact av_f9
theorem a_n0 : rGn (cW w b P A K kp tp tl rs re sh fd) (b + 10) = 8 := by rw [← cw_A (A := A) (r := A)]; exact av_n0
theorem a_w0 : rWn (cW w b P A K kp tp tl rs re sh fd) (b + 10) = 8 := by rw [← cw_A (A := A) (r := A)]; exact av_w0
theorem a_v0 : rGv (cW w b P A K kp tp tl rs re sh fd) (b + 10) = avRow A 0 := by rw [← cw_A (A := A) (r := A)]; exact av_v0
theorem a_s0 {j : Nat} {x : Int32} (hj : j < 8) : rSi (cW w b P A K kp tp tl rs re sh fd) (b + 10) j x = cW w b P (upd A (3 + 7 * j + 0) x) K kp tp tl rs re sh fd := by
  have h := av_s0 (w := cW w b P A K kp tp tl rs re sh fd) (k := b + 9) (r := A) (x := x) hj
  simp only [cw_A] at h
  exact h
theorem a_n1 : rGn (cW w b P A K kp tp tl rs re sh fd) (b + 11) = 8 := by rw [← cw_A (A := A) (r := A)]; exact av_n1
theorem a_w1 : rWn (cW w b P A K kp tp tl rs re sh fd) (b + 11) = 8 := by rw [← cw_A (A := A) (r := A)]; exact av_w1
theorem a_v1 : rGv (cW w b P A K kp tp tl rs re sh fd) (b + 11) = avRow A 1 := by rw [← cw_A (A := A) (r := A)]; exact av_v1
theorem a_s1 {j : Nat} {x : Int32} (hj : j < 8) : rSi (cW w b P A K kp tp tl rs re sh fd) (b + 11) j x = cW w b P (upd A (3 + 7 * j + 1) x) K kp tp tl rs re sh fd := by
  have h := av_s1 (w := cW w b P A K kp tp tl rs re sh fd) (k := b + 9) (r := A) (x := x) hj
  simp only [cw_A] at h
  exact h
theorem a_n2 : rGn (cW w b P A K kp tp tl rs re sh fd) (b + 12) = 8 := by rw [← cw_A (A := A) (r := A)]; exact av_n2
theorem a_w2 : rWn (cW w b P A K kp tp tl rs re sh fd) (b + 12) = 8 := by rw [← cw_A (A := A) (r := A)]; exact av_w2
theorem a_v2 : rGv (cW w b P A K kp tp tl rs re sh fd) (b + 12) = avRow A 2 := by rw [← cw_A (A := A) (r := A)]; exact av_v2
theorem a_s2 {j : Nat} {x : Int32} (hj : j < 8) : rSi (cW w b P A K kp tp tl rs re sh fd) (b + 12) j x = cW w b P (upd A (3 + 7 * j + 2) x) K kp tp tl rs re sh fd := by
  have h := av_s2 (w := cW w b P A K kp tp tl rs re sh fd) (k := b + 9) (r := A) (x := x) hj
  simp only [cw_A] at h
  exact h
theorem a_n3 : rGn (cW w b P A K kp tp tl rs re sh fd) (b + 13) = 8 := by rw [← cw_A (A := A) (r := A)]; exact av_n3
theorem a_w3 : rWn (cW w b P A K kp tp tl rs re sh fd) (b + 13) = 8 := by rw [← cw_A (A := A) (r := A)]; exact av_w3
theorem a_v3 : rGv (cW w b P A K kp tp tl rs re sh fd) (b + 13) = avRow A 3 := by rw [← cw_A (A := A) (r := A)]; exact av_v3
theorem a_s3 {j : Nat} {x : Int32} (hj : j < 8) : rSi (cW w b P A K kp tp tl rs re sh fd) (b + 13) j x = cW w b P (upd A (3 + 7 * j + 3) x) K kp tp tl rs re sh fd := by
  have h := av_s3 (w := cW w b P A K kp tp tl rs re sh fd) (k := b + 9) (r := A) (x := x) hj
  simp only [cw_A] at h
  exact h
theorem a_n4 : rGn (cW w b P A K kp tp tl rs re sh fd) (b + 14) = 8 := by rw [← cw_A (A := A) (r := A)]; exact av_n4
theorem a_w4 : rWn (cW w b P A K kp tp tl rs re sh fd) (b + 14) = 8 := by rw [← cw_A (A := A) (r := A)]; exact av_w4
theorem a_v4 : rGv (cW w b P A K kp tp tl rs re sh fd) (b + 14) = avRow A 4 := by rw [← cw_A (A := A) (r := A)]; exact av_v4
theorem a_s4 {j : Nat} {x : Int32} (hj : j < 8) : rSi (cW w b P A K kp tp tl rs re sh fd) (b + 14) j x = cW w b P (upd A (3 + 7 * j + 4) x) K kp tp tl rs re sh fd := by
  have h := av_s4 (w := cW w b P A K kp tp tl rs re sh fd) (k := b + 9) (r := A) (x := x) hj
  simp only [cw_A] at h
  exact h
theorem a_n5 : rGn (cW w b P A K kp tp tl rs re sh fd) (b + 15) = 8 := by rw [← cw_A (A := A) (r := A)]; exact av_n5
theorem a_w5 : rWn (cW w b P A K kp tp tl rs re sh fd) (b + 15) = 8 := by rw [← cw_A (A := A) (r := A)]; exact av_w5
theorem a_v5 : rGv (cW w b P A K kp tp tl rs re sh fd) (b + 15) = avRow A 5 := by rw [← cw_A (A := A) (r := A)]; exact av_v5
theorem a_s5 {j : Nat} {x : Int32} (hj : j < 8) : rSi (cW w b P A K kp tp tl rs re sh fd) (b + 15) j x = cW w b P (upd A (3 + 7 * j + 5) x) K kp tp tl rs re sh fd := by
  have h := av_s5 (w := cW w b P A K kp tp tl rs re sh fd) (k := b + 9) (r := A) (x := x) hj
  simp only [cw_A] at h
  exact h
theorem a_n6 : rGn (cW w b P A K kp tp tl rs re sh fd) (b + 16) = 8 := by rw [← cw_A (A := A) (r := A)]; exact av_n6
theorem a_w6 : rWn (cW w b P A K kp tp tl rs re sh fd) (b + 16) = 8 := by rw [← cw_A (A := A) (r := A)]; exact av_w6
theorem a_v6 : rGv (cW w b P A K kp tp tl rs re sh fd) (b + 16) = avRow A 6 := by rw [← cw_A (A := A) (r := A)]; exact av_v6
theorem a_s6 {j : Nat} {x : Int32} (hj : j < 8) : rSi (cW w b P A K kp tp tl rs re sh fd) (b + 16) j x = cW w b P (upd A (3 + 7 * j + 6) x) K kp tp tl rs re sh fd := by
  have h := av_s6 (w := cW w b P A K kp tp tl rs re sh fd) (k := b + 9) (r := A) (x := x) hj
  simp only [cw_A] at h
  exact h
theorem a_p1 {x : Int32} : rPf (cW w b P A K kp tp tl rs re sh fd) (b + 9) 0 1 (.int x) = some (cW w b P (upd A 1 x) K kp tp tl rs re sh fd) := by
  have h := av_p1 (w := cW w b P A K kp tp tl rs re sh fd) (k := b + 9) (r := A) (x := x)
  simp only [cw_A] at h
  exact h
end T41
