/-! the class's whole object: 37 cells from b on -/
abbrev rSh : Type := Nat → Int32 × Int32 × (Nat → Int64)
def cObj (b : Nat) (kp : Int32) : rE := rO 4 [.ref (b + 1), .ref (b + 9), .ref (b + 17), .int kp, .ref (b + 25), .ref (b + 27), .ref (b + 36)]
def cShA (b : Nat) : Nat → Option Nat := fun s => if s < 4 then some (b + 28 + 2 * s) else none
def coSet (w : rW) (b : Nat) (kp : Int32) (tp : Nat → Int32) (tl rs re : Int32) (sh : rSh) (fd : Nat → Int32) : rW := (fun q => if q = b then some (cObj b kp) else if q = b + 25 then some (rO 2 [.int tl, .ref (b + 26), .int rs, .int re]) else if q = b + 26 then some (rBA 120 tp) else if q = b + 27 then some (rRA 4 (cShA b)) else if q = b + 28 then some (rO 1 [.ref (b + 29), .int (sh 0).1, .int (sh 0).2.1]) else if q = b + 29 then some (rLA 40 (sh 0).2.2) else if q = b + 30 then some (rO 1 [.ref (b + 31), .int (sh 1).1, .int (sh 1).2.1]) else if q = b + 31 then some (rLA 40 (sh 1).2.2) else if q = b + 32 then some (rO 1 [.ref (b + 33), .int (sh 2).1, .int (sh 2).2.1]) else if q = b + 33 then some (rLA 40 (sh 2).2.2) else if q = b + 34 then some (rO 1 [.ref (b + 35), .int (sh 3).1, .int (sh 3).2.1]) else if q = b + 35 then some (rLA 40 (sh 3).2.2) else if q = b + 36 then some (rIA 7 fd) else w.1 q, w.2)
def cW (w : rW) (b : Nat) (P A K : rR) (kp : Int32) (tp : Nat → Int32) (tl rs re : Int32) (sh : rSh) (fd : Nat → Int32) : rW := avSet (avSet (avSet (coSet w b kp tp tl rs re sh fd) (b + 17) K) (b + 9) A) (b + 1) P
theorem av_rU {w : rW} {k a : Nat} {r : rR} {e : rE} (h : a < k ∨ k + 8 ≤ a) : rU (avSet w k r) a e = avSet (rU w a e) k r := by
  refine Prod.ext (funext fun q => ?_) rfl
  by_cases hq : q = a
  · subst hq
    rw [av_off (by omega)]
    simp [rU]
  · by_cases hk : k ≤ q ∧ q < k + 8
    · have e1 : (rU (avSet w k r) a e).1 q = (avSet w k r).1 q := by simp [rU, hq]
      rw [e1]
      obtain ⟨d, rfl⟩ : ∃ d, q = k + d := ⟨q - k, by omega⟩
      have hd : d < 8 := by omega
      match d, hd with
      | 0, _ => rw [show k + 0 = k from rfl, av_at, av_at]
      | 1, _ => rw [av_at1, av_at1]
      | 2, _ => rw [av_at2, av_at2]
      | 3, _ => rw [av_at3, av_at3]
      | 4, _ => rw [av_at4, av_at4]
      | 5, _ => rw [av_at5, av_at5]
      | 6, _ => rw [av_at6, av_at6]
      | 7, _ => rw [av_at7, av_at7]
    · rw [av_off (w := rU w a e) (by omega)]
      simp [rU, hq, av_off (w := w) (k := k) (r := r) (q := q) (by omega)]
section CW
variable {w : rW} {b : Nat} {P A K : rR} {kp : Int32} {tp : Nat → Int32} {tl rs re : Int32} {sh : rSh} {fd : Nat → Int32}
theorem cw_2 : (cW w b P A K kp tp tl rs re sh fd).2 = w.2 := rfl
theorem cw_off {q : Nat} (h : q < b ∨ b + 37 ≤ q) : (cW w b P A K kp tp tl rs re sh fd).1 q = w.1 q := by
  unfold cW
  rw [av_off (by omega), av_off (by omega), av_off (by omega)]
  simp only [coSet]
  repeat rw [if_neg (by omega)]
theorem cw_co {q : Nat} (h : q ≤ b ∨ b + 25 ≤ q) : (cW w b P A K kp tp tl rs re sh fd).1 q = (coSet w b kp tp tl rs re sh fd).1 q := by
  unfold cW
  rw [av_off (by omega), av_off (by omega), av_off (by omega)]
/-- the three avenues, each of them outermost -/
theorem cw_P {r : rR} : avSet (cW w b P A K kp tp tl rs re sh fd) (b + 1) r = cW w b r A K kp tp tl rs re sh fd := by
  unfold cW
  rw [av_set]
theorem cw_A {r : rR} : avSet (cW w b P A K kp tp tl rs re sh fd) (b + 9) r = cW w b P r K kp tp tl rs re sh fd := by
  unfold cW
  rw [av_comm (k := b + 1) (k2 := b + 9) (by omega), av_set]
theorem cw_K {r : rR} : avSet (cW w b P A K kp tp tl rs re sh fd) (b + 17) r = cW w b P A r kp tp tl rs re sh fd := by
  unfold cW
  rw [av_comm (k := b + 1) (k2 := b + 17) (by omega), av_comm (k := b + 9) (k2 := b + 17) (by omega), av_set]
theorem cw_rU {a : Nat} {e : rE} (h : a ≤ b ∨ b + 25 ≤ a) {kp' : Int32} {tp' : Nat → Int32} {tl' rs' re' : Int32} {sh' : rSh} {fd' : Nat → Int32} (hc : rU (coSet w b kp tp tl rs re sh fd) a e = coSet w b kp' tp' tl' rs' re' sh' fd') : rU (cW w b P A K kp tp tl rs re sh fd) a e = cW w b P A K kp' tp' tl' rs' re' sh' fd' := by
  unfold cW
  rw [av_rU (by omega), av_rU (by omega), av_rU (by omega), hc]
theorem cw_a0 : (cW w b P A K kp tp tl rs re sh fd).1 b = some (cObj b kp) := by
  rw [cw_co (by omega)]
  simp [coSet]
theorem cw_a25 : (cW w b P A K kp tp tl rs re sh fd).1 (b + 25) = some (rO 2 [.int tl, .ref (b + 26), .int rs, .int re]) := by
  rw [cw_co (by omega)]
  simp [coSet]
theorem cw_a26 : (cW w b P A K kp tp tl rs re sh fd).1 (b + 26) = some (rBA 120 tp) := by
  rw [cw_co (by omega)]
  simp [coSet]
theorem cw_a27 : (cW w b P A K kp tp tl rs re sh fd).1 (b + 27) = some (rRA 4 (cShA b)) := by
  rw [cw_co (by omega)]
  simp [coSet]
theorem cw_a36 : (cW w b P A K kp tp tl rs re sh fd).1 (b + 36) = some (rIA 7 fd) := by
  rw [cw_co (by omega)]
  simp [coSet]
theorem cw_a28 : (cW w b P A K kp tp tl rs re sh fd).1 (b + 28) = some (rO 1 [.ref (b + 29), .int (sh 0).1, .int (sh 0).2.1]) := by
  rw [cw_co (by omega)]
  simp [coSet]
theorem cw_a29 : (cW w b P A K kp tp tl rs re sh fd).1 (b + 29) = some (rLA 40 (sh 0).2.2) := by
  rw [cw_co (by omega)]
  simp [coSet]
theorem cw_a30 : (cW w b P A K kp tp tl rs re sh fd).1 (b + 30) = some (rO 1 [.ref (b + 31), .int (sh 1).1, .int (sh 1).2.1]) := by
  rw [cw_co (by omega)]
  simp [coSet]
theorem cw_a31 : (cW w b P A K kp tp tl rs re sh fd).1 (b + 31) = some (rLA 40 (sh 1).2.2) := by
  rw [cw_co (by omega)]
  simp [coSet]
theorem cw_a32 : (cW w b P A K kp tp tl rs re sh fd).1 (b + 32) = some (rO 1 [.ref (b + 33), .int (sh 2).1, .int (sh 2).2.1]) := by
  rw [cw_co (by omega)]
  simp [coSet]
theorem cw_a33 : (cW w b P A K kp tp tl rs re sh fd).1 (b + 33) = some (rLA 40 (sh 2).2.2) := by
  rw [cw_co (by omega)]
  simp [coSet]
theorem cw_a34 : (cW w b P A K kp tp tl rs re sh fd).1 (b + 34) = some (rO 1 [.ref (b + 35), .int (sh 3).1, .int (sh 3).2.1]) := by
  rw [cw_co (by omega)]
  simp [coSet]
theorem cw_a35 : (cW w b P A K kp tp tl rs re sh fd).1 (b + 35) = some (rLA 40 (sh 3).2.2) := by
  rw [cw_co (by omega)]
  simp [coSet]
theorem cw_is : rIs (cW w b P A K kp tp tl rs re sh fd) b 4 := ⟨_, cw_a0⟩
theorem cw_f0 : rF (cW w b P A K kp tp tl rs re sh fd) b 4 0 = some (.ref (b + 1)) := by simp [rF, cw_a0, cObj]
theorem cw_f1 : rF (cW w b P A K kp tp tl rs re sh fd) b 4 1 = some (.ref (b + 9)) := by simp [rF, cw_a0, cObj]
theorem cw_f2 : rF (cW w b P A K kp tp tl rs re sh fd) b 4 2 = some (.ref (b + 17)) := by simp [rF, cw_a0, cObj]
theorem cw_f3 : rF (cW w b P A K kp tp tl rs re sh fd) b 4 3 = some (.int kp) := by simp [rF, cw_a0, cObj]
theorem cw_f4 : rF (cW w b P A K kp tp tl rs re sh fd) b 4 4 = some (.ref (b + 25)) := by simp [rF, cw_a0, cObj]
theorem cw_f5 : rF (cW w b P A K kp tp tl rs re sh fd) b 4 5 = some (.ref (b + 27)) := by simp [rF, cw_a0, cObj]
theorem cw_f6 : rF (cW w b P A K kp tp tl rs re sh fd) b 4 6 = some (.ref (b + 36)) := by simp [rF, cw_a0, cObj]
theorem cw_kp {x : Int32} : rPf (cW w b P A K kp tp tl rs re sh fd) b 4 3 (.int x) = some (cW w b P A K x tp tl rs re sh fd) := by
  simp only [rPf, cw_a0, cObj]
  refine congrArg some (cw_rU (by omega) (Prod.ext (funext fun q => ?_) rfl))
  simp only [rU, coSet, cObj]
  by_cases h : q = b <;> simp [h]
theorem cw_tis : rIs (cW w b P A K kp tp tl rs re sh fd) (b + 25) 2 := ⟨_, cw_a25⟩
theorem cw_t0 : rF (cW w b P A K kp tp tl rs re sh fd) (b + 25) 2 0 = some (.int tl) := by simp [rF, cw_a25]
theorem cw_t1 : rF (cW w b P A K kp tp tl rs re sh fd) (b + 25) 2 1 = some (.ref (b + 26)) := by simp [rF, cw_a25]
theorem cw_t2 : rF (cW w b P A K kp tp tl rs re sh fd) (b + 25) 2 2 = some (.int rs) := by simp [rF, cw_a25]
theorem cw_t3 : rF (cW w b P A K kp tp tl rs re sh fd) (b + 25) 2 3 = some (.int re) := by simp [rF, cw_a25]
theorem cw_tp {x : Int32} : rPf (cW w b P A K kp tp tl rs re sh fd) (b + 25) 2 0 (.int x) = some (cW w b P A K kp tp x rs re sh fd) := by
  simp only [rPf, cw_a25]
  refine congrArg some (cw_rU (by omega) (Prod.ext (funext fun q => ?_) rfl))
  simp only [rU, coSet]
  by_cases h : q = b + 25 <;> simp [h]
theorem cw_rp1 {x : Int32} : rPf (cW w b P A K kp tp tl rs re sh fd) (b + 25) 2 2 (.int x) = some (cW w b P A K kp tp tl x re sh fd) := by
  simp only [rPf, cw_a25]
  refine congrArg some (cw_rU (by omega) (Prod.ext (funext fun q => ?_) rfl))
  simp only [rU, coSet]
  by_cases h : q = b + 25 <;> simp [h]
theorem cw_rp2 {x : Int32} : rPf (cW w b P A K kp tp tl rs re sh fd) (b + 25) 2 3 (.int x) = some (cW w b P A K kp tp tl rs x sh fd) := by
  simp only [rPf, cw_a25]
  refine congrArg some (cw_rU (by omega) (Prod.ext (funext fun q => ?_) rfl))
  simp only [rU, coSet]
  by_cases h : q = b + 25 <;> simp [h]
theorem cw_bn : rBn (cW w b P A K kp tp tl rs re sh fd) (b + 26) = 120 := by simp [rBn, cw_a26]
theorem cw_bw : rBw (cW w b P A K kp tp tl rs re sh fd) (b + 26) = 120 := by simp [rBw, cw_a26]
theorem cw_bv : rGv (cW w b P A K kp tp tl rs re sh fd) (b + 26) = tp := by simp [rGv, cw_a26]
theorem cw_bs {j : Nat} {x : Int32} : rSb (cW w b P A K kp tp tl rs re sh fd) (b + 26) j x = cW w b P A K kp (upd tp j (vp_nar .byte x)) tl rs re sh fd := by
  simp only [rSb, cw_bw, cw_bv]
  refine cw_rU (by omega) (Prod.ext (funext fun q => ?_) rfl)
  simp only [rU, coSet]
  by_cases h : q = b + 26 <;> simp [h]
theorem cw_rn : rRn (cW w b P A K kp tp tl rs re sh fd) (b + 27) = 4 := by simp [rRn, cw_a27]
theorem cw_rg : rRg (cW w b P A K kp tp tl rs re sh fd) (b + 27) = cShA b := by simp [rRg, cw_a27]
theorem cw_rl : rLen (cW w b P A K kp tp tl rs re sh fd) (b + 27) = some 4 := by simp [rLen, cw_a27]
theorem cw_fn : rGn (cW w b P A K kp tp tl rs re sh fd) (b + 36) = 7 := by simp [rGn, cw_a36]
theorem cw_fw : rWn (cW w b P A K kp tp tl rs re sh fd) (b + 36) = 7 := by simp [rWn, cw_a36]
theorem cw_fv : rGv (cW w b P A K kp tp tl rs re sh fd) (b + 36) = fd := by simp [rGv, cw_a36]
theorem cw_fs {j : Nat} {x : Int32} : rSi (cW w b P A K kp tp tl rs re sh fd) (b + 36) j x = cW w b P A K kp tp tl rs re sh (upd fd j x) := by
  simp only [rSi, cw_fw, cw_fv]
  refine cw_rU (by omega) (Prod.ext (funext fun q => ?_) rfl)
  simp only [rU, coSet]
  by_cases h : q = b + 36 <;> simp [h]
theorem cw_isP : rIs (cW w b P A K kp tp tl rs re sh fd) (b + 1) 0 := by unfold cW; exact av_is
theorem cw_isA : rIs (cW w b P A K kp tp tl rs re sh fd) (b + 9) 0 := by rw [← cw_A (A := A) (r := A)]; exact av_is
theorem cw_isK : rIs (cW w b P A K kp tp tl rs re sh fd) (b + 17) 0 := by rw [← cw_K (K := K) (r := K)]; exact av_is
theorem cw_ex {θ : (Nat → Value) × (Nat → Nat)} (h : exOK θ w b) : exOK θ (cW w b P A K kp tp tl rs re sh fd) b := h.to (fun q hq => cw_off (Or.inl hq))
end CW
