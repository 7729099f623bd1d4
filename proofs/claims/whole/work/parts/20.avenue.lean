/-! an avenue: 59 numbers (minute, trams, how many, then seven for each of eight), as eight cells from a place on -/
abbrev rR : Type := Nat → Int32
def avRow (r : rR) (c : Nat) : Nat → Int32 := fun j => if j < 8 then r (3 + 7 * j + c) else 0
def avObj (k : Nat) (r : rR) : rE := rO 0 [.int (r 0), .int (r 1), .int (r 2), .ref (k + 1), .ref (k + 2), .ref (k + 3), .ref (k + 4), .ref (k + 5), .ref (k + 6), .ref (k + 7)]
def avSet (w : rW) (k : Nat) (r : rR) : rW := (fun q => if q = k then some (avObj k r) else if q = k + 1 then some (rIA 8 (avRow r 0)) else if q = k + 2 then some (rIA 8 (avRow r 1)) else if q = k + 3 then some (rIA 8 (avRow r 2)) else if q = k + 4 then some (rIA 8 (avRow r 3)) else if q = k + 5 then some (rIA 8 (avRow r 4)) else if q = k + 6 then some (rIA 8 (avRow r 5)) else if q = k + 7 then some (rIA 8 (avRow r 6)) else w.1 q, w.2)
section AV
variable {w : rW} {k : Nat} {r : rR}
theorem avRow_up {r : rR} {c c' j : Nat} {x : Int32} (hj : j < 8) (hc : c < 7) (hc' : c' < 7) : avRow (upd r (3 + 7 * j + c) x) c' = if c' = c then upd (avRow r c) j x else avRow r c' := by
  funext q
  by_cases h : c' = c
  · subst h
    rw [if_pos rfl]
    simp only [avRow, upd]
    by_cases hq : q = j
    · subst hq; simp [hj]
    · by_cases h8 : q < 8
      · rw [if_pos h8, if_pos h8, if_neg (by omega), if_neg hq]
      · rw [if_neg h8, if_neg h8, if_neg hq]
  · rw [if_neg h]
    simp only [avRow, upd]
    by_cases h8 : q < 8
    · rw [if_pos h8, if_pos h8, if_neg (by omega)]
    · rw [if_neg h8, if_neg h8]
theorem avRow_lo {r : rR} {c p : Nat} {x : Int32} (hp : p < 3) : avRow (upd r p x) c = avRow r c := by
  funext q
  simp only [avRow, upd]
  by_cases h8 : q < 8
  · rw [if_pos h8, if_pos h8, if_neg (by omega)]
  · rw [if_neg h8, if_neg h8]
theorem av_2 : (avSet w k r).2 = w.2 := rfl
theorem av_at : (avSet w k r).1 k = some (avObj k r) := by simp [avSet]
theorem av_at1 : (avSet w k r).1 (k + 1) = some (rIA 8 (avRow r 0)) := by simp [avSet]
theorem av_at2 : (avSet w k r).1 (k + 2) = some (rIA 8 (avRow r 1)) := by simp [avSet]
theorem av_at3 : (avSet w k r).1 (k + 3) = some (rIA 8 (avRow r 2)) := by simp [avSet]
theorem av_at4 : (avSet w k r).1 (k + 4) = some (rIA 8 (avRow r 3)) := by simp [avSet]
theorem av_at5 : (avSet w k r).1 (k + 5) = some (rIA 8 (avRow r 4)) := by simp [avSet]
theorem av_at6 : (avSet w k r).1 (k + 6) = some (rIA 8 (avRow r 5)) := by simp [avSet]
theorem av_at7 : (avSet w k r).1 (k + 7) = some (rIA 8 (avRow r 6)) := by simp [avSet]
theorem av_is : rIs (avSet w k r) k 0 := ⟨_, av_at⟩
theorem av_f0 : rF (avSet w k r) k 0 0 = some (.int (r 0)) := by simp [rF, av_at, avObj]
theorem av_f1 : rF (avSet w k r) k 0 1 = some (.int (r 1)) := by simp [rF, av_at, avObj]
theorem av_f2 : rF (avSet w k r) k 0 2 = some (.int (r 2)) := by simp [rF, av_at, avObj]
theorem av_f3 : rF (avSet w k r) k 0 3 = some (.ref (k + 1)) := by simp [rF, av_at, avObj]
theorem av_f4 : rF (avSet w k r) k 0 4 = some (.ref (k + 2)) := by simp [rF, av_at, avObj]
theorem av_f5 : rF (avSet w k r) k 0 5 = some (.ref (k + 3)) := by simp [rF, av_at, avObj]
theorem av_f6 : rF (avSet w k r) k 0 6 = some (.ref (k + 4)) := by simp [rF, av_at, avObj]
theorem av_f7 : rF (avSet w k r) k 0 7 = some (.ref (k + 5)) := by simp [rF, av_at, avObj]
theorem av_f8 : rF (avSet w k r) k 0 8 = some (.ref (k + 6)) := by simp [rF, av_at, avObj]
theorem av_f9 : rF (avSet w k r) k 0 9 = some (.ref (k + 7)) := by simp [rF, av_at, avObj]
theorem av_n0 : rGn (avSet w k r) (k + 1) = 8 := by simp [rGn, av_at1]
theorem av_w0 : rWn (avSet w k r) (k + 1) = 8 := by simp [rWn, av_at1]
theorem av_v0 : rGv (avSet w k r) (k + 1) = avRow r 0 := by simp [rGv, av_at1]
theorem av_l0 : rLen (avSet w k r) (k + 1) = some 8 := by simp [rLen, av_at1]
theorem av_s0 {j : Nat} {x : Int32} (hj : j < 8) : rSi (avSet w k r) (k + 1) j x = avSet w k (upd r (3 + 7 * j + 0) x) := by
  have h0 : ∀ p, p < 3 → upd r (3 + 7 * j + 0) x p = r p := fun p hp => by unfold upd; rw [if_neg (by omega)]
  refine Prod.ext (funext fun q => ?_) rfl
  simp only [rSi, av_w0, av_v0, rU]
  simp only [avSet, avObj, h0 0 (by decide), h0 1 (by decide), h0 2 (by decide), avRow_up hj (show 0 < 7 by decide) (show 0 < 7 by decide), avRow_up hj (show 0 < 7 by decide) (show 1 < 7 by decide), avRow_up hj (show 0 < 7 by decide) (show 2 < 7 by decide), avRow_up hj (show 0 < 7 by decide) (show 3 < 7 by decide), avRow_up hj (show 0 < 7 by decide) (show 4 < 7 by decide), avRow_up hj (show 0 < 7 by decide) (show 5 < 7 by decide), avRow_up hj (show 0 < 7 by decide) (show 6 < 7 by decide)]
  by_cases h : q = k + 1
  · subst h; simp
  · simp [h]
theorem av_n1 : rGn (avSet w k r) (k + 2) = 8 := by simp [rGn, av_at2]
theorem av_w1 : rWn (avSet w k r) (k + 2) = 8 := by simp [rWn, av_at2]
theorem av_v1 : rGv (avSet w k r) (k + 2) = avRow r 1 := by simp [rGv, av_at2]
theorem av_l1 : rLen (avSet w k r) (k + 2) = some 8 := by simp [rLen, av_at2]
theorem av_s1 {j : Nat} {x : Int32} (hj : j < 8) : rSi (avSet w k r) (k + 2) j x = avSet w k (upd r (3 + 7 * j + 1) x) := by
  have h0 : ∀ p, p < 3 → upd r (3 + 7 * j + 1) x p = r p := fun p hp => by unfold upd; rw [if_neg (by omega)]
  refine Prod.ext (funext fun q => ?_) rfl
  simp only [rSi, av_w1, av_v1, rU]
  simp only [avSet, avObj, h0 0 (by decide), h0 1 (by decide), h0 2 (by decide), avRow_up hj (show 1 < 7 by decide) (show 0 < 7 by decide), avRow_up hj (show 1 < 7 by decide) (show 1 < 7 by decide), avRow_up hj (show 1 < 7 by decide) (show 2 < 7 by decide), avRow_up hj (show 1 < 7 by decide) (show 3 < 7 by decide), avRow_up hj (show 1 < 7 by decide) (show 4 < 7 by decide), avRow_up hj (show 1 < 7 by decide) (show 5 < 7 by decide), avRow_up hj (show 1 < 7 by decide) (show 6 < 7 by decide)]
  by_cases h : q = k + 2
  · subst h; simp
  · simp [h]
theorem av_n2 : rGn (avSet w k r) (k + 3) = 8 := by simp [rGn, av_at3]
theorem av_w2 : rWn (avSet w k r) (k + 3) = 8 := by simp [rWn, av_at3]
theorem av_v2 : rGv (avSet w k r) (k + 3) = avRow r 2 := by simp [rGv, av_at3]
theorem av_l2 : rLen (avSet w k r) (k + 3) = some 8 := by simp [rLen, av_at3]
theorem av_s2 {j : Nat} {x : Int32} (hj : j < 8) : rSi (avSet w k r) (k + 3) j x = avSet w k (upd r (3 + 7 * j + 2) x) := by
  have h0 : ∀ p, p < 3 → upd r (3 + 7 * j + 2) x p = r p := fun p hp => by unfold upd; rw [if_neg (by omega)]
  refine Prod.ext (funext fun q => ?_) rfl
  simp only [rSi, av_w2, av_v2, rU]
  simp only [avSet, avObj, h0 0 (by decide), h0 1 (by decide), h0 2 (by decide), avRow_up hj (show 2 < 7 by decide) (show 0 < 7 by decide), avRow_up hj (show 2 < 7 by decide) (show 1 < 7 by decide), avRow_up hj (show 2 < 7 by decide) (show 2 < 7 by decide), avRow_up hj (show 2 < 7 by decide) (show 3 < 7 by decide), avRow_up hj (show 2 < 7 by decide) (show 4 < 7 by decide), avRow_up hj (show 2 < 7 by decide) (show 5 < 7 by decide), avRow_up hj (show 2 < 7 by decide) (show 6 < 7 by decide)]
  by_cases h : q = k + 3
  · subst h; simp
  · simp [h]
theorem av_n3 : rGn (avSet w k r) (k + 4) = 8 := by simp [rGn, av_at4]
theorem av_w3 : rWn (avSet w k r) (k + 4) = 8 := by simp [rWn, av_at4]
theorem av_v3 : rGv (avSet w k r) (k + 4) = avRow r 3 := by simp [rGv, av_at4]
theorem av_l3 : rLen (avSet w k r) (k + 4) = some 8 := by simp [rLen, av_at4]
theorem av_s3 {j : Nat} {x : Int32} (hj : j < 8) : rSi (avSet w k r) (k + 4) j x = avSet w k (upd r (3 + 7 * j + 3) x) := by
  have h0 : ∀ p, p < 3 → upd r (3 + 7 * j + 3) x p = r p := fun p hp => by unfold upd; rw [if_neg (by omega)]
  refine Prod.ext (funext fun q => ?_) rfl
  simp only [rSi, av_w3, av_v3, rU]
  simp only [avSet, avObj, h0 0 (by decide), h0 1 (by decide), h0 2 (by decide), avRow_up hj (show 3 < 7 by decide) (show 0 < 7 by decide), avRow_up hj (show 3 < 7 by decide) (show 1 < 7 by decide), avRow_up hj (show 3 < 7 by decide) (show 2 < 7 by decide), avRow_up hj (show 3 < 7 by decide) (show 3 < 7 by decide), avRow_up hj (show 3 < 7 by decide) (show 4 < 7 by decide), avRow_up hj (show 3 < 7 by decide) (show 5 < 7 by decide), avRow_up hj (show 3 < 7 by decide) (show 6 < 7 by decide)]
  by_cases h : q = k + 4
  · subst h; simp
  · simp [h]
theorem av_n4 : rGn (avSet w k r) (k + 5) = 8 := by simp [rGn, av_at5]
theorem av_w4 : rWn (avSet w k r) (k + 5) = 8 := by simp [rWn, av_at5]
theorem av_v4 : rGv (avSet w k r) (k + 5) = avRow r 4 := by simp [rGv, av_at5]
theorem av_l4 : rLen (avSet w k r) (k + 5) = some 8 := by simp [rLen, av_at5]
theorem av_s4 {j : Nat} {x : Int32} (hj : j < 8) : rSi (avSet w k r) (k + 5) j x = avSet w k (upd r (3 + 7 * j + 4) x) := by
  have h0 : ∀ p, p < 3 → upd r (3 + 7 * j + 4) x p = r p := fun p hp => by unfold upd; rw [if_neg (by omega)]
  refine Prod.ext (funext fun q => ?_) rfl
  simp only [rSi, av_w4, av_v4, rU]
  simp only [avSet, avObj, h0 0 (by decide), h0 1 (by decide), h0 2 (by decide), avRow_up hj (show 4 < 7 by decide) (show 0 < 7 by decide), avRow_up hj (show 4 < 7 by decide) (show 1 < 7 by decide), avRow_up hj (show 4 < 7 by decide) (show 2 < 7 by decide), avRow_up hj (show 4 < 7 by decide) (show 3 < 7 by decide), avRow_up hj (show 4 < 7 by decide) (show 4 < 7 by decide), avRow_up hj (show 4 < 7 by decide) (show 5 < 7 by decide), avRow_up hj (show 4 < 7 by decide) (show 6 < 7 by decide)]
  by_cases h : q = k + 5
  · subst h; simp
  · simp [h]
theorem av_n5 : rGn (avSet w k r) (k + 6) = 8 := by simp [rGn, av_at6]
theorem av_w5 : rWn (avSet w k r) (k + 6) = 8 := by simp [rWn, av_at6]
theorem av_v5 : rGv (avSet w k r) (k + 6) = avRow r 5 := by simp [rGv, av_at6]
theorem av_l5 : rLen (avSet w k r) (k + 6) = some 8 := by simp [rLen, av_at6]
theorem av_s5 {j : Nat} {x : Int32} (hj : j < 8) : rSi (avSet w k r) (k + 6) j x = avSet w k (upd r (3 + 7 * j + 5) x) := by
  have h0 : ∀ p, p < 3 → upd r (3 + 7 * j + 5) x p = r p := fun p hp => by unfold upd; rw [if_neg (by omega)]
  refine Prod.ext (funext fun q => ?_) rfl
  simp only [rSi, av_w5, av_v5, rU]
  simp only [avSet, avObj, h0 0 (by decide), h0 1 (by decide), h0 2 (by decide), avRow_up hj (show 5 < 7 by decide) (show 0 < 7 by decide), avRow_up hj (show 5 < 7 by decide) (show 1 < 7 by decide), avRow_up hj (show 5 < 7 by decide) (show 2 < 7 by decide), avRow_up hj (show 5 < 7 by decide) (show 3 < 7 by decide), avRow_up hj (show 5 < 7 by decide) (show 4 < 7 by decide), avRow_up hj (show 5 < 7 by decide) (show 5 < 7 by decide), avRow_up hj (show 5 < 7 by decide) (show 6 < 7 by decide)]
  by_cases h : q = k + 6
  · subst h; simp
  · simp [h]
theorem av_n6 : rGn (avSet w k r) (k + 7) = 8 := by simp [rGn, av_at7]
theorem av_w6 : rWn (avSet w k r) (k + 7) = 8 := by simp [rWn, av_at7]
theorem av_v6 : rGv (avSet w k r) (k + 7) = avRow r 6 := by simp [rGv, av_at7]
theorem av_l6 : rLen (avSet w k r) (k + 7) = some 8 := by simp [rLen, av_at7]
theorem av_s6 {j : Nat} {x : Int32} (hj : j < 8) : rSi (avSet w k r) (k + 7) j x = avSet w k (upd r (3 + 7 * j + 6) x) := by
  have h0 : ∀ p, p < 3 → upd r (3 + 7 * j + 6) x p = r p := fun p hp => by unfold upd; rw [if_neg (by omega)]
  refine Prod.ext (funext fun q => ?_) rfl
  simp only [rSi, av_w6, av_v6, rU]
  simp only [avSet, avObj, h0 0 (by decide), h0 1 (by decide), h0 2 (by decide), avRow_up hj (show 6 < 7 by decide) (show 0 < 7 by decide), avRow_up hj (show 6 < 7 by decide) (show 1 < 7 by decide), avRow_up hj (show 6 < 7 by decide) (show 2 < 7 by decide), avRow_up hj (show 6 < 7 by decide) (show 3 < 7 by decide), avRow_up hj (show 6 < 7 by decide) (show 4 < 7 by decide), avRow_up hj (show 6 < 7 by decide) (show 5 < 7 by decide), avRow_up hj (show 6 < 7 by decide) (show 6 < 7 by decide)]
  by_cases h : q = k + 7
  · subst h; simp
  · simp [h]
theorem av_set {r' : rR} : avSet (avSet w k r) k r' = avSet w k r' := by
  refine Prod.ext (funext fun q => ?_) rfl
  simp only [avSet]
  by_cases h0 : q = k
  · simp [h0]
  by_cases h1 : q = k + 1
  · simp [h1]
  by_cases h2 : q = k + 2
  · simp [h2]
  by_cases h3 : q = k + 3
  · simp [h3]
  by_cases h4 : q = k + 4
  · simp [h4]
  by_cases h5 : q = k + 5
  · simp [h5]
  by_cases h6 : q = k + 6
  · simp [h6]
  by_cases h7 : q = k + 7
  · simp [h7]
  simp [h0, h1, h2, h3, h4, h5, h6, h7]
theorem av_p0 {x : Int32} : rPf (avSet w k r) k 0 0 (.int x) = some (avSet w k (upd r 0 x)) := by
  simp only [rPf, av_at, avObj]
  refine congrArg some (Prod.ext (funext fun q => ?_) rfl)
  simp only [rU, avSet, avObj, avRow_lo (show 0 < 3 by decide)]
  by_cases h : q = k
  · simp [h, upd]
  · simp [h]
theorem av_p1 {x : Int32} : rPf (avSet w k r) k 0 1 (.int x) = some (avSet w k (upd r 1 x)) := by
  simp only [rPf, av_at, avObj]
  refine congrArg some (Prod.ext (funext fun q => ?_) rfl)
  simp only [rU, avSet, avObj, avRow_lo (show 1 < 3 by decide)]
  by_cases h : q = k
  · simp [h, upd]
  · simp [h]
theorem av_p2 {x : Int32} : rPf (avSet w k r) k 0 2 (.int x) = some (avSet w k (upd r 2 x)) := by
  simp only [rPf, av_at, avObj]
  refine congrArg some (Prod.ext (funext fun q => ?_) rfl)
  simp only [rU, avSet, avObj, avRow_lo (show 2 < 3 by decide)]
  by_cases h : q = k
  · simp [h, upd]
  · simp [h]
end AV
/-- what is read of one -/
def its (r : rR) (i c : Nat) : Int32 := r (3 + 7 * i + c)
theorem avRow_its {r : rR} {i c : Nat} (h : i < 8) : avRow r c i = its r i c := if_pos h
def thru (r : rR) (i : Nat) : Bool := decide (its r i 1 = if its r i 2 = 1 then 99 else 0)
theorem vp8 {i : Nat} (h : i < 8) : vp_in (nI i) 8 := vp_in_nI h (by decide)
theorem cl8 {i : Nat} (h : i < 8) : (nI i).toNatClampNeg = i := nI_clamp (by omega)
def bI (b : Bool) : Int32 := if b = true then 1 else 0
theorem bI_t : bI true = 1 := rfl
theorem bI_f : bI false = 0 := rfl
theorem i10 : ((1 : Int32) = 0) = False := by decide
theorem i20 : ((2 : Int32) = 0) = False := by decide
theorem i40 : ((4 : Int32) = 0) = False := by decide
theorem nb_0 : narrow .boolean (.int 0) = .int 0 := by decide
theorem nb_1 : narrow .boolean (.int 1) = .int 1 := by decide
theorem nb_b {b : Bool} : narrow .boolean (.int (bI b)) = .int (bI b) := by cases b <;> decide
