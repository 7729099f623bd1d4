/-! the reference's whole object: 12 cells from c on -/
def mObj (c : Nat) (tm so be te : Int32) (wd : Int64) (vl gd kp : Int32) : rE := rO 5 [.ref (c + 1), .ref (c + 2), .ref (c + 3), .ref (c + 4), .ref (c + 5), .int tm, .int so, .int be, .int te, .long wd, .int vl, .int gd, .ref (c + 6), .ref (c + 7), .ref (c + 8), .ref (c + 9), .ref (c + 10), .ref (c + 11), .int kp]
def mW (w : rW) (c : Nat) (R : rR) (fd : Nat → Int32) (T B F : rR) (tp bo zo : Nat → Int32) (sl ln : Nat → Int64) (I : rR) (tm so be te : Int32) (wd : Int64) (vl gd kp : Int32) : rW := (fun q => if q = c then some (mObj c tm so be te wd vl gd kp) else if q = c + 1 then some (rIA 59 (mRow R)) else if q = c + 2 then some (rIA 7 fd) else if q = c + 3 then some (rIA 59 (mRow T)) else if q = c + 4 then some (rIA 59 (mRow B)) else if q = c + 5 then some (rIA 120 tp) else if q = c + 6 then some (rIA 4 bo) else if q = c + 7 then some (rIA 4 zo) else if q = c + 8 then some (rLA 160 sl) else if q = c + 9 then some (rLA 40 ln) else if q = c + 10 then some (rIA 59 (mRow I)) else if q = c + 11 then some (rIA 59 (mRow F)) else w.1 q, w.2)
section MW
variable {w : rW} {c : Nat} {R : rR} {fd : Nat → Int32} {T B F : rR} {tp bo zo : Nat → Int32} {sl ln : Nat → Int64} {I : rR} {tm so be te : Int32} {wd : Int64} {vl gd kp : Int32}
theorem mw_2 : (mW w c R fd T B F tp bo zo sl ln I tm so be te wd vl gd kp).2 = w.2 := rfl
theorem mw_off {q : Nat} (h : q < c ∨ c + 12 ≤ q) : (mW w c R fd T B F tp bo zo sl ln I tm so be te wd vl gd kp).1 q = w.1 q := by
  simp only [mW]
  repeat rw [if_neg (by omega)]
theorem mw_a0 : (mW w c R fd T B F tp bo zo sl ln I tm so be te wd vl gd kp).1 c = some (mObj c tm so be te wd vl gd kp) := by simp [mW]
theorem mw_a1 : (mW w c R fd T B F tp bo zo sl ln I tm so be te wd vl gd kp).1 (c + 1) = some (rIA 59 (mRow R)) := by simp [mW]
theorem mw_a2 : (mW w c R fd T B F tp bo zo sl ln I tm so be te wd vl gd kp).1 (c + 2) = some (rIA 7 fd) := by simp [mW]
theorem mw_a3 : (mW w c R fd T B F tp bo zo sl ln I tm so be te wd vl gd kp).1 (c + 3) = some (rIA 59 (mRow T)) := by simp [mW]
theorem mw_a4 : (mW w c R fd T B F tp bo zo sl ln I tm so be te wd vl gd kp).1 (c + 4) = some (rIA 59 (mRow B)) := by simp [mW]
theorem mw_a5 : (mW w c R fd T B F tp bo zo sl ln I tm so be te wd vl gd kp).1 (c + 5) = some (rIA 120 tp) := by simp [mW]
theorem mw_a6 : (mW w c R fd T B F tp bo zo sl ln I tm so be te wd vl gd kp).1 (c + 6) = some (rIA 4 bo) := by simp [mW]
theorem mw_a7 : (mW w c R fd T B F tp bo zo sl ln I tm so be te wd vl gd kp).1 (c + 7) = some (rIA 4 zo) := by simp [mW]
theorem mw_a8 : (mW w c R fd T B F tp bo zo sl ln I tm so be te wd vl gd kp).1 (c + 8) = some (rLA 160 sl) := by simp [mW]
theorem mw_a9 : (mW w c R fd T B F tp bo zo sl ln I tm so be te wd vl gd kp).1 (c + 9) = some (rLA 40 ln) := by simp [mW]
theorem mw_a10 : (mW w c R fd T B F tp bo zo sl ln I tm so be te wd vl gd kp).1 (c + 10) = some (rIA 59 (mRow I)) := by simp [mW]
theorem mw_a11 : (mW w c R fd T B F tp bo zo sl ln I tm so be te wd vl gd kp).1 (c + 11) = some (rIA 59 (mRow F)) := by simp [mW]
theorem mw_is : rIs (mW w c R fd T B F tp bo zo sl ln I tm so be te wd vl gd kp) c 5 := ⟨_, mw_a0⟩
theorem mw_f0 : rF (mW w c R fd T B F tp bo zo sl ln I tm so be te wd vl gd kp) c 5 0 = some (.ref (c + 1)) := by simp [rF, mw_a0, mObj]
theorem mw_f1 : rF (mW w c R fd T B F tp bo zo sl ln I tm so be te wd vl gd kp) c 5 1 = some (.ref (c + 2)) := by simp [rF, mw_a0, mObj]
theorem mw_f2 : rF (mW w c R fd T B F tp bo zo sl ln I tm so be te wd vl gd kp) c 5 2 = some (.ref (c + 3)) := by simp [rF, mw_a0, mObj]
theorem mw_f3 : rF (mW w c R fd T B F tp bo zo sl ln I tm so be te wd vl gd kp) c 5 3 = some (.ref (c + 4)) := by simp [rF, mw_a0, mObj]
theorem mw_f4 : rF (mW w c R fd T B F tp bo zo sl ln I tm so be te wd vl gd kp) c 5 4 = some (.ref (c + 5)) := by simp [rF, mw_a0, mObj]
theorem mw_f5 : rF (mW w c R fd T B F tp bo zo sl ln I tm so be te wd vl gd kp) c 5 5 = some (.int tm) := by simp [rF, mw_a0, mObj]
theorem mw_f6 : rF (mW w c R fd T B F tp bo zo sl ln I tm so be te wd vl gd kp) c 5 6 = some (.int so) := by simp [rF, mw_a0, mObj]
theorem mw_f7 : rF (mW w c R fd T B F tp bo zo sl ln I tm so be te wd vl gd kp) c 5 7 = some (.int be) := by simp [rF, mw_a0, mObj]
theorem mw_f8 : rF (mW w c R fd T B F tp bo zo sl ln I tm so be te wd vl gd kp) c 5 8 = some (.int te) := by simp [rF, mw_a0, mObj]
theorem mw_f9 : rF (mW w c R fd T B F tp bo zo sl ln I tm so be te wd vl gd kp) c 5 9 = some (.long wd) := by simp [rF, mw_a0, mObj]
theorem mw_f10 : rF (mW w c R fd T B F tp bo zo sl ln I tm so be te wd vl gd kp) c 5 10 = some (.int vl) := by simp [rF, mw_a0, mObj]
theorem mw_f11 : rF (mW w c R fd T B F tp bo zo sl ln I tm so be te wd vl gd kp) c 5 11 = some (.int gd) := by simp [rF, mw_a0, mObj]
theorem mw_f12 : rF (mW w c R fd T B F tp bo zo sl ln I tm so be te wd vl gd kp) c 5 12 = some (.ref (c + 6)) := by simp [rF, mw_a0, mObj]
theorem mw_f13 : rF (mW w c R fd T B F tp bo zo sl ln I tm so be te wd vl gd kp) c 5 13 = some (.ref (c + 7)) := by simp [rF, mw_a0, mObj]
theorem mw_f14 : rF (mW w c R fd T B F tp bo zo sl ln I tm so be te wd vl gd kp) c 5 14 = some (.ref (c + 8)) := by simp [rF, mw_a0, mObj]
theorem mw_f15 : rF (mW w c R fd T B F tp bo zo sl ln I tm so be te wd vl gd kp) c 5 15 = some (.ref (c + 9)) := by simp [rF, mw_a0, mObj]
theorem mw_f16 : rF (mW w c R fd T B F tp bo zo sl ln I tm so be te wd vl gd kp) c 5 16 = some (.ref (c + 10)) := by simp [rF, mw_a0, mObj]
theorem mw_f17 : rF (mW w c R fd T B F tp bo zo sl ln I tm so be te wd vl gd kp) c 5 17 = some (.ref (c + 11)) := by simp [rF, mw_a0, mObj]
theorem mw_f18 : rF (mW w c R fd T B F tp bo zo sl ln I tm so be te wd vl gd kp) c 5 18 = some (.int kp) := by simp [rF, mw_a0, mObj]
theorem mw_n1 : rGn (mW w c R fd T B F tp bo zo sl ln I tm so be te wd vl gd kp) (c + 1) = 59 := by simp [rGn, mw_a1]
theorem mw_w1 : rWn (mW w c R fd T B F tp bo zo sl ln I tm so be te wd vl gd kp) (c + 1) = 59 := by simp [rWn, mw_a1]
theorem mw_v1 : rGv (mW w c R fd T B F tp bo zo sl ln I tm so be te wd vl gd kp) (c + 1) = mRow R := by simp [rGv, mw_a1]
theorem mw_s1 {p : Nat} {x : Int32} (h : p < 59) : rSi (mW w c R fd T B F tp bo zo sl ln I tm so be te wd vl gd kp) (c + 1) p x = mW w c (upd R p x) fd T B F tp bo zo sl ln I tm so be te wd vl gd kp := by
  refine Prod.ext (funext fun q => ?_) rfl
  simp only [rSi, mw_w1, mw_v1]
  simp only [rU, mW, mRow_up h]
  by_cases hq : q = c + 1 <;> simp [hq]
theorem mw_n2 : rGn (mW w c R fd T B F tp bo zo sl ln I tm so be te wd vl gd kp) (c + 2) = 7 := by simp [rGn, mw_a2]
theorem mw_w2 : rWn (mW w c R fd T B F tp bo zo sl ln I tm so be te wd vl gd kp) (c + 2) = 7 := by simp [rWn, mw_a2]
theorem mw_v2 : rGv (mW w c R fd T B F tp bo zo sl ln I tm so be te wd vl gd kp) (c + 2) = fd := by simp [rGv, mw_a2]
theorem mw_s2 {p : Nat} {x : Int32} : rSi (mW w c R fd T B F tp bo zo sl ln I tm so be te wd vl gd kp) (c + 2) p x = mW w c R (upd fd p x) T B F tp bo zo sl ln I tm so be te wd vl gd kp := by
  refine Prod.ext (funext fun q => ?_) rfl
  simp only [rSi, mw_w2, mw_v2]
  simp only [rU, mW]
  by_cases hq : q = c + 2 <;> simp [hq]
theorem mw_n3 : rGn (mW w c R fd T B F tp bo zo sl ln I tm so be te wd vl gd kp) (c + 3) = 59 := by simp [rGn, mw_a3]
theorem mw_w3 : rWn (mW w c R fd T B F tp bo zo sl ln I tm so be te wd vl gd kp) (c + 3) = 59 := by simp [rWn, mw_a3]
theorem mw_v3 : rGv (mW w c R fd T B F tp bo zo sl ln I tm so be te wd vl gd kp) (c + 3) = mRow T := by simp [rGv, mw_a3]
theorem mw_s3 {p : Nat} {x : Int32} (h : p < 59) : rSi (mW w c R fd T B F tp bo zo sl ln I tm so be te wd vl gd kp) (c + 3) p x = mW w c R fd (upd T p x) B F tp bo zo sl ln I tm so be te wd vl gd kp := by
  refine Prod.ext (funext fun q => ?_) rfl
  simp only [rSi, mw_w3, mw_v3]
  simp only [rU, mW, mRow_up h]
  by_cases hq : q = c + 3 <;> simp [hq]
theorem mw_n4 : rGn (mW w c R fd T B F tp bo zo sl ln I tm so be te wd vl gd kp) (c + 4) = 59 := by simp [rGn, mw_a4]
theorem mw_w4 : rWn (mW w c R fd T B F tp bo zo sl ln I tm so be te wd vl gd kp) (c + 4) = 59 := by simp [rWn, mw_a4]
theorem mw_v4 : rGv (mW w c R fd T B F tp bo zo sl ln I tm so be te wd vl gd kp) (c + 4) = mRow B := by simp [rGv, mw_a4]
theorem mw_s4 {p : Nat} {x : Int32} (h : p < 59) : rSi (mW w c R fd T B F tp bo zo sl ln I tm so be te wd vl gd kp) (c + 4) p x = mW w c R fd T (upd B p x) F tp bo zo sl ln I tm so be te wd vl gd kp := by
  refine Prod.ext (funext fun q => ?_) rfl
  simp only [rSi, mw_w4, mw_v4]
  simp only [rU, mW, mRow_up h]
  by_cases hq : q = c + 4 <;> simp [hq]
theorem mw_n5 : rGn (mW w c R fd T B F tp bo zo sl ln I tm so be te wd vl gd kp) (c + 5) = 120 := by simp [rGn, mw_a5]
theorem mw_w5 : rWn (mW w c R fd T B F tp bo zo sl ln I tm so be te wd vl gd kp) (c + 5) = 120 := by simp [rWn, mw_a5]
theorem mw_v5 : rGv (mW w c R fd T B F tp bo zo sl ln I tm so be te wd vl gd kp) (c + 5) = tp := by simp [rGv, mw_a5]
theorem mw_s5 {p : Nat} {x : Int32} : rSi (mW w c R fd T B F tp bo zo sl ln I tm so be te wd vl gd kp) (c + 5) p x = mW w c R fd T B F (upd tp p x) bo zo sl ln I tm so be te wd vl gd kp := by
  refine Prod.ext (funext fun q => ?_) rfl
  simp only [rSi, mw_w5, mw_v5]
  simp only [rU, mW]
  by_cases hq : q = c + 5 <;> simp [hq]
theorem mw_n6 : rGn (mW w c R fd T B F tp bo zo sl ln I tm so be te wd vl gd kp) (c + 6) = 4 := by simp [rGn, mw_a6]
theorem mw_w6 : rWn (mW w c R fd T B F tp bo zo sl ln I tm so be te wd vl gd kp) (c + 6) = 4 := by simp [rWn, mw_a6]
theorem mw_v6 : rGv (mW w c R fd T B F tp bo zo sl ln I tm so be te wd vl gd kp) (c + 6) = bo := by simp [rGv, mw_a6]
theorem mw_s6 {p : Nat} {x : Int32} : rSi (mW w c R fd T B F tp bo zo sl ln I tm so be te wd vl gd kp) (c + 6) p x = mW w c R fd T B F tp (upd bo p x) zo sl ln I tm so be te wd vl gd kp := by
  refine Prod.ext (funext fun q => ?_) rfl
  simp only [rSi, mw_w6, mw_v6]
  simp only [rU, mW]
  by_cases hq : q = c + 6 <;> simp [hq]
theorem mw_n7 : rGn (mW w c R fd T B F tp bo zo sl ln I tm so be te wd vl gd kp) (c + 7) = 4 := by simp [rGn, mw_a7]
theorem mw_w7 : rWn (mW w c R fd T B F tp bo zo sl ln I tm so be te wd vl gd kp) (c + 7) = 4 := by simp [rWn, mw_a7]
theorem mw_v7 : rGv (mW w c R fd T B F tp bo zo sl ln I tm so be te wd vl gd kp) (c + 7) = zo := by simp [rGv, mw_a7]
theorem mw_s7 {p : Nat} {x : Int32} : rSi (mW w c R fd T B F tp bo zo sl ln I tm so be te wd vl gd kp) (c + 7) p x = mW w c R fd T B F tp bo (upd zo p x) sl ln I tm so be te wd vl gd kp := by
  refine Prod.ext (funext fun q => ?_) rfl
  simp only [rSi, mw_w7, mw_v7]
  simp only [rU, mW]
  by_cases hq : q = c + 7 <;> simp [hq]
theorem mw_n10 : rGn (mW w c R fd T B F tp bo zo sl ln I tm so be te wd vl gd kp) (c + 10) = 59 := by simp [rGn, mw_a10]
theorem mw_w10 : rWn (mW w c R fd T B F tp bo zo sl ln I tm so be te wd vl gd kp) (c + 10) = 59 := by simp [rWn, mw_a10]
theorem mw_v10 : rGv (mW w c R fd T B F tp bo zo sl ln I tm so be te wd vl gd kp) (c + 10) = mRow I := by simp [rGv, mw_a10]
theorem mw_s10 {p : Nat} {x : Int32} (h : p < 59) : rSi (mW w c R fd T B F tp bo zo sl ln I tm so be te wd vl gd kp) (c + 10) p x = mW w c R fd T B F tp bo zo sl ln (upd I p x) tm so be te wd vl gd kp := by
  refine Prod.ext (funext fun q => ?_) rfl
  simp only [rSi, mw_w10, mw_v10]
  simp only [rU, mW, mRow_up h]
  by_cases hq : q = c + 10 <;> simp [hq]
theorem mw_n11 : rGn (mW w c R fd T B F tp bo zo sl ln I tm so be te wd vl gd kp) (c + 11) = 59 := by simp [rGn, mw_a11]
theorem mw_w11 : rWn (mW w c R fd T B F tp bo zo sl ln I tm so be te wd vl gd kp) (c + 11) = 59 := by simp [rWn, mw_a11]
theorem mw_v11 : rGv (mW w c R fd T B F tp bo zo sl ln I tm so be te wd vl gd kp) (c + 11) = mRow F := by simp [rGv, mw_a11]
theorem mw_s11 {p : Nat} {x : Int32} (h : p < 59) : rSi (mW w c R fd T B F tp bo zo sl ln I tm so be te wd vl gd kp) (c + 11) p x = mW w c R fd T B (upd F p x) tp bo zo sl ln I tm so be te wd vl gd kp := by
  refine Prod.ext (funext fun q => ?_) rfl
  simp only [rSi, mw_w11, mw_v11]
  simp only [rU, mW, mRow_up h]
  by_cases hq : q = c + 11 <;> simp [hq]
theorem mw_n8 : rLn (mW w c R fd T B F tp bo zo sl ln I tm so be te wd vl gd kp) (c + 8) = 160 := by simp [rLn, mw_a8]
theorem mw_v8 : rLg (mW w c R fd T B F tp bo zo sl ln I tm so be te wd vl gd kp) (c + 8) = sl := by simp [rLg, mw_a8]
theorem mw_s8 {p : Nat} {x : Int64} : rSl (mW w c R fd T B F tp bo zo sl ln I tm so be te wd vl gd kp) (c + 8) p x = mW w c R fd T B F tp bo zo (vp_updL sl p x) ln I tm so be te wd vl gd kp := by
  refine Prod.ext (funext fun q => ?_) rfl
  simp only [rSl, mw_n8, mw_v8]
  simp only [rU, mW]
  by_cases hq : q = c + 8 <;> simp [hq]
theorem mw_n9 : rLn (mW w c R fd T B F tp bo zo sl ln I tm so be te wd vl gd kp) (c + 9) = 40 := by simp [rLn, mw_a9]
theorem mw_v9 : rLg (mW w c R fd T B F tp bo zo sl ln I tm so be te wd vl gd kp) (c + 9) = ln := by simp [rLg, mw_a9]
theorem mw_s9 {p : Nat} {x : Int64} : rSl (mW w c R fd T B F tp bo zo sl ln I tm so be te wd vl gd kp) (c + 9) p x = mW w c R fd T B F tp bo zo sl (vp_updL ln p x) I tm so be te wd vl gd kp := by
  refine Prod.ext (funext fun q => ?_) rfl
  simp only [rSl, mw_n9, mw_v9]
  simp only [rU, mW]
  by_cases hq : q = c + 9 <;> simp [hq]
theorem mw_p5 {x : Int32} : rPf (mW w c R fd T B F tp bo zo sl ln I tm so be te wd vl gd kp) c 5 5 (.int x) = some (mW w c R fd T B F tp bo zo sl ln I (x) so be te wd vl gd kp) := by
  simp only [rPf, mw_a0, mObj]
  refine congrArg some (Prod.ext (funext fun q => ?_) rfl)
  simp only [rU, mW, mObj]
  by_cases hq : q = c <;> simp [hq]
theorem mw_p6 {x : Int32} : rPf (mW w c R fd T B F tp bo zo sl ln I tm so be te wd vl gd kp) c 5 6 (.int x) = some (mW w c R fd T B F tp bo zo sl ln I tm (x) be te wd vl gd kp) := by
  simp only [rPf, mw_a0, mObj]
  refine congrArg some (Prod.ext (funext fun q => ?_) rfl)
  simp only [rU, mW, mObj]
  by_cases hq : q = c <;> simp [hq]
theorem mw_p7 {x : Int32} : rPf (mW w c R fd T B F tp bo zo sl ln I tm so be te wd vl gd kp) c 5 7 (.int x) = some (mW w c R fd T B F tp bo zo sl ln I tm so (x) te wd vl gd kp) := by
  simp only [rPf, mw_a0, mObj]
  refine congrArg some (Prod.ext (funext fun q => ?_) rfl)
  simp only [rU, mW, mObj]
  by_cases hq : q = c <;> simp [hq]
theorem mw_p8 {x : Int32} : rPf (mW w c R fd T B F tp bo zo sl ln I tm so be te wd vl gd kp) c 5 8 (.int x) = some (mW w c R fd T B F tp bo zo sl ln I tm so be (x) wd vl gd kp) := by
  simp only [rPf, mw_a0, mObj]
  refine congrArg some (Prod.ext (funext fun q => ?_) rfl)
  simp only [rU, mW, mObj]
  by_cases hq : q = c <;> simp [hq]
theorem mw_p9 {x : Int64} : rPf (mW w c R fd T B F tp bo zo sl ln I tm so be te wd vl gd kp) c 5 9 (.long x) = some (mW w c R fd T B F tp bo zo sl ln I tm so be te (x) vl gd kp) := by
  simp only [rPf, mw_a0, mObj]
  refine congrArg some (Prod.ext (funext fun q => ?_) rfl)
  simp only [rU, mW, mObj]
  by_cases hq : q = c <;> simp [hq]
theorem mw_p10 {x : Int32} : rPf (mW w c R fd T B F tp bo zo sl ln I tm so be te wd vl gd kp) c 5 10 (.int x) = some (mW w c R fd T B F tp bo zo sl ln I tm so be te wd (x) gd kp) := by
  simp only [rPf, mw_a0, mObj]
  refine congrArg some (Prod.ext (funext fun q => ?_) rfl)
  simp only [rU, mW, mObj]
  by_cases hq : q = c <;> simp [hq]
theorem mw_p11 {x : Int32} : rPf (mW w c R fd T B F tp bo zo sl ln I tm so be te wd vl gd kp) c 5 11 (.int x) = some (mW w c R fd T B F tp bo zo sl ln I tm so be te wd vl (x) kp) := by
  simp only [rPf, mw_a0, mObj]
  refine congrArg some (Prod.ext (funext fun q => ?_) rfl)
  simp only [rU, mW, mObj]
  by_cases hq : q = c <;> simp [hq]
theorem mw_p18 {x : Int32} : rPf (mW w c R fd T B F tp bo zo sl ln I tm so be te wd vl gd kp) c 5 18 (.int x) = some (mW w c R fd T B F tp bo zo sl ln I tm so be te wd vl gd (x)) := by
  simp only [rPf, mw_a0, mObj]
  refine congrArg some (Prod.ext (funext fun q => ?_) rfl)
  simp only [rU, mW, mObj]
  by_cases hq : q = c <;> simp [hq]
theorem mw_row {r : rR} : rowSet (mW w c R fd T B F tp bo zo sl ln I tm so be te wd vl gd kp) c r = mW w c (r) fd T B F tp bo zo sl ln I tm so be te wd vl gd kp := by
  refine Prod.ext (funext fun q => ?_) rfl
  simp only [rowSet, rU, mW]
  by_cases hq : q = c + 1 <;> simp [hq]
theorem mw_mo : moOK (mW w c R fd T B F tp bo zo sl ln I tm so be te wd vl gd kp) c := ⟨_, mw_a0, rfl⟩
end MW
