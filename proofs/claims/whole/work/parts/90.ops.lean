/-! what each call answers and leaves -/
def o_trams (P : rR) (img : Option rR) (tp : Nat → Int32) (t : Nat) (sh : rSh) (fd : Nat → Int32) (x1 : Int32) : Int32 × sT := (if 0 ≤ x1 ∧ x1 ≤ 1 then (P 1, (upd P 1 x1, img, tp, t, sh, fd)) else ((-1000000001), (P, img, tp, t, sh, fB fd 0)))
def o_walkerM (m : Nat) (P : rR) (img : Option rR) (tp : Nat → Int32) (t : Nat) (sh : rSh) (fd : Nat → Int32) (x1 : Int32) (x2 : Int32) : Int32 × sT := (if (0 ≤ x1 ∧ x1 ≤ 5) ∧ (0 ≤ x2 ∧ x2 ≤ 99) then (if m = 8 then ((-1000000002), (P, img, tp, t, sh, fB fd 1)) else (nI m, (addR P m x1 x2, img, tp, t, sh, fd))) else ((-1000000001), (P, img, tp, t, sh, fB fd 0)))
def o_walker (P : rR) (img : Option rR) (tp : Nat → Int32) (t : Nat) (sh : rSh) (fd : Nat → Int32) (x1 : Int32) (x2 : Int32) : Int32 × sT := o_walkerM (mO P) P img tp t sh fd x1 x2
def o_ofM (m : Nat) (P : rR) (img : Option rR) (tp : Nat → Int32) (t : Nat) (sh : rSh) (fd : Nat → Int32) (x1 : Int32) (x2 : Int32) : Int32 × sT := (if (isW P x1 && decide (0 ≤ x2 ∧ x2 ≤ 9)) = true then (ofV P m x1.toNatClampNeg x2, (P, img, tp, t, sh, fd)) else ((-1000000001), (P, img, tp, t, sh, fB fd 0)))
def o_of (P : rR) (img : Option rR) (tp : Nat → Int32) (t : Nat) (sh : rSh) (fd : Nat → Int32) (x1 : Int32) (x2 : Int32) : Int32 × sT := o_ofM (mO P) P img tp t sh fd x1 x2
def o_set (P : rR) (img : Option rR) (tp : Nat → Int32) (t : Nat) (sh : rSh) (fd : Nat → Int32) (x1 : Int32) (x2 : Int32) (x3 : Int32) : Int32 × sT := (if setOK P x1 x2 x3 = true then (its P x1.toNatClampNeg x2.toNatClampNeg, (upd P (3 + 7 * x1.toNatClampNeg + x2.toNatClampNeg) x3, img, tp, t, sh, fd)) else ((-1000000001), (P, img, tp, t, sh, fB fd 0)))
def o_turn (P : rR) (img : Option rR) (tp : Nat → Int32) (t : Nat) (sh : rSh) (fd : Nat → Int32) (x1 : Int32) (x2 : Int32) : Int32 × sT := (if (isW P x1 && decide (0 ≤ x2 ∧ x2 ≤ 5)) = true then (its P x1.toNatClampNeg 0, (upd P (3 + 7 * x1.toNatClampNeg + 0) x2, img, tp, t, sh, fd)) else ((-1000000001), (P, img, tp, t, sh, fB fd 0)))
def o_as (P : rR) (img : Option rR) (tp : Nat → Int32) (t : Nat) (sh : rSh) (fd : Nat → Int32) (x1 : Int32) (x2 : Int32) : Int32 × sT := (if (isW P x1 && decide (0 ≤ x2 ∧ x2 ≤ 5)) = true then (if underI (its P x1.toNatClampNeg 0) x2 = true then (its P x1.toNatClampNeg 3, (P, img, tp, t, sh, fd)) else ((-1000000003), (P, img, tp, t, sh, fB fd 2))) else ((-1000000001), (P, img, tp, t, sh, fB fd 0)))
def o_seesM (m : Nat) (P : rR) (img : Option rR) (tp : Nat → Int32) (t : Nat) (sh : rSh) (fd : Nat → Int32) (x1 : Int32) : Int32 × sT := (if isW P x1 = true then (seenUp P x1.toNatClampNeg m, (P, img, tp, t, sh, fd)) else ((-1000000001), (P, img, tp, t, sh, fB fd 0)))
def o_sees (P : rR) (img : Option rR) (tp : Nat → Int32) (t : Nat) (sh : rSh) (fd : Nat → Int32) (x1 : Int32) : Int32 × sT := o_seesM (mO P) P img tp t sh fd x1
def o_leaderM (m : Nat) (P : rR) (img : Option rR) (tp : Nat → Int32) (t : Nat) (sh : rSh) (fd : Nat → Int32) (x1 : Int32) : Int32 × sT := (if isW P x1 = true then (if ledB P x1.toNatClampNeg m = true then ((leadUp P x1.toNatClampNeg m).1, (P, img, tp, t, sh, fd)) else ((-1000000004), (P, img, tp, t, sh, fB fd 3))) else ((-1000000001), (P, img, tp, t, sh, fB fd 0)))
def o_leader (P : rR) (img : Option rR) (tp : Nat → Int32) (t : Nat) (sh : rSh) (fd : Nat → Int32) (x1 : Int32) : Int32 × sT := o_leaderM (mO P) P img tp t sh fd x1
def o_minutesM (m : Nat) (P : rR) (img : Option rR) (tp : Nat → Int32) (t : Nat) (sh : rSh) (fd : Nat → Int32) (x1 : Int32) : Int32 × sT := (if 1 ≤ x1 ∧ x1 ≤ 100 then (if P 0 + x1 ≤ 99999 then (thruUp (minsR m x1.toNatClampNeg P) m, (minsR m x1.toNatClampNeg P, img, tp, t, sh, fd)) else ((-1000000005), (P, img, tp, t, sh, fB fd 4))) else ((-1000000001), (P, img, tp, t, sh, fB fd 0)))
def o_minutes (P : rR) (img : Option rR) (tp : Nat → Int32) (t : Nat) (sh : rSh) (fd : Nat → Int32) (x1 : Int32) : Int32 × sT := o_minutesM (mO P) P img tp t sh fd x1
def o_nowM (m : Nat) (P : rR) (img : Option rR) (tp : Nat → Int32) (t : Nat) (sh : rSh) (fd : Nat → Int32) (x1 : Int32) : Int32 × sT := (if x1 = 0 then (P 0, (P, img, tp, t, sh, fd)) else (if x1 = 1 then (P 1, (P, img, tp, t, sh, fd)) else (if x1 = 2 then (tramAt P, (P, img, tp, t, sh, fd)) else (if x1 = 3 then (thruUp P m, (P, img, tp, t, sh, fd)) else (if x1 = 4 then (sumUp P 5 m, (P, img, tp, t, sh, fd)) else (if x1 = 5 then (sumUp P 6 m, (P, img, tp, t, sh, fd)) else ((-1000000001), (P, img, tp, t, sh, fB fd 0))))))))
def o_now (P : rR) (img : Option rR) (tp : Nat → Int32) (t : Nat) (sh : rSh) (fd : Nat → Int32) (x1 : Int32) : Int32 × sT := o_nowM (mO P) P img tp t sh fd x1
def o_onM (m : Nat) (P : rR) (img : Option rR) (tp : Nat → Int32) (t : Nat) (sh : rSh) (fd : Nat → Int32) (x1 : Int32) (x2 : Int32) (x3 : Int32) : Int32 × sT := (if (isW P x1 && decide (0 ≤ x2 ∧ x2 ≤ 200) && decide (0 ≤ x3 ∧ x3 ≤ 3)) = true then (its (minsR m x2.toNatClampNeg P) x1.toNatClampNeg (if x3 = 0 then 1 else if x3 = 1 then 4 else if x3 = 2 then 5 else 6), (P, img, tp, t, sh, fd)) else ((-1000000001), (P, img, tp, t, sh, fB fd 0)))
def o_on (P : rR) (img : Option rR) (tp : Nat → Int32) (t : Nat) (sh : rSh) (fd : Nat → Int32) (x1 : Int32) (x2 : Int32) (x3 : Int32) : Int32 × sT := o_onM (mO P) P img tp t sh fd x1 x2 x3
def o_throughM (m : Nat) (P : rR) (img : Option rR) (tp : Nat → Int32) (t : Nat) (sh : rSh) (fd : Nat → Int32) (x1 : Int32) : Int32 × sT := (if isW P x1 = true then (if tillR m x1.toNatClampNeg 201 P ≤ 200 then (nI (tillR m x1.toNatClampNeg 201 P), (P, img, tp, t, sh, fd)) else ((-1000000004), (P, img, tp, t, sh, fB fd 3))) else ((-1000000001), (P, img, tp, t, sh, fB fd 0)))
def o_through (P : rR) (img : Option rR) (tp : Nat → Int32) (t : Nat) (sh : rSh) (fd : Nat → Int32) (x1 : Int32) : Int32 × sT := o_throughM (mO P) P img tp t sh fd x1
def o_bumpsM (m : Nat) (P : rR) (img : Option rR) (tp : Nat → Int32) (t : Nat) (sh : rSh) (fd : Nat → Int32) (x1 : Int32) : Int32 × sT := (if isW P x1 = true then (if thenN (fun r => decide (its P x1.toNatClampNeg 6 < its r x1.toNatClampNeg 6)) m 200 P < 200 then (nI (thenN (fun r => decide (its P x1.toNatClampNeg 6 < its r x1.toNatClampNeg 6)) m 200 P + 1), (P, img, tp, t, sh, fd)) else ((-1000000004), (P, img, tp, t, sh, fB fd 3))) else ((-1000000001), (P, img, tp, t, sh, fB fd 0)))
def o_bumps (P : rR) (img : Option rR) (tp : Nat → Int32) (t : Nat) (sh : rSh) (fd : Nat → Int32) (x1 : Int32) : Int32 × sT := o_bumpsM (mO P) P img tp t sh fd x1
def o_meetM (m : Nat) (P : rR) (img : Option rR) (tp : Nat → Int32) (t : Nat) (sh : rSh) (fd : Nat → Int32) (x1 : Int32) (x2 : Int32) : Int32 × sT := (if isW P x1 = true ∧ isW P x2 = true ∧ ¬ x1 = x2 then (if firstN (fun r => seesP r x1.toNatClampNeg x2.toNatClampNeg && seesP r x2.toNatClampNeg x1.toNatClampNeg) m 201 P < 201 then (nI (firstN (fun r => seesP r x1.toNatClampNeg x2.toNatClampNeg && seesP r x2.toNatClampNeg x1.toNatClampNeg) m 201 P), (P, img, tp, t, sh, fd)) else ((-1000000004), (P, img, tp, t, sh, fB fd 3))) else ((-1000000001), (P, img, tp, t, sh, fB fd 0)))
def o_meet (P : rR) (img : Option rR) (tp : Nat → Int32) (t : Nat) (sh : rSh) (fd : Nat → Int32) (x1 : Int32) (x2 : Int32) : Int32 × sT := o_meetM (mO P) P img tp t sh fd x1 x2
def o_paceM (m : Nat) (P : rR) (img : Option rR) (tp : Nat → Int32) (t : Nat) (sh : rSh) (fd : Nat → Int32) (x1 : Int32) : Int32 × sT := (if isW P x1 = true then (if (soonUp m x1.toNatClampNeg 3 P 10).1 = -1 then ((-1000000004), (P, img, tp, t, sh, fB fd 3)) else ((soonUp m x1.toNatClampNeg 3 P 10).1, (P, img, tp, t, sh, fd))) else ((-1000000001), (P, img, tp, t, sh, fB fd 0)))
def o_pace (P : rR) (img : Option rR) (tp : Nat → Int32) (t : Nat) (sh : rSh) (fd : Nat → Int32) (x1 : Int32) : Int32 × sT := o_paceM (mO P) P img tp t sh fd x1
def o_kindM (m : Nat) (P : rR) (img : Option rR) (tp : Nat → Int32) (t : Nat) (sh : rSh) (fd : Nat → Int32) (x1 : Int32) : Int32 × sT := (if isW P x1 = true then (if (soonUp m x1.toNatClampNeg 0 P 6).1 = -1 then ((-1000000004), (P, img, tp, t, sh, fB fd 3)) else ((soonUp m x1.toNatClampNeg 0 P 6).1, (P, img, tp, t, sh, fd))) else ((-1000000001), (P, img, tp, t, sh, fB fd 0)))
def o_kind (P : rR) (img : Option rR) (tp : Nat → Int32) (t : Nat) (sh : rSh) (fd : Nat → Int32) (x1 : Int32) : Int32 × sT := o_kindM (mO P) P img tp t sh fd x1
def o_beginM (m : Nat) (P : rR) (img : Option rR) (tp : Nat → Int32) (t : Nat) (sh : rSh) (fd : Nat → Int32) (x1 : Int32) (x2 : Int32) : Int32 × sT := (if (isW P x1 && decide (1 ≤ x2 ∧ x2 ≤ 20)) = true then ((begUp m x1.toNatClampNeg x2.toNatClampNeg P 100).1, (P, img, tp, t, sh, fd)) else ((-1000000001), (P, img, tp, t, sh, fB fd 0)))
def o_begin (P : rR) (img : Option rR) (tp : Nat → Int32) (t : Nat) (sh : rSh) (fd : Nat → Int32) (x1 : Int32) (x2 : Int32) : Int32 × sT := o_beginM (mO P) P img tp t sh fd x1 x2
def o_fewestM (m : Nat) (P : rR) (img : Option rR) (tp : Nat → Int32) (t : Nat) (sh : rSh) (fd : Nat → Int32) (x1 : Int32) : Int32 × sT := (if 1 ≤ x1 ∧ x1 ≤ 20 then (match fewS (fewG m x1.toNatClampNeg P) (2 ^ m) (m + 1) 0 with | some z => (nI z, (P, img, tp, t, sh, fd)) | none => ((-1000000004), (P, img, tp, t, sh, fB fd 3))) else ((-1000000001), (P, img, tp, t, sh, fB fd 0)))
def o_fewest (P : rR) (img : Option rR) (tp : Nat → Int32) (t : Nat) (sh : rSh) (fd : Nat → Int32) (x1 : Int32) : Int32 × sT := o_fewestM (mO P) P img tp t sh fd x1
def o_otherM (m : Nat) (P : rR) (img : Option rR) (tp : Nat → Int32) (t : Nat) (sh : rSh) (fd : Nat → Int32) (x1 : Int32) : Int32 × sT := (if 1 ≤ x1 ∧ x1 ≤ 60 then (if (othUp m x1.toNatClampNeg P m).1 = -1 then ((-1000000004), (P, img, tp, t, sh, fB fd 3)) else ((othUp m x1.toNatClampNeg P m).1, (P, img, tp, t, sh, fd))) else ((-1000000001), (P, img, tp, t, sh, fB fd 0)))
def o_other (P : rR) (img : Option rR) (tp : Nat → Int32) (t : Nat) (sh : rSh) (fd : Nat → Int32) (x1 : Int32) : Int32 × sT := o_otherM (mO P) P img tp t sh fd x1
def o_firstM (m : Nat) (P : rR) (img : Option rR) (tp : Nat → Int32) (t : Nat) (sh : rSh) (fd : Nat → Int32) : Int32 × sT := (if hasT m 201 P = true then (nI (lowT (hasW m 201 P) m 0), (P, img, tp, t, sh, fd)) else ((-1000000004), (P, img, tp, t, sh, fB fd 3)))
def o_first (P : rR) (img : Option rR) (tp : Nat → Int32) (t : Nat) (sh : rSh) (fd : Nat → Int32) : Int32 × sT := o_firstM (mO P) P img tp t sh fd 
def o_feed (P : rR) (img : Option rR) (tp : Nat → Int32) (t : Nat) (sh : rSh) (fd : Nat → Int32) (x1 : Int32) (x2 : Int32) : Int32 × sT := (if 1 ≤ x2 ∧ x2 ≤ 4 then (if t + x2.toNatClampNeg ≤ 120 then (nI (t + x2.toNatClampNeg), (P, img, feedT x1 x2.toNatClampNeg t tp, t + x2.toNatClampNeg, sh, fd)) else ((-1000000002), (P, img, tp, t, sh, fB fd 1))) else ((-1000000001), (P, img, tp, t, sh, fB fd 0)))
def o_wipe (P : rR) (img : Option rR) (tp : Nat → Int32) (t : Nat) (sh : rSh) (fd : Nat → Int32) : Int32 × sT := (nI t, (P, img, tp, 0, sh, fd))
def o_avenue (P : rR) (img : Option rR) (tp : Nat → Int32) (t : Nat) (sh : rSh) (fd : Nat → Int32) : Int32 × sT := ((avR tp t P).1, (if (avR tp t P).1 < 0 then P else (avR tp t P).2, img, tp, 0, sh, fd))
def o_sheet (P : rR) (img : Option rR) (tp : Nat → Int32) (t : Nat) (sh : rSh) (fd : Nat → Int32) (x1 : Int32) (x2 : Int32) (x3 : Int32) : Int32 × sT := (if (0 ≤ x1 ∧ x1 < 4) ∧ (x2 = 0 ∨ x2 = 8 ∨ x2 = 16 ∨ x2 = 64) then (if x3 < 0 then ((-1000000007), (P, img, tp, t, sh, fB fd 6)) else (if x3 ≤ 40 then (if x2 = 0 then 0 else x3, (P, img, tp, t, updS sh x1.toNatClampNeg (x2, if x2 = 0 then 0 else x3, fillUp (sh x1.toNatClampNeg).2.2 0 40), fd)) else ((-1000000001), (P, img, tp, t, sh, fB fd 0)))) else ((-1000000001), (P, img, tp, t, sh, fB fd 0)))
def o_write (P : rR) (img : Option rR) (tp : Nat → Int32) (t : Nat) (sh : rSh) (fd : Nat → Int32) (x1 : Int32) (x2 : Int32) (x3 : Int64) : Int64 × sT := (if 0 ≤ x1 ∧ x1 < 4 then (if (sh x1.toNatClampNeg).1 = 0 then ((-1000000006 : Int32).toInt64, (P, img, tp, t, sh, fB fd 5)) else (if 0 ≤ x2 ∧ x2 ≤ (sh x1.toNatClampNeg).2.1 - 1 then ((sh x1.toNatClampNeg).2.2 x2.toNatClampNeg, (P, img, tp, t, updS sh x1.toNatClampNeg ((sh x1.toNatClampNeg).1, (sh x1.toNatClampNeg).2.1, vp_updL (sh x1.toNatClampNeg).2.2 x2.toNatClampNeg (narL (sh x1.toNatClampNeg).1 x3)), fd)) else ((-1000000001 : Int32).toInt64, (P, img, tp, t, sh, fB fd 0)))) else ((-1000000001 : Int32).toInt64, (P, img, tp, t, sh, fB fd 0)))
def o_copy (P : rR) (img : Option rR) (tp : Nat → Int32) (t : Nat) (sh : rSh) (fd : Nat → Int32) (x1 : Int32) (x2 : Int32) (x3 : Int32) (x4 : Int32) (x5 : Int32) : Int32 × sT := (if (0 ≤ x1 ∧ x1 < 4) ∧ (0 ≤ x3 ∧ x3 < 4) then (if (sh x1.toNatClampNeg).1 = 0 ∨ (sh x3.toNatClampNeg).1 = 0 then ((-1000000006), (P, img, tp, t, sh, fB fd 5)) else (if (sh x1.toNatClampNeg).1 = (sh x3.toNatClampNeg).1 then (if (hasB (sh x1.toNatClampNeg).2.1 x2 x5 && hasB (sh x3.toNatClampNeg).2.1 x4 x5) = true then (x5, (P, img, tp, t, updS sh x3.toNatClampNeg ((sh x3.toNatClampNeg).1, (sh x3.toNatClampNeg).2.1, va_cpy (sh x1.toNatClampNeg).2.2 (sh x3.toNatClampNeg).2.2 x2.toNatClampNeg x4.toNatClampNeg x5.toNatClampNeg), fd)) else ((-1000000001), (P, img, tp, t, sh, fB fd 0))) else ((-1000000003), (P, img, tp, t, sh, fB fd 2)))) else ((-1000000001), (P, img, tp, t, sh, fB fd 0)))
def o_laysM (m : Nat) (P : rR) (img : Option rR) (tp : Nat → Int32) (t : Nat) (sh : rSh) (fd : Nat → Int32) (x1 : Int32) : Int32 × sT := (if 0 ≤ x1 ∧ x1 < 4 then (if (sh x1.toNatClampNeg).1 = 0 then ((-1000000006), (P, img, tp, t, sh, fB fd 5)) else (nI (laysN (sh x1.toNatClampNeg).2.2 (min (sh x1.toNatClampNeg).2.1.toNatClampNeg m) 0), (laysR (sh x1.toNatClampNeg).2.2 (min (sh x1.toNatClampNeg).2.1.toNatClampNeg m) 0 P, img, tp, t, sh, fd))) else ((-1000000001), (P, img, tp, t, sh, fB fd 0)))
def o_lays (P : rR) (img : Option rR) (tp : Nat → Int32) (t : Nat) (sh : rSh) (fd : Nat → Int32) (x1 : Int32) : Int32 × sT := o_laysM (mO P) P img tp t sh fd x1
def o_bookM (m : Nat) (P : rR) (img : Option rR) (tp : Nat → Int32) (t : Nat) (sh : rSh) (fd : Nat → Int32) (x1 : Int32) (x2 : Int32) : Int32 × sT := (if 0 ≤ x1 ∧ x1 < 4 then (if (sh x1.toNatClampNeg).1 = 0 then ((-1000000006), (P, img, tp, t, sh, fB fd 5)) else (if isW P x2 = true then ((sh x1.toNatClampNeg).2.1, (P, img, tp, t, updS sh x1.toNatClampNeg ((sh x1.toNatClampNeg).1, (sh x1.toNatClampNeg).2.1, bookG (sh x1.toNatClampNeg).1 m x2.toNatClampNeg (sh x1.toNatClampNeg).2.1.toNatClampNeg 0 P (sh x1.toNatClampNeg).2.2), fd)) else ((-1000000001), (P, img, tp, t, sh, fB fd 0)))) else ((-1000000001), (P, img, tp, t, sh, fB fd 0)))
def o_book (P : rR) (img : Option rR) (tp : Nat → Int32) (t : Nat) (sh : rSh) (fd : Nat → Int32) (x1 : Int32) (x2 : Int32) : Int32 × sT := o_bookM (mO P) P img tp t sh fd x1 x2
def o_readM (m : Nat) (P : rR) (img : Option rR) (tp : Nat → Int32) (t : Nat) (sh : rSh) (fd : Nat → Int32) (x1 : Int32) (x2 : Int32) : Int32 × sT := (if 0 ≤ x1 ∧ x1 < 4 then (if (sh x1.toNatClampNeg).1 = 0 then ((-1000000006), (P, img, tp, t, sh, fB fd 5)) else (if isW P x2 = true then (nI (cntUp (readF (sh x1.toNatClampNeg).2.2 m x2.toNatClampNeg (sh x1.toNatClampNeg).2.1.toNatClampNeg P) 60), (P, img, tp, t, sh, fd)) else ((-1000000001), (P, img, tp, t, sh, fB fd 0)))) else ((-1000000001), (P, img, tp, t, sh, fB fd 0)))
def o_read (P : rR) (img : Option rR) (tp : Nat → Int32) (t : Nat) (sh : rSh) (fd : Nat → Int32) (x1 : Int32) (x2 : Int32) : Int32 × sT := o_readM (mO P) P img tp t sh fd x1 x2
def o_image (P : rR) (img : Option rR) (tp : Nat → Int32) (t : Nat) (sh : rSh) (fd : Nat → Int32) : Int32 × sT := (1, (P, some P, tp, t, sh, fd))
def o_undo (P : rR) (img : Option rR) (tp : Nat → Int32) (t : Nat) (sh : rSh) (fd : Nat → Int32) : Int32 × sT := match img with
  | some r => (r 2, (r, img, tp, t, sh, fd))
  | none => (-1000000004, (P, img, tp, t, sh, fB fd 3))
def o_tear (P : rR) (img : Option rR) (tp : Nat → Int32) (t : Nat) (sh : rSh) (fd : Nat → Int32) : Int32 × sT := (if kpO img = 0 then 0 else 1, (P, none, tp, t, sh, fd))
def o_countM (m : Nat) (P : rR) (img : Option rR) (tp : Nat → Int32) (t : Nat) (sh : rSh) (fd : Nat → Int32) (x1 : Int32) : Int32 × sT := (if x1 = 0 then (P 2, (P, img, tp, t, sh, fd)) else (if x1 = 1 then (nI t, (P, img, tp, t, sh, fd)) else (if x1 = 2 then (sumUp P 4 m, (P, img, tp, t, sh, fd)) else (if x1 = 3 then (sumUp P 3 m, (P, img, tp, t, sh, fd)) else ((-1000000001), (P, img, tp, t, sh, fB fd 0))))))
def o_count (P : rR) (img : Option rR) (tp : Nat → Int32) (t : Nat) (sh : rSh) (fd : Nat → Int32) (x1 : Int32) : Int32 × sT := o_countM (mO P) P img tp t sh fd x1
def o_status (P : rR) (img : Option rR) (tp : Nat → Int32) (t : Nat) (sh : rSh) (fd : Nat → Int32) (x1 : Int32) : Int32 × sT := (if -1 ≤ x1 ∧ x1 ≤ 6 then (if x1 < 0 then sumF fd 7 else fd x1.toNatClampNeg, (P, img, tp, t, sh, fd)) else ((-1000000001), (P, img, tp, t, sh, fB fd 0)))
section T90
variable {P : rR} {img : Option rR} {tp : Nat → Int32} {t : Nat} {sh : rSh} {fd : Nat → Int32}
theorem kI_trams (x1 : Int32) (hi : invS (P, img, tp, t, sh, fd)) : invS (o_trams P img tp t sh fd x1).2 := by
  obtain ⟨⟨m, hv⟩, hI, hb, ht, hs⟩ := hi
  have hv : invR P m := hv
  unfold o_trams
  by_cases h1 : 0 ≤ x1 ∧ x1 ≤ 1
  · rw [if_pos h1]
    exact ⟨⟨m, hv.tr (ok01 h1)⟩, hI, hb, ht, hs⟩
  · rw [if_neg h1]
    exact ⟨⟨m, hv⟩, hI, hb, ht, hs⟩
theorem kI_walker (x1 : Int32) (x2 : Int32) (hi : invS (P, img, tp, t, sh, fd)) : invS (o_walker P img tp t sh fd x1 x2).2 := by
  obtain ⟨⟨m, hv⟩, hI, hb, ht, hs⟩ := hi
  have hv : invR P m := hv
  have hm := mO_eq hv
  unfold o_walker
  rw [hm]
  unfold o_walkerM
  by_cases h1 : (0 ≤ x1 ∧ x1 ≤ 5) ∧ (0 ≤ x2 ∧ x2 ≤ 99)
  · rw [if_pos h1]
    by_cases h2 : m = 8
    · rw [if_pos h2]
      exact ⟨⟨m, hv⟩, hI, hb, ht, hs⟩
    · rw [if_neg h2]
      exact ⟨⟨_, inv_walker hv h1 h2⟩, hI, hb, ht, hs⟩
  · rw [if_neg h1]
    exact ⟨⟨m, hv⟩, hI, hb, ht, hs⟩
theorem kI_of (x1 : Int32) (x2 : Int32) (hi : invS (P, img, tp, t, sh, fd)) : invS (o_of P img tp t sh fd x1 x2).2 := by
  obtain ⟨⟨m, hv⟩, hI, hb, ht, hs⟩ := hi
  have hv : invR P m := hv
  have hm := mO_eq hv
  unfold o_of
  rw [hm]
  unfold o_ofM
  by_cases h1 : (isW P x1 && decide (0 ≤ x2 ∧ x2 ≤ 9)) = true
  · rw [if_pos h1]
    exact ⟨⟨m, hv⟩, hI, hb, ht, hs⟩
  · rw [if_neg h1]
    exact ⟨⟨m, hv⟩, hI, hb, ht, hs⟩
theorem kI_set (x1 : Int32) (x2 : Int32) (x3 : Int32) (hi : invS (P, img, tp, t, sh, fd)) : invS (o_set P img tp t sh fd x1 x2 x3).2 := by
  obtain ⟨⟨m, hv⟩, hI, hb, ht, hs⟩ := hi
  have hv : invR P m := hv
  unfold o_set
  by_cases h1 : setOK P x1 x2 x3 = true
  · rw [if_pos h1]
    exact ⟨⟨m, inv_set hv h1⟩, hI, hb, ht, hs⟩
  · rw [if_neg h1]
    exact ⟨⟨m, hv⟩, hI, hb, ht, hs⟩
theorem kI_turn (x1 : Int32) (x2 : Int32) (hi : invS (P, img, tp, t, sh, fd)) : invS (o_turn P img tp t sh fd x1 x2).2 := by
  obtain ⟨⟨m, hv⟩, hI, hb, ht, hs⟩ := hi
  have hv : invR P m := hv
  unfold o_turn
  by_cases h1 : (isW P x1 && decide (0 ≤ x2 ∧ x2 ≤ 5)) = true
  · rw [if_pos h1]
    exact ⟨⟨m, inv_turn hv h1⟩, hI, hb, ht, hs⟩
  · rw [if_neg h1]
    exact ⟨⟨m, hv⟩, hI, hb, ht, hs⟩
theorem kI_as (x1 : Int32) (x2 : Int32) (hi : invS (P, img, tp, t, sh, fd)) : invS (o_as P img tp t sh fd x1 x2).2 := by
  obtain ⟨⟨m, hv⟩, hI, hb, ht, hs⟩ := hi
  have hv : invR P m := hv
  unfold o_as
  by_cases h1 : (isW P x1 && decide (0 ≤ x2 ∧ x2 ≤ 5)) = true
  · rw [if_pos h1]
    by_cases h2 : underI (its P x1.toNatClampNeg 0) x2 = true
    · rw [if_pos h2]
      exact ⟨⟨m, hv⟩, hI, hb, ht, hs⟩
    · rw [if_neg h2]
      exact ⟨⟨m, hv⟩, hI, hb, ht, hs⟩
  · rw [if_neg h1]
    exact ⟨⟨m, hv⟩, hI, hb, ht, hs⟩
theorem kI_sees (x1 : Int32) (hi : invS (P, img, tp, t, sh, fd)) : invS (o_sees P img tp t sh fd x1).2 := by
  obtain ⟨⟨m, hv⟩, hI, hb, ht, hs⟩ := hi
  have hv : invR P m := hv
  have hm := mO_eq hv
  unfold o_sees
  rw [hm]
  unfold o_seesM
  by_cases h1 : isW P x1 = true
  · rw [if_pos h1]
    exact ⟨⟨m, hv⟩, hI, hb, ht, hs⟩
  · rw [if_neg h1]
    exact ⟨⟨m, hv⟩, hI, hb, ht, hs⟩
theorem kI_leader (x1 : Int32) (hi : invS (P, img, tp, t, sh, fd)) : invS (o_leader P img tp t sh fd x1).2 := by
  obtain ⟨⟨m, hv⟩, hI, hb, ht, hs⟩ := hi
  have hv : invR P m := hv
  have hm := mO_eq hv
  unfold o_leader
  rw [hm]
  unfold o_leaderM
  by_cases h1 : isW P x1 = true
  · rw [if_pos h1]
    by_cases h2 : ledB P x1.toNatClampNeg m = true
    · rw [if_pos h2]
      exact ⟨⟨m, hv⟩, hI, hb, ht, hs⟩
    · rw [if_neg h2]
      exact ⟨⟨m, hv⟩, hI, hb, ht, hs⟩
  · rw [if_neg h1]
    exact ⟨⟨m, hv⟩, hI, hb, ht, hs⟩
theorem kI_minutes (x1 : Int32) (hi : invS (P, img, tp, t, sh, fd)) : invS (o_minutes P img tp t sh fd x1).2 := by
  obtain ⟨⟨m, hv⟩, hI, hb, ht, hs⟩ := hi
  have hv : invR P m := hv
  have hm := mO_eq hv
  unfold o_minutes
  rw [hm]
  unfold o_minutesM
  by_cases h1 : 1 ≤ x1 ∧ x1 ≤ 100
  · rw [if_pos h1]
    by_cases h2 : P 0 + x1 ≤ 99999
    · rw [if_pos h2]
      exact ⟨⟨m, invR.mins _ hv⟩, hI, hb, ht, hs⟩
    · rw [if_neg h2]
      exact ⟨⟨m, hv⟩, hI, hb, ht, hs⟩
  · rw [if_neg h1]
    exact ⟨⟨m, hv⟩, hI, hb, ht, hs⟩
theorem kI_now (x1 : Int32) (hi : invS (P, img, tp, t, sh, fd)) : invS (o_now P img tp t sh fd x1).2 := by
  obtain ⟨⟨m, hv⟩, hI, hb, ht, hs⟩ := hi
  have hv : invR P m := hv
  have hm := mO_eq hv
  unfold o_now
  rw [hm]
  unfold o_nowM
  by_cases h1 : x1 = 0
  · rw [if_pos h1]
    exact ⟨⟨m, hv⟩, hI, hb, ht, hs⟩
  · rw [if_neg h1]
    by_cases h2 : x1 = 1
    · rw [if_pos h2]
      exact ⟨⟨m, hv⟩, hI, hb, ht, hs⟩
    · rw [if_neg h2]
      by_cases h3 : x1 = 2
      · rw [if_pos h3]
        exact ⟨⟨m, hv⟩, hI, hb, ht, hs⟩
      · rw [if_neg h3]
        by_cases h4 : x1 = 3
        · rw [if_pos h4]
          exact ⟨⟨m, hv⟩, hI, hb, ht, hs⟩
        · rw [if_neg h4]
          by_cases h5 : x1 = 4
          · rw [if_pos h5]
            exact ⟨⟨m, hv⟩, hI, hb, ht, hs⟩
          · rw [if_neg h5]
            by_cases h6 : x1 = 5
            · rw [if_pos h6]
              exact ⟨⟨m, hv⟩, hI, hb, ht, hs⟩
            · rw [if_neg h6]
              exact ⟨⟨m, hv⟩, hI, hb, ht, hs⟩
theorem kI_on (x1 : Int32) (x2 : Int32) (x3 : Int32) (hi : invS (P, img, tp, t, sh, fd)) : invS (o_on P img tp t sh fd x1 x2 x3).2 := by
  obtain ⟨⟨m, hv⟩, hI, hb, ht, hs⟩ := hi
  have hv : invR P m := hv
  have hm := mO_eq hv
  unfold o_on
  rw [hm]
  unfold o_onM
  by_cases h1 : (isW P x1 && decide (0 ≤ x2 ∧ x2 ≤ 200) && decide (0 ≤ x3 ∧ x3 ≤ 3)) = true
  · rw [if_pos h1]
    exact ⟨⟨m, hv⟩, hI, hb, ht, hs⟩
  · rw [if_neg h1]
    exact ⟨⟨m, hv⟩, hI, hb, ht, hs⟩
theorem kI_through (x1 : Int32) (hi : invS (P, img, tp, t, sh, fd)) : invS (o_through P img tp t sh fd x1).2 := by
  obtain ⟨⟨m, hv⟩, hI, hb, ht, hs⟩ := hi
  have hv : invR P m := hv
  have hm := mO_eq hv
  unfold o_through
  rw [hm]
  unfold o_throughM
  by_cases h1 : isW P x1 = true
  · rw [if_pos h1]
    by_cases h2 : tillR m x1.toNatClampNeg 201 P ≤ 200
    · rw [if_pos h2]
      exact ⟨⟨m, hv⟩, hI, hb, ht, hs⟩
    · rw [if_neg h2]
      exact ⟨⟨m, hv⟩, hI, hb, ht, hs⟩
  · rw [if_neg h1]
    exact ⟨⟨m, hv⟩, hI, hb, ht, hs⟩
theorem kI_bumps (x1 : Int32) (hi : invS (P, img, tp, t, sh, fd)) : invS (o_bumps P img tp t sh fd x1).2 := by
  obtain ⟨⟨m, hv⟩, hI, hb, ht, hs⟩ := hi
  have hv : invR P m := hv
  have hm := mO_eq hv
  unfold o_bumps
  rw [hm]
  unfold o_bumpsM
  by_cases h1 : isW P x1 = true
  · rw [if_pos h1]
    by_cases h2 : thenN (fun r => decide (its P x1.toNatClampNeg 6 < its r x1.toNatClampNeg 6)) m 200 P < 200
    · rw [if_pos h2]
      exact ⟨⟨m, hv⟩, hI, hb, ht, hs⟩
    · rw [if_neg h2]
      exact ⟨⟨m, hv⟩, hI, hb, ht, hs⟩
  · rw [if_neg h1]
    exact ⟨⟨m, hv⟩, hI, hb, ht, hs⟩
theorem kI_meet (x1 : Int32) (x2 : Int32) (hi : invS (P, img, tp, t, sh, fd)) : invS (o_meet P img tp t sh fd x1 x2).2 := by
  obtain ⟨⟨m, hv⟩, hI, hb, ht, hs⟩ := hi
  have hv : invR P m := hv
  have hm := mO_eq hv
  unfold o_meet
  rw [hm]
  unfold o_meetM
  by_cases h1 : isW P x1 = true ∧ isW P x2 = true ∧ ¬ x1 = x2
  · rw [if_pos h1]
    by_cases h2 : firstN (fun r => seesP r x1.toNatClampNeg x2.toNatClampNeg && seesP r x2.toNatClampNeg x1.toNatClampNeg) m 201 P < 201
    · rw [if_pos h2]
      exact ⟨⟨m, hv⟩, hI, hb, ht, hs⟩
    · rw [if_neg h2]
      exact ⟨⟨m, hv⟩, hI, hb, ht, hs⟩
  · rw [if_neg h1]
    exact ⟨⟨m, hv⟩, hI, hb, ht, hs⟩
theorem kI_pace (x1 : Int32) (hi : invS (P, img, tp, t, sh, fd)) : invS (o_pace P img tp t sh fd x1).2 := by
  obtain ⟨⟨m, hv⟩, hI, hb, ht, hs⟩ := hi
  have hv : invR P m := hv
  have hm := mO_eq hv
  unfold o_pace
  rw [hm]
  unfold o_paceM
  by_cases h1 : isW P x1 = true
  · rw [if_pos h1]
    by_cases h2 : (soonUp m x1.toNatClampNeg 3 P 10).1 = -1
    · rw [if_pos h2]
      exact ⟨⟨m, hv⟩, hI, hb, ht, hs⟩
    · rw [if_neg h2]
      exact ⟨⟨m, hv⟩, hI, hb, ht, hs⟩
  · rw [if_neg h1]
    exact ⟨⟨m, hv⟩, hI, hb, ht, hs⟩
theorem kI_kind (x1 : Int32) (hi : invS (P, img, tp, t, sh, fd)) : invS (o_kind P img tp t sh fd x1).2 := by
  obtain ⟨⟨m, hv⟩, hI, hb, ht, hs⟩ := hi
  have hv : invR P m := hv
  have hm := mO_eq hv
  unfold o_kind
  rw [hm]
  unfold o_kindM
  by_cases h1 : isW P x1 = true
  · rw [if_pos h1]
    by_cases h2 : (soonUp m x1.toNatClampNeg 0 P 6).1 = -1
    · rw [if_pos h2]
      exact ⟨⟨m, hv⟩, hI, hb, ht, hs⟩
    · rw [if_neg h2]
      exact ⟨⟨m, hv⟩, hI, hb, ht, hs⟩
  · rw [if_neg h1]
    exact ⟨⟨m, hv⟩, hI, hb, ht, hs⟩
theorem kI_begin (x1 : Int32) (x2 : Int32) (hi : invS (P, img, tp, t, sh, fd)) : invS (o_begin P img tp t sh fd x1 x2).2 := by
  obtain ⟨⟨m, hv⟩, hI, hb, ht, hs⟩ := hi
  have hv : invR P m := hv
  have hm := mO_eq hv
  unfold o_begin
  rw [hm]
  unfold o_beginM
  by_cases h1 : (isW P x1 && decide (1 ≤ x2 ∧ x2 ≤ 20)) = true
  · rw [if_pos h1]
    exact ⟨⟨m, hv⟩, hI, hb, ht, hs⟩
  · rw [if_neg h1]
    exact ⟨⟨m, hv⟩, hI, hb, ht, hs⟩
theorem kI_fewest (x1 : Int32) (hi : invS (P, img, tp, t, sh, fd)) : invS (o_fewest P img tp t sh fd x1).2 := by
  obtain ⟨⟨m, hv⟩, hI, hb, ht, hs⟩ := hi
  have hv : invR P m := hv
  have hm := mO_eq hv
  unfold o_fewest
  rw [hm]
  unfold o_fewestM
  by_cases h1 : 1 ≤ x1 ∧ x1 ≤ 20
  · rw [if_pos h1]
    cases hz : fewS (fewG m x1.toNatClampNeg P) (2 ^ m) (m + 1) 0 with
    | some z =>
      exact ⟨⟨m, hv⟩, hI, hb, ht, hs⟩
    | none =>
      exact ⟨⟨m, hv⟩, hI, hb, ht, hs⟩
  · rw [if_neg h1]
    exact ⟨⟨m, hv⟩, hI, hb, ht, hs⟩
theorem kI_other (x1 : Int32) (hi : invS (P, img, tp, t, sh, fd)) : invS (o_other P img tp t sh fd x1).2 := by
  obtain ⟨⟨m, hv⟩, hI, hb, ht, hs⟩ := hi
  have hv : invR P m := hv
  have hm := mO_eq hv
  unfold o_other
  rw [hm]
  unfold o_otherM
  by_cases h1 : 1 ≤ x1 ∧ x1 ≤ 60
  · rw [if_pos h1]
    by_cases h2 : (othUp m x1.toNatClampNeg P m).1 = -1
    · rw [if_pos h2]
      exact ⟨⟨m, hv⟩, hI, hb, ht, hs⟩
    · rw [if_neg h2]
      exact ⟨⟨m, hv⟩, hI, hb, ht, hs⟩
  · rw [if_neg h1]
    exact ⟨⟨m, hv⟩, hI, hb, ht, hs⟩
theorem kI_first (hi : invS (P, img, tp, t, sh, fd)) : invS (o_first P img tp t sh fd).2 := by
  obtain ⟨⟨m, hv⟩, hI, hb, ht, hs⟩ := hi
  have hv : invR P m := hv
  have hm := mO_eq hv
  unfold o_first
  rw [hm]
  unfold o_firstM
  by_cases h1 : hasT m 201 P = true
  · rw [if_pos h1]
    exact ⟨⟨m, hv⟩, hI, hb, ht, hs⟩
  · rw [if_neg h1]
    exact ⟨⟨m, hv⟩, hI, hb, ht, hs⟩
theorem kI_feed (x1 : Int32) (x2 : Int32) (hi : invS (P, img, tp, t, sh, fd)) : invS (o_feed P img tp t sh fd x1 x2).2 := by
  obtain ⟨⟨m, hv⟩, hI, hb, ht, hs⟩ := hi
  have hv : invR P m := hv
  unfold o_feed
  by_cases h1 : 1 ≤ x2 ∧ x2 ≤ 4
  · rw [if_pos h1]
    by_cases h2 : t + x2.toNatClampNeg ≤ 120
    · rw [if_pos h2]
      exact ⟨⟨m, hv⟩, hI, inv_feed _ _ _ hb, h2, hs⟩
    · rw [if_neg h2]
      exact ⟨⟨m, hv⟩, hI, hb, ht, hs⟩
  · rw [if_neg h1]
    exact ⟨⟨m, hv⟩, hI, hb, ht, hs⟩
theorem kI_wipe (hi : invS (P, img, tp, t, sh, fd)) : invS (o_wipe P img tp t sh fd).2 := by
  obtain ⟨⟨m, hv⟩, hI, hb, ht, hs⟩ := hi
  have hv : invR P m := hv
  unfold o_wipe
  exact ⟨⟨m, hv⟩, hI, hb, Nat.zero_le 120, hs⟩
theorem kI_avenue (hi : invS (P, img, tp, t, sh, fd)) : invS (o_avenue P img tp t sh fd).2 := by
  obtain ⟨⟨m, hv⟩, hI, hb, ht, hs⟩ := hi
  have hv : invR P m := hv
  unfold o_avenue
  exact ⟨inv_avenue ht ⟨m, hv⟩, hI, hb, Nat.zero_le 120, hs⟩
theorem kI_sheet (x1 : Int32) (x2 : Int32) (x3 : Int32) (hi : invS (P, img, tp, t, sh, fd)) : invS (o_sheet P img tp t sh fd x1 x2 x3).2 := by
  obtain ⟨⟨m, hv⟩, hI, hb, ht, hs⟩ := hi
  have hv : invR P m := hv
  unfold o_sheet
  by_cases h1 : (0 ≤ x1 ∧ x1 < 4) ∧ (x2 = 0 ∨ x2 = 8 ∨ x2 = 16 ∨ x2 = 64)
  · rw [if_pos h1]
    by_cases h2 : x3 < 0
    · rw [if_pos h2]
      exact ⟨⟨m, hv⟩, hI, hb, ht, hs⟩
    · rw [if_neg h2]
      by_cases h3 : x3 ≤ 40
      · rw [if_pos h3]
        exact ⟨⟨m, hv⟩, hI, hb, ht, inv_sheet hs h2 h3⟩
      · rw [if_neg h3]
        exact ⟨⟨m, hv⟩, hI, hb, ht, hs⟩
  · rw [if_neg h1]
    exact ⟨⟨m, hv⟩, hI, hb, ht, hs⟩
theorem kI_write (x1 : Int32) (x2 : Int32) (x3 : Int64) (hi : invS (P, img, tp, t, sh, fd)) : invS (o_write P img tp t sh fd x1 x2 x3).2 := by
  obtain ⟨⟨m, hv⟩, hI, hb, ht, hs⟩ := hi
  have hv : invR P m := hv
  unfold o_write
  by_cases h1 : 0 ≤ x1 ∧ x1 < 4
  · rw [if_pos h1]
    by_cases h2 : (sh x1.toNatClampNeg).1 = 0
    · rw [if_pos h2]
      exact ⟨⟨m, hv⟩, hI, hb, ht, hs⟩
    · rw [if_neg h2]
      by_cases h3 : 0 ≤ x2 ∧ x2 ≤ (sh x1.toNatClampNeg).2.1 - 1
      · rw [if_pos h3]
        exact ⟨⟨m, hv⟩, hI, hb, ht, inv_up hs⟩
      · rw [if_neg h3]
        exact ⟨⟨m, hv⟩, hI, hb, ht, hs⟩
  · rw [if_neg h1]
    exact ⟨⟨m, hv⟩, hI, hb, ht, hs⟩
theorem kI_copy (x1 : Int32) (x2 : Int32) (x3 : Int32) (x4 : Int32) (x5 : Int32) (hi : invS (P, img, tp, t, sh, fd)) : invS (o_copy P img tp t sh fd x1 x2 x3 x4 x5).2 := by
  obtain ⟨⟨m, hv⟩, hI, hb, ht, hs⟩ := hi
  have hv : invR P m := hv
  unfold o_copy
  by_cases h1 : (0 ≤ x1 ∧ x1 < 4) ∧ (0 ≤ x3 ∧ x3 < 4)
  · rw [if_pos h1]
    by_cases h2 : (sh x1.toNatClampNeg).1 = 0 ∨ (sh x3.toNatClampNeg).1 = 0
    · rw [if_pos h2]
      exact ⟨⟨m, hv⟩, hI, hb, ht, hs⟩
    · rw [if_neg h2]
      by_cases h3 : (sh x1.toNatClampNeg).1 = (sh x3.toNatClampNeg).1
      · rw [if_pos h3]
        by_cases h4 : (hasB (sh x1.toNatClampNeg).2.1 x2 x5 && hasB (sh x3.toNatClampNeg).2.1 x4 x5) = true
        · rw [if_pos h4]
          exact ⟨⟨m, hv⟩, hI, hb, ht, inv_up hs⟩
        · rw [if_neg h4]
          exact ⟨⟨m, hv⟩, hI, hb, ht, hs⟩
      · rw [if_neg h3]
        exact ⟨⟨m, hv⟩, hI, hb, ht, hs⟩
  · rw [if_neg h1]
    exact ⟨⟨m, hv⟩, hI, hb, ht, hs⟩
theorem kI_lays (x1 : Int32) (hi : invS (P, img, tp, t, sh, fd)) : invS (o_lays P img tp t sh fd x1).2 := by
  obtain ⟨⟨m, hv⟩, hI, hb, ht, hs⟩ := hi
  have hv : invR P m := hv
  have hm := mO_eq hv
  unfold o_lays
  rw [hm]
  unfold o_laysM
  by_cases h1 : 0 ≤ x1 ∧ x1 < 4
  · rw [if_pos h1]
    by_cases h2 : (sh x1.toNatClampNeg).1 = 0
    · rw [if_pos h2]
      exact ⟨⟨m, hv⟩, hI, hb, ht, hs⟩
    · rw [if_neg h2]
      exact ⟨⟨m, inv_lays _ _ _ hv⟩, hI, hb, ht, hs⟩
  · rw [if_neg h1]
    exact ⟨⟨m, hv⟩, hI, hb, ht, hs⟩
theorem kI_book (x1 : Int32) (x2 : Int32) (hi : invS (P, img, tp, t, sh, fd)) : invS (o_book P img tp t sh fd x1 x2).2 := by
  obtain ⟨⟨m, hv⟩, hI, hb, ht, hs⟩ := hi
  have hv : invR P m := hv
  have hm := mO_eq hv
  unfold o_book
  rw [hm]
  unfold o_bookM
  by_cases h1 : 0 ≤ x1 ∧ x1 < 4
  · rw [if_pos h1]
    by_cases h2 : (sh x1.toNatClampNeg).1 = 0
    · rw [if_pos h2]
      exact ⟨⟨m, hv⟩, hI, hb, ht, hs⟩
    · rw [if_neg h2]
      by_cases h3 : isW P x2 = true
      · rw [if_pos h3]
        exact ⟨⟨m, hv⟩, hI, hb, ht, inv_up hs⟩
      · rw [if_neg h3]
        exact ⟨⟨m, hv⟩, hI, hb, ht, hs⟩
  · rw [if_neg h1]
    exact ⟨⟨m, hv⟩, hI, hb, ht, hs⟩
theorem kI_read (x1 : Int32) (x2 : Int32) (hi : invS (P, img, tp, t, sh, fd)) : invS (o_read P img tp t sh fd x1 x2).2 := by
  obtain ⟨⟨m, hv⟩, hI, hb, ht, hs⟩ := hi
  have hv : invR P m := hv
  have hm := mO_eq hv
  unfold o_read
  rw [hm]
  unfold o_readM
  by_cases h1 : 0 ≤ x1 ∧ x1 < 4
  · rw [if_pos h1]
    by_cases h2 : (sh x1.toNatClampNeg).1 = 0
    · rw [if_pos h2]
      exact ⟨⟨m, hv⟩, hI, hb, ht, hs⟩
    · rw [if_neg h2]
      by_cases h3 : isW P x2 = true
      · rw [if_pos h3]
        exact ⟨⟨m, hv⟩, hI, hb, ht, hs⟩
      · rw [if_neg h3]
        exact ⟨⟨m, hv⟩, hI, hb, ht, hs⟩
  · rw [if_neg h1]
    exact ⟨⟨m, hv⟩, hI, hb, ht, hs⟩
theorem kI_image (hi : invS (P, img, tp, t, sh, fd)) : invS (o_image P img tp t sh fd).2 := by
  obtain ⟨⟨m, hv⟩, hI, hb, ht, hs⟩ := hi
  have hv : invR P m := hv
  unfold o_image
  exact ⟨⟨m, hv⟩, (fun r hr => by cases hr; exact ⟨m, hv⟩), hb, ht, hs⟩
theorem kI_undo (hi : invS (P, img, tp, t, sh, fd)) : invS (o_undo P img tp t sh fd).2 := by
  obtain ⟨⟨m, hv⟩, hI, hb, ht, hs⟩ := hi
  have hv : invR P m := hv
  unfold o_undo
  cases img with
  | some r => exact ⟨hI r rfl, hI, hb, ht, hs⟩
  | none => exact ⟨⟨m, hv⟩, hI, hb, ht, hs⟩
theorem kI_tear (hi : invS (P, img, tp, t, sh, fd)) : invS (o_tear P img tp t sh fd).2 := by
  obtain ⟨⟨m, hv⟩, hI, hb, ht, hs⟩ := hi
  have hv : invR P m := hv
  unfold o_tear
  exact ⟨⟨m, hv⟩, (fun r hr => by cases hr), hb, ht, hs⟩
theorem kI_count (x1 : Int32) (hi : invS (P, img, tp, t, sh, fd)) : invS (o_count P img tp t sh fd x1).2 := by
  obtain ⟨⟨m, hv⟩, hI, hb, ht, hs⟩ := hi
  have hv : invR P m := hv
  have hm := mO_eq hv
  unfold o_count
  rw [hm]
  unfold o_countM
  by_cases h1 : x1 = 0
  · rw [if_pos h1]
    exact ⟨⟨m, hv⟩, hI, hb, ht, hs⟩
  · rw [if_neg h1]
    by_cases h2 : x1 = 1
    · rw [if_pos h2]
      exact ⟨⟨m, hv⟩, hI, hb, ht, hs⟩
    · rw [if_neg h2]
      by_cases h3 : x1 = 2
      · rw [if_pos h3]
        exact ⟨⟨m, hv⟩, hI, hb, ht, hs⟩
      · rw [if_neg h3]
        by_cases h4 : x1 = 3
        · rw [if_pos h4]
          exact ⟨⟨m, hv⟩, hI, hb, ht, hs⟩
        · rw [if_neg h4]
          exact ⟨⟨m, hv⟩, hI, hb, ht, hs⟩
theorem kI_status (x1 : Int32) (hi : invS (P, img, tp, t, sh, fd)) : invS (o_status P img tp t sh fd x1).2 := by
  obtain ⟨⟨m, hv⟩, hI, hb, ht, hs⟩ := hi
  have hv : invR P m := hv
  unfold o_status
  by_cases h1 : -1 ≤ x1 ∧ x1 ≤ 6
  · rw [if_pos h1]
    exact ⟨⟨m, hv⟩, hI, hb, ht, hs⟩
  · rw [if_neg h1]
    exact ⟨⟨m, hv⟩, hI, hb, ht, hs⟩
end T90
