def bumpR (r : rR) (i j : Nat) : rR :=
  if turnsOf (its (upd (upd r (3 + 7 * i + 6) (iMin (its r i 6 + 1) 999)) (3 + 7 * j + 6) (iMin (its (upd r (3 + 7 * i + 6) (iMin (its r i 6 + 1) 999)) j 6 + 1) 999)) i 0) (its (upd (upd r (3 + 7 * i + 6) (iMin (its r i 6 + 1) 999)) (3 + 7 * j + 6) (iMin (its (upd r (3 + 7 * i + 6) (iMin (its r i 6 + 1) 999)) j 6 + 1) 999)) i 3) = true then
    upd (upd (upd (upd r (3 + 7 * i + 6) (iMin (its r i 6 + 1) 999)) (3 + 7 * j + 6) (iMin (its (upd r (3 + 7 * i + 6) (iMin (its r i 6 + 1) 999)) j 6 + 1) 999)) (3 + 7 * i + 4) (1 - its (upd (upd r (3 + 7 * i + 6) (iMin (its r i 6 + 1) 999)) (3 + 7 * j + 6) (iMin (its (upd r (3 + 7 * i + 6) (iMin (its r i 6 + 1) 999)) j 6 + 1) 999)) i 4)) (3 + 7 * i + 5) (iMin (its (upd (upd (upd r (3 + 7 * i + 6) (iMin (its r i 6 + 1) 999)) (3 + 7 * j + 6) (iMin (its (upd r (3 + 7 * i + 6) (iMin (its r i 6 + 1) 999)) j 6 + 1) 999)) (3 + 7 * i + 4) (1 - its (upd (upd r (3 + 7 * i + 6) (iMin (its r i 6 + 1) 999)) (3 + 7 * j + 6) (iMin (its (upd r (3 + 7 * i + 6) (iMin (its r i 6 + 1) 999)) j 6 + 1) 999)) i 4)) i 5 + its (upd (upd (upd r (3 + 7 * i + 6) (iMin (its r i 6 + 1) 999)) (3 + 7 * j + 6) (iMin (its (upd r (3 + 7 * i + 6) (iMin (its r i 6 + 1) 999)) j 6 + 1) 999)) (3 + 7 * i + 4) (1 - its (upd (upd r (3 + 7 * i + 6) (iMin (its r i 6 + 1) 999)) (3 + 7 * j + 6) (iMin (its (upd r (3 + 7 * i + 6) (iMin (its r i 6 + 1) 999)) j 6 + 1) 999)) i 4)) i 4) 999)
  else upd (upd r (3 + 7 * i + 6) (iMin (its r i 6 + 1) 999)) (3 + 7 * j + 6) (iMin (its (upd r (3 + 7 * i + 6) (iMin (its r i 6 + 1) 999)) j 6 + 1) 999)
def tramAt (r : rR) : Int32 := 4 * r 0 - 4 * r 0 / 100 * 100
def rideR (r : rR) (i : Nat) : rR := if thru r i = true then r else if r 1 = 0 then r else if its r i 1 = tramAt r then (if its r i 2 = 1 then upd r (3 + 7 * i + 1) (iMin (its r i 1 + 5) 99) else upd r (3 + 7 * i + 1) (iMax (its r i 1 - 5) 0)) else r
def wayOf (r : rR) (i : Nat) : Int32 := if its r i 2 = 1 then 1 else -1
def walkR (m i : Nat) (wy : Int32) : Nat → rR → rR
  | 0, r => r
  | d + 1, r => if thru (upd r (3 + 7 * i + 1) (its r i 1 + wy)) i = true then upd r (3 + 7 * i + 1) (its r i 1 + wy) else match inWay (upd r (3 + 7 * i + 1) (its r i 1 + wy)) i m 0 with
    | some j => bumpR (upd r (3 + 7 * i + 1) (its r i 1 + wy)) i j
    | none => walkR m i wy d (upd r (3 + 7 * i + 1) (its r i 1 + wy))
def stepR (m : Nat) (r : rR) (i : Nat) : rR := if thru r i = true then r else rideR (walkR m i (wayOf r i) (goesAt r i m).toNatClampNeg r) i
def minUp (m : Nat) (r : rR) : Nat → rR
  | 0 => r
  | j + 1 => stepR m (minUp m r j) j
def minR (m : Nat) (r : rR) : rR := upd (minUp m r m) 0 (minUp m r m 0 + 1)
def minsR (m : Nat) : Nat → rR → rR
  | 0, r => r
  | d + 1, r => minsR m d (minR m r)
theorem upd_ne {r : rR} {p q : Nat} {x : Int32} (h : q ≠ p) : upd r p x q = r q := by unfold upd; rw [if_neg h]
theorem upd_eq {r : rR} {p : Nat} {x : Int32} : upd r p x p = x := by simp [upd]
theorem its_ne {r : rR} {i j c d : Nat} {x : Int32} (hc : c < 7) (hd : d < 7) (h : ¬ (i = j ∧ c = d)) : its (upd r (3 + 7 * i + c) x) j d = its r j d := by
  unfold its
  exact upd_ne (by omega)
theorem its_eq {r : rR} {i c : Nat} {x : Int32} : its (upd r (3 + 7 * i + c) x) i c = x := upd_eq
theorem kOK.up {r : rR} {m i c : Nat} {x : Int32} (h : kOK r m) (hc : 0 < c) (hc7 : c < 7) : kOK (upd r (3 + 7 * i + c) x) m := by
  refine ⟨by rw [upd_ne (by omega)]; exact h.1, h.2.1, fun j hj => ?_⟩
  obtain ⟨kd, h1, h2⟩ := h.2.2 j hj
  exact ⟨kd, h1, by rw [its_ne hc7 (by decide) (by omega)]; exact h2⟩
theorem kOK.lo {r : rR} {m p : Nat} {x : Int32} (h : kOK r m) (hp : p < 2) : kOK (upd r p x) m := by
  refine ⟨by rw [upd_ne (by omega)]; exact h.1, h.2.1, fun j hj => ?_⟩
  obtain ⟨kd, h1, h2⟩ := h.2.2 j hj
  exact ⟨kd, h1, by unfold its at *; rw [upd_ne (by omega)]; exact h2⟩
theorem kOK.bump {r : rR} {m i j : Nat} (h : kOK r m) : kOK (bumpR r i j) m := by
  unfold bumpR
  split
  · exact (((h.up (by decide) (by decide)).up (by decide) (by decide)).up (by decide) (by decide)).up (by decide) (by decide)
  · exact (h.up (by decide) (by decide)).up (by decide) (by decide)
theorem kOK.ride {r : rR} {m i : Nat} (h : kOK r m) : kOK (rideR r i) m := by
  unfold rideR
  repeat' split
  all_goals first | exact h | exact h.up (by decide) (by decide)
theorem kOK.walk {m i : Nat} {wy : Int32} : ∀ (d : Nat) (r : rR), kOK r m → kOK (walkR m i wy d r) m
  | 0, r, h => h
  | d + 1, r, h => by
    have h1 : kOK (upd r (3 + 7 * i + 1) (its r i 1 + wy)) m := h.up (by decide) (by decide)
    unfold walkR
    split
    · exact h1
    · split
      · exact h1.bump
      · exact kOK.walk d _ h1
theorem kOK.step {r : rR} {m i : Nat} (h : kOK r m) : kOK (stepR m r i) m := by
  unfold stepR
  split
  · exact h
  · exact (kOK.walk _ _ h).ride
theorem kOK.minUp {r : rR} {m : Nat} (h : kOK r m) : ∀ j, kOK (minUp m r j) m
  | 0 => h
  | j + 1 => (kOK.minUp h j).step
theorem kOK.min {r : rR} {m : Nat} (h : kOK r m) : kOK (minR m r) m := (h.minUp m).lo (by decide)
theorem kOK.mins {m : Nat} : ∀ (d : Nat) {r : rR}, kOK r m → kOK (minsR m d r) m
  | 0, _, h => h
  | d + 1, _, h => kOK.mins d h.min
theorem inWay_lt {r : rR} {i : Nat} : ∀ {d j q : Nat}, inWay r i d j = some q → q < j + d
  | 0, _, _, h => by cases h
  | d + 1, j, q, h => by
    unfold inWay at h
    split at h
    · cases h; omega
    · have := inWay_lt h; omega
theorem ge_clamp {p : Int32} {q : Nat} (hq : q < 2 ^ 31) : (p ≤ nI q) = (p.toNatClampNeg ≤ q) := by
  rw [Int32.le_iff_toInt_le, nI_toInt hq]
  show _ = (p.toInt.toNat ≤ q)
  exact propext ⟨fun h => by omega, fun h => by omega⟩
theorem clamp_lt (p : Int32) : p.toNatClampNeg < 2 ^ 31 := by
  have := Int32.toInt_lt p
  show p.toInt.toNat < 2 ^ 31
  omega
section T24
variable {θ : (Nat → Value) × (Nat → Nat)} {n : Nat} {w : rW} {k b : Nat} {r : rR} {Q : rQ}
theorem sX0_bump (hx : exOK θ w b) (hb : b ≤ k) {i j : Nat} (hi : i < 8) (hj : j < 8) : sg θ (n + 2) 15 [.ref k, .int (nI i), .int (nI j)] (avSet w k r) Q ↔ Q none (avSet w k (bumpR r i j)) := by
  rw [nX0_bump]
  simp only [eX0_bump_0, eX0_bump_1, eX0_bump_4, eX0_bump_5, eX0_bump_6, eX0_bump_9, eX0_bump_10, eX0_bump_11, eX0_bump_12, eX0_bump_13, eX0_bump_16, eX0_bump_19, eX0_bump_20, eX0_bump_21, eX0_bump_24, eX0_bump_25, eX0_bump_26, eX0_bump_29, eX0_bump_30, eX0_bump_31, eX0_bump_32, eX0_bump_33, eX0_bump_36, eX0_bump_39, eX0_bump_40, eX0_bump_41, eX0_bump_44, eX0_bump_45, eX0_bump_46, eX0_bump_47, eX0_bump_50, eX0_bump_51, eX0_bump_52, eX0_bump_55, eX0_bump_58, eX0_bump_59, eX0_bump_62, eX0_bump_63, eX0_bump_64, eX0_bump_65, eX0_bump_68, eX0_bump_69, eX0_bump_70, eX0_bump_71, eX0_bump_72, eX0_bump_73, eX0_bump_76, eX0_bump_77, eX0_bump_78, eX0_bump_81, eX0_bump_82, eX0_bump_83, eX0_bump_84, eX0_bump_87, eX0_bump_88, eX0_bump_89, eX0_bump_90, eX0_bump_93, eX0_bump_96, eX0_bump_97, av_f0, av_f1, av_f2, av_f3, av_f4, av_f5, av_f6, av_f7, av_f8, av_f9, av_n0, av_n1, av_n2, av_n3, av_n4, av_n5, av_n6, av_w0, av_w1, av_w2, av_w3, av_w4, av_w5, av_w6, av_v0, av_v1, av_v2, av_v3, av_v4, av_v5, av_v6, av_s0, av_s1, av_s2, av_s3, av_s4, av_s5, av_s6, av_l0, av_l1, av_l2, av_l3, av_l4, av_l5, av_l6, av_p0, av_p1, av_p2, av_is, av_set, Option.elim_some, true_and, and_true, avRow_its, Option.toList_some, Option.toList_none, List.cons_append, List.nil_append, vp8 hi, cl8 hi, hi, vp8 hj, cl8 hj, hj, sX1_turns]
  unfold bumpR
  cases turnsOf (its (upd (upd r (3 + 7 * i + 6) (iMin (its r i 6 + 1) 999)) (3 + 7 * j + 6) (iMin (its (upd r (3 + 7 * i + 6) (iMin (its r i 6 + 1) 999)) j 6 + 1) 999)) i 0) (its (upd (upd r (3 + 7 * i + 6) (iMin (its r i 6 + 1) 999)) (3 + 7 * j + 6) (iMin (its (upd r (3 + 7 * i + 6) (iMin (its r i 6 + 1) 999)) j 6 + 1) 999)) i 3) with
  | false => simp only [bI_f, if_true, if_false, Bool.false_eq_true]
  | true => simp only [bI_t, i10, if_true, if_false]
theorem sX0_ride {i : Nat} (hi : i < 8) : sg θ (n + 2) 16 [.ref k, .int (nI i)] (avSet w k r) Q ↔ Q none (avSet w k (rideR r i)) := by
  rw [nX0_ride]
  have ht := fun n Q => sX0_tramPlace (θ := θ) (n := n) (w := w) (k := k) (r := r) (Q := Q)
  simp only [eX0_ride_0, eX0_ride_1, eX0_ride_2, eX0_ride_5, eX0_ride_8, eX0_ride_9, eX0_ride_12, eX0_ride_15, eX0_ride_16, eX0_ride_19, eX0_ride_20, eX0_ride_21, eX0_ride_22, eX0_ride_25, eX0_ride_28, eX0_ride_29, eX0_ride_30, eX0_ride_33, eX0_ride_34, eX0_ride_35, eX0_ride_36, eX0_ride_39, eX0_ride_40, eX0_ride_43, eX0_ride_44, eX0_ride_45, eX0_ride_48, eX0_ride_49, eX0_ride_50, eX0_ride_51, eX0_ride_52, eX0_ride_54, eX0_ride_57, eX0_ride_58, eX0_ride_61, eX0_ride_62, eX0_ride_65, eX0_ride_66, eX0_ride_67, eX0_ride_70, eX0_ride_71, eX0_ride_72, eX0_ride_73, eX0_ride_74, eX0_ride_75, eX0_ride_78, eX0_ride_79, av_f0, av_f1, av_f2, av_f3, av_f4, av_f5, av_f6, av_f7, av_f8, av_f9, av_n0, av_n1, av_n2, av_n3, av_n4, av_n5, av_n6, av_w0, av_w1, av_w2, av_w3, av_w4, av_w5, av_w6, av_v0, av_v1, av_v2, av_v3, av_v4, av_v5, av_v6, av_s0, av_s1, av_s2, av_s3, av_s4, av_s5, av_s6, av_l0, av_l1, av_l2, av_l3, av_l4, av_l5, av_l6, av_p0, av_p1, av_p2, av_is, av_set, Option.elim_some, true_and, and_true, avRow_its, Option.toList_some, Option.toList_none, List.cons_append, List.nil_append, vp8 hi, cl8 hi, hi, sX0_isThrough hi, ht]
  unfold rideR tramAt
  cases h : thru r i with
  | true => simp only [bI_t, i10, if_true, if_false]
  | false =>
    simp only [bI_f, if_true, if_false, Bool.false_eq_true]
    by_cases h1 : r 1 = 0
    · simp only [h1, if_true]
    · by_cases h2 : its r i 1 = 4 * r 0 - 4 * r 0 / 100 * 100
      · by_cases h3 : its r i 2 = 1
        · simp only [h1, if_false, if_pos h2, h3, if_true]
        · simp only [h1, if_false, if_pos h2, h3]
      · simp only [h1, if_false, if_neg h2]
theorem oI_neg {o : Option Nat} (h : ∀ j, o = some j → j < 2 ^ 31) : (oI o < 0) = (o = none) := by
  cases o with
  | none => exact propext ⟨fun _ => rfl, fun _ => by decide⟩
  | some j => exact propext ⟨fun q => absurd q (nI_pos (h j rfl)), fun q => by cases q⟩
theorem sX0_walk (hx : exOK θ w b) (hb : b ≤ k) {m i : Nat} (hm : r 2 = nI m) (h8 : m ≤ 8) (hi : i < m) {p : Int32} : sg θ (n + 3) 13 [.ref k, .int (nI i), .int p] (avSet w k r) Q ↔ Q none (avSet w k (walkR m i (wayOf r i) p.toNatClampNeg r)) := by
  have hp := clamp_lt p
  rw [nX0_walk]
  generalize ((avSet w k r).2.1 + 0, (avSet w k r).2.2 + 0) = lim
  have loop : ∀ (wy : Int32) d q o5 r, q + d = p.toNatClampNeg → r 2 = nI m → (Wp (xX0_walk θ (n + 2) lim) Q (19, [some (.ref k), some (.int (nI i)), some (.int p), some (.int wy), some (.int (nI q)), o5], [], avSet w k r) ↔ Q none (avSet w k (walkR m i wy d r))) := by
    intro wy d
    induction d with
    | zero =>
      intro q o5 r hq hm
      rw [eX0_walk_19]
      simp only [eX0_walk_0, eX0_walk_1, eX0_walk_4, eX0_walk_5, eX0_walk_6, eX0_walk_7, eX0_walk_10, eX0_walk_11, eX0_walk_14, eX0_walk_15, eX0_walk_16, eX0_walk_17, eX0_walk_21, eX0_walk_22, eX0_walk_25, eX0_walk_26, eX0_walk_29, eX0_walk_30, eX0_walk_31, eX0_walk_32, eX0_walk_33, eX0_walk_34, eX0_walk_35, eX0_walk_36, eX0_walk_37, eX0_walk_40, eX0_walk_43, eX0_walk_44, eX0_walk_45, eX0_walk_46, eX0_walk_49, eX0_walk_51, eX0_walk_53, eX0_walk_56, eX0_walk_57, eX0_walk_58, eX0_walk_60, eX0_walk_63, eX0_walk_64, eX0_walk_67, eX0_walk_70, av_f0, av_f1, av_f2, av_f3, av_f4, av_f5, av_f6, av_f7, av_f8, av_f9, av_n0, av_n1, av_n2, av_n3, av_n4, av_n5, av_n6, av_w0, av_w1, av_w2, av_w3, av_w4, av_w5, av_w6, av_v0, av_v1, av_v2, av_v3, av_v4, av_v5, av_v6, av_s0, av_s1, av_s2, av_s3, av_s4, av_s5, av_s6, av_l0, av_l1, av_l2, av_l3, av_l4, av_l5, av_l6, av_p0, av_p1, av_p2, av_is, av_set, Option.elim_some, true_and, and_true, avRow_its, Option.toList_some, Option.toList_none, List.cons_append, List.nil_append, ge_clamp (show q < 2 ^ 31 by omega), show p.toNatClampNeg ≤ q by omega, if_true, walkR]
    | succ d ih =>
      intro q o5 r hq hm
      rw [eX0_walk_19]
      have hm1 : upd r (3 + 7 * i + 1) (its r i 1 + wy) 2 = nI m := by rw [upd_ne (by omega)]; exact hm
      have hw := fun n Q => sX0_inTheWayOf (θ := θ) (n := n) (w := w) (k := k) (Q := Q) hm1 h8 hi
      have hlt : ∀ j, inWay (upd r (3 + 7 * i + 1) (its r i 1 + wy)) i m 0 = some j → j < 8 := fun j hj => by have := inWay_lt hj; omega
      simp only [eX0_walk_0, eX0_walk_1, eX0_walk_4, eX0_walk_5, eX0_walk_6, eX0_walk_7, eX0_walk_10, eX0_walk_11, eX0_walk_14, eX0_walk_15, eX0_walk_16, eX0_walk_17, eX0_walk_21, eX0_walk_22, eX0_walk_25, eX0_walk_26, eX0_walk_29, eX0_walk_30, eX0_walk_31, eX0_walk_32, eX0_walk_33, eX0_walk_34, eX0_walk_35, eX0_walk_36, eX0_walk_37, eX0_walk_40, eX0_walk_43, eX0_walk_44, eX0_walk_45, eX0_walk_46, eX0_walk_49, eX0_walk_51, eX0_walk_53, eX0_walk_56, eX0_walk_57, eX0_walk_58, eX0_walk_60, eX0_walk_63, eX0_walk_64, eX0_walk_67, eX0_walk_70, av_f0, av_f1, av_f2, av_f3, av_f4, av_f5, av_f6, av_f7, av_f8, av_f9, av_n0, av_n1, av_n2, av_n3, av_n4, av_n5, av_n6, av_w0, av_w1, av_w2, av_w3, av_w4, av_w5, av_w6, av_v0, av_v1, av_v2, av_v3, av_v4, av_v5, av_v6, av_s0, av_s1, av_s2, av_s3, av_s4, av_s5, av_s6, av_l0, av_l1, av_l2, av_l3, av_l4, av_l5, av_l6, av_p0, av_p1, av_p2, av_is, av_set, Option.elim_some, true_and, and_true, avRow_its, Option.toList_some, Option.toList_none, List.cons_append, List.nil_append, ge_clamp (show q < 2 ^ 31 by omega), show ¬ p.toNatClampNeg ≤ q by omega, if_false, vp8 (show i < 8 by omega), cl8 (show i < 8 by omega), (show i < 8 by omega), sX0_isThrough (show i < 8 by omega), hw, oI_neg (fun j hj => Nat.lt_trans (hlt j hj) (by decide))]
      cases h1 : thru (upd r (3 + 7 * i + 1) (its r i 1 + wy)) i with
      | true => simp only [bI_t, i10, if_false, walkR, h1, if_true]
      | false =>
        simp only [bI_f, if_true, walkR, h1, if_false, Bool.false_eq_true]
        cases h2 : inWay (upd r (3 + 7 * i + 1) (its r i 1 + wy)) i m 0 with
        | none =>
          have ih := ih (q + 1) (some (.int (oI none))) _ (by omega) hm1
          rw [nI_succ] at ih
          simp only [if_true]
          exact ih
        | some j =>
          have hbm := fun n Q => sX0_bump (θ := θ) (n := n) (r := upd r (3 + 7 * i + 1) (its r i 1 + wy)) (Q := Q) hx hb (show i < 8 by omega) (hlt j h2)
          simp only [if_false, oI, hbm, eX0_walk_0, eX0_walk_1, eX0_walk_4, eX0_walk_5, eX0_walk_6, eX0_walk_7, eX0_walk_10, eX0_walk_11, eX0_walk_14, eX0_walk_15, eX0_walk_16, eX0_walk_17, eX0_walk_21, eX0_walk_22, eX0_walk_25, eX0_walk_26, eX0_walk_29, eX0_walk_30, eX0_walk_31, eX0_walk_32, eX0_walk_33, eX0_walk_34, eX0_walk_35, eX0_walk_36, eX0_walk_37, eX0_walk_40, eX0_walk_43, eX0_walk_44, eX0_walk_45, eX0_walk_46, eX0_walk_49, eX0_walk_51, eX0_walk_53, eX0_walk_56, eX0_walk_57, eX0_walk_58, eX0_walk_60, eX0_walk_63, eX0_walk_64, eX0_walk_67, eX0_walk_70, av_f0, av_f1, av_f2, av_f3, av_f4, av_f5, av_f6, av_f7, av_f8, av_f9, av_n0, av_n1, av_n2, av_n3, av_n4, av_n5, av_n6, av_w0, av_w1, av_w2, av_w3, av_w4, av_w5, av_w6, av_v0, av_v1, av_v2, av_v3, av_v4, av_v5, av_v6, av_s0, av_s1, av_s2, av_s3, av_s4, av_s5, av_s6, av_l0, av_l1, av_l2, av_l3, av_l4, av_l5, av_l6, av_p0, av_p1, av_p2, av_is, av_set, Option.elim_some, true_and, and_true, avRow_its, Option.toList_some, Option.toList_none, List.cons_append, List.nil_append, reduceCtorEq]
  simp only [eX0_walk_0, eX0_walk_1, eX0_walk_4, eX0_walk_5, eX0_walk_6, eX0_walk_7, eX0_walk_10, eX0_walk_11, eX0_walk_14, eX0_walk_15, eX0_walk_16, eX0_walk_17, eX0_walk_21, eX0_walk_22, eX0_walk_25, eX0_walk_26, eX0_walk_29, eX0_walk_30, eX0_walk_31, eX0_walk_32, eX0_walk_33, eX0_walk_34, eX0_walk_35, eX0_walk_36, eX0_walk_37, eX0_walk_40, eX0_walk_43, eX0_walk_44, eX0_walk_45, eX0_walk_46, eX0_walk_49, eX0_walk_51, eX0_walk_53, eX0_walk_56, eX0_walk_57, eX0_walk_58, eX0_walk_60, eX0_walk_63, eX0_walk_64, eX0_walk_67, eX0_walk_70, av_f0, av_f1, av_f2, av_f3, av_f4, av_f5, av_f6, av_f7, av_f8, av_f9, av_n0, av_n1, av_n2, av_n3, av_n4, av_n5, av_n6, av_w0, av_w1, av_w2, av_w3, av_w4, av_w5, av_w6, av_v0, av_v1, av_v2, av_v3, av_v4, av_v5, av_v6, av_s0, av_s1, av_s2, av_s3, av_s4, av_s5, av_s6, av_l0, av_l1, av_l2, av_l3, av_l4, av_l5, av_l6, av_p0, av_p1, av_p2, av_is, av_set, Option.elim_some, true_and, and_true, avRow_its, Option.toList_some, Option.toList_none, List.cons_append, List.nil_append, vp8 (show i < 8 by omega), cl8 (show i < 8 by omega), (show i < 8 by omega)]
  unfold wayOf
  by_cases h : its r i 2 = 1
  · simp only [h, if_true]
    exact loop 1 _ 0 none r (by omega) hm
  · simp only [h, if_false]
    exact loop (-1) _ 0 none r (by omega) hm
theorem sX0_passMinute (hx : exOK θ w b) (hb : b ≤ k) {m : Nat} (hk : kOK r m) : sg θ (n + 5) 12 [.ref k] (avSet w k r) Q ↔ Q none (avSet w k (minR m r)) := by
  have h8 := hk.2.1
  rw [nX0_passMinute]
  generalize ((avSet w k r).2.1 + 0, (avSet w k r).2.2 + 0) = lim
  have loop : ∀ d j, j + d = m → (Wp (xX0_passMinute θ (n + 4) lim) Q (2, [some (.ref k), some (.int (nI j))], [], avSet w k (minUp m r j)) ↔ Q none (avSet w k (minR m r))) := by
    intro d
    induction d with
    | zero =>
      intro j hj
      have hj : j = m := by omega
      subst hj
      rw [eX0_passMinute_2]
      simp only [eX0_passMinute_0, eX0_passMinute_1, eX0_passMinute_3, eX0_passMinute_4, eX0_passMinute_7, eX0_passMinute_10, eX0_passMinute_11, eX0_passMinute_12, eX0_passMinute_15, eX0_passMinute_18, eX0_passMinute_19, eX0_passMinute_20, eX0_passMinute_21, eX0_passMinute_22, eX0_passMinute_25, eX0_passMinute_28, eX0_passMinute_29, eX0_passMinute_30, eX0_passMinute_33, eX0_passMinute_36, eX0_passMinute_39, eX0_passMinute_40, eX0_passMinute_41, eX0_passMinute_44, eX0_passMinute_45, eX0_passMinute_46, eX0_passMinute_49, av_f0, av_f1, av_f2, av_f3, av_f4, av_f5, av_f6, av_f7, av_f8, av_f9, av_n0, av_n1, av_n2, av_n3, av_n4, av_n5, av_n6, av_w0, av_w1, av_w2, av_w3, av_w4, av_w5, av_w6, av_v0, av_v1, av_v2, av_v3, av_v4, av_v5, av_v6, av_s0, av_s1, av_s2, av_s3, av_s4, av_s5, av_s6, av_l0, av_l1, av_l2, av_l3, av_l4, av_l5, av_l6, av_p0, av_p1, av_p2, av_is, av_set, Option.elim_some, true_and, and_true, avRow_its, Option.toList_some, Option.toList_none, List.cons_append, List.nil_append, (hk.minUp j).1, nI_le (Nat.le_refl j) (show j < 2 ^ 31 by omega), if_true, minR]
    | succ d ih =>
      intro j hj
      have hlt : j < m := by omega
      have hkj := hk.minUp j
      rw [eX0_passMinute_2]
      have hg := fun n Q => sX0_placesToGo (θ := θ) (n := n) (Q := Q) hx hb hkj hlt
      have hw := fun n Q => sX0_walk (θ := θ) (n := n) (Q := Q) (p := goesAt (minUp m r j) j m) hx hb hkj.1 h8 hlt
      have hr := fun n r Q => sX0_ride (θ := θ) (n := n) (w := w) (k := k) (r := r) (Q := Q) (show j < 8 by omega)
      have ih := ih (j + 1) (by omega)
      rw [nI_succ] at ih
      simp only [eX0_passMinute_0, eX0_passMinute_1, eX0_passMinute_3, eX0_passMinute_4, eX0_passMinute_7, eX0_passMinute_10, eX0_passMinute_11, eX0_passMinute_12, eX0_passMinute_15, eX0_passMinute_18, eX0_passMinute_19, eX0_passMinute_20, eX0_passMinute_21, eX0_passMinute_22, eX0_passMinute_25, eX0_passMinute_28, eX0_passMinute_29, eX0_passMinute_30, eX0_passMinute_33, eX0_passMinute_36, eX0_passMinute_39, eX0_passMinute_40, eX0_passMinute_41, eX0_passMinute_44, eX0_passMinute_45, eX0_passMinute_46, eX0_passMinute_49, av_f0, av_f1, av_f2, av_f3, av_f4, av_f5, av_f6, av_f7, av_f8, av_f9, av_n0, av_n1, av_n2, av_n3, av_n4, av_n5, av_n6, av_w0, av_w1, av_w2, av_w3, av_w4, av_w5, av_w6, av_v0, av_v1, av_v2, av_v3, av_v4, av_v5, av_v6, av_s0, av_s1, av_s2, av_s3, av_s4, av_s5, av_s6, av_l0, av_l1, av_l2, av_l3, av_l4, av_l5, av_l6, av_p0, av_p1, av_p2, av_is, av_set, Option.elim_some, true_and, and_true, avRow_its, Option.toList_some, Option.toList_none, List.cons_append, List.nil_append, hkj.1, nI_ge hlt (show m < 2 ^ 31 by omega), if_false, sX0_isThrough (show j < 8 by omega)]
      cases h : thru (minUp m r j) j with
      | true =>
        simp only [minUp, stepR, h, if_true] at ih
        simp only [bI_t, i10, if_false]
        exact ih
      | false =>
        simp only [minUp, stepR, h, Bool.false_eq_true, if_false] at ih
        simp only [bI_f, if_true, hg, hw, hr, eX0_passMinute_0, eX0_passMinute_1, eX0_passMinute_3, eX0_passMinute_4, eX0_passMinute_7, eX0_passMinute_10, eX0_passMinute_11, eX0_passMinute_12, eX0_passMinute_15, eX0_passMinute_18, eX0_passMinute_19, eX0_passMinute_20, eX0_passMinute_21, eX0_passMinute_22, eX0_passMinute_25, eX0_passMinute_28, eX0_passMinute_29, eX0_passMinute_30, eX0_passMinute_33, eX0_passMinute_36, eX0_passMinute_39, eX0_passMinute_40, eX0_passMinute_41, eX0_passMinute_44, eX0_passMinute_45, eX0_passMinute_46, eX0_passMinute_49, av_f0, av_f1, av_f2, av_f3, av_f4, av_f5, av_f6, av_f7, av_f8, av_f9, av_n0, av_n1, av_n2, av_n3, av_n4, av_n5, av_n6, av_w0, av_w1, av_w2, av_w3, av_w4, av_w5, av_w6, av_v0, av_v1, av_v2, av_v3, av_v4, av_v5, av_v6, av_s0, av_s1, av_s2, av_s3, av_s4, av_s5, av_s6, av_l0, av_l1, av_l2, av_l3, av_l4, av_l5, av_l6, av_p0, av_p1, av_p2, av_is, av_set, Option.elim_some, true_and, and_true, avRow_its, Option.toList_some, Option.toList_none, List.cons_append, List.nil_append]
        exact ih
  simp only [eX0_passMinute_0, eX0_passMinute_1, eX0_passMinute_3, eX0_passMinute_4, eX0_passMinute_7, eX0_passMinute_10, eX0_passMinute_11, eX0_passMinute_12, eX0_passMinute_15, eX0_passMinute_18, eX0_passMinute_19, eX0_passMinute_20, eX0_passMinute_21, eX0_passMinute_22, eX0_passMinute_25, eX0_passMinute_28, eX0_passMinute_29, eX0_passMinute_30, eX0_passMinute_33, eX0_passMinute_36, eX0_passMinute_39, eX0_passMinute_40, eX0_passMinute_41, eX0_passMinute_44, eX0_passMinute_45, eX0_passMinute_46, eX0_passMinute_49, av_f0, av_f1, av_f2, av_f3, av_f4, av_f5, av_f6, av_f7, av_f8, av_f9, av_n0, av_n1, av_n2, av_n3, av_n4, av_n5, av_n6, av_w0, av_w1, av_w2, av_w3, av_w4, av_w5, av_w6, av_v0, av_v1, av_v2, av_v3, av_v4, av_v5, av_v6, av_s0, av_s1, av_s2, av_s3, av_s4, av_s5, av_s6, av_l0, av_l1, av_l2, av_l3, av_l4, av_l5, av_l6, av_p0, av_p1, av_p2, av_is, av_set, Option.elim_some, true_and, and_true, avRow_its, Option.toList_some, Option.toList_none, List.cons_append, List.nil_append]
  exact loop m 0 (by omega)
theorem sX0_passMinutes (hx : exOK θ w b) (hb : b ≤ k) {m : Nat} (hk : kOK r m) {p : Int32} : sg θ (n + 6) 11 [.ref k, .int p] (avSet w k r) Q ↔ Q none (avSet w k (minsR m p.toNatClampNeg r)) := by
  have hp := clamp_lt p
  rw [nX0_passMinutes]
  generalize ((avSet w k r).2.1 + 0, (avSet w k r).2.2 + 0) = lim
  have loop : ∀ d q r, q + d = p.toNatClampNeg → kOK r m → (Wp (xX0_passMinutes θ (n + 5) lim) Q (2, [some (.ref k), some (.int p), some (.int (nI q))], [], avSet w k r) ↔ Q none (avSet w k (minsR m d r))) := by
    intro d
    induction d with
    | zero =>
      intro q r hq hk
      rw [eX0_passMinutes_2]
      simp only [eX0_passMinutes_0, eX0_passMinutes_1, eX0_passMinutes_3, eX0_passMinutes_4, eX0_passMinutes_7, eX0_passMinutes_8, eX0_passMinutes_11, eX0_passMinutes_14, eX0_passMinutes_17, av_f0, av_f1, av_f2, av_f3, av_f4, av_f5, av_f6, av_f7, av_f8, av_f9, av_n0, av_n1, av_n2, av_n3, av_n4, av_n5, av_n6, av_w0, av_w1, av_w2, av_w3, av_w4, av_w5, av_w6, av_v0, av_v1, av_v2, av_v3, av_v4, av_v5, av_v6, av_s0, av_s1, av_s2, av_s3, av_s4, av_s5, av_s6, av_l0, av_l1, av_l2, av_l3, av_l4, av_l5, av_l6, av_p0, av_p1, av_p2, av_is, av_set, Option.elim_some, true_and, and_true, avRow_its, Option.toList_some, Option.toList_none, List.cons_append, List.nil_append, ge_clamp (show q < 2 ^ 31 by omega), show p.toNatClampNeg ≤ q by omega, if_true, minsR]
    | succ d ih =>
      intro q r hq hk
      rw [eX0_passMinutes_2]
      have hs := fun n Q => sX0_passMinute (θ := θ) (n := n) (Q := Q) hx hb hk
      have ih := ih (q + 1) (minR m r) (by omega) hk.min
      rw [nI_succ] at ih
      simp only [eX0_passMinutes_0, eX0_passMinutes_1, eX0_passMinutes_3, eX0_passMinutes_4, eX0_passMinutes_7, eX0_passMinutes_8, eX0_passMinutes_11, eX0_passMinutes_14, eX0_passMinutes_17, av_f0, av_f1, av_f2, av_f3, av_f4, av_f5, av_f6, av_f7, av_f8, av_f9, av_n0, av_n1, av_n2, av_n3, av_n4, av_n5, av_n6, av_w0, av_w1, av_w2, av_w3, av_w4, av_w5, av_w6, av_v0, av_v1, av_v2, av_v3, av_v4, av_v5, av_v6, av_s0, av_s1, av_s2, av_s3, av_s4, av_s5, av_s6, av_l0, av_l1, av_l2, av_l3, av_l4, av_l5, av_l6, av_p0, av_p1, av_p2, av_is, av_set, Option.elim_some, true_and, and_true, avRow_its, Option.toList_some, Option.toList_none, List.cons_append, List.nil_append, ge_clamp (show q < 2 ^ 31 by omega), show ¬ p.toNatClampNeg ≤ q by omega, if_false, hs, minsR]
      exact ih
  simp only [eX0_passMinutes_0, eX0_passMinutes_1, eX0_passMinutes_3, eX0_passMinutes_4, eX0_passMinutes_7, eX0_passMinutes_8, eX0_passMinutes_11, eX0_passMinutes_14, eX0_passMinutes_17, av_f0, av_f1, av_f2, av_f3, av_f4, av_f5, av_f6, av_f7, av_f8, av_f9, av_n0, av_n1, av_n2, av_n3, av_n4, av_n5, av_n6, av_w0, av_w1, av_w2, av_w3, av_w4, av_w5, av_w6, av_v0, av_v1, av_v2, av_v3, av_v4, av_v5, av_v6, av_s0, av_s1, av_s2, av_s3, av_s4, av_s5, av_s6, av_l0, av_l1, av_l2, av_l3, av_l4, av_l5, av_l6, av_p0, av_p1, av_p2, av_is, av_set, Option.elim_some, true_and, and_true, avRow_its, Option.toList_some, Option.toList_none, List.cons_append, List.nil_append]
  exact loop _ 0 r (by omega) hk
/-- in how many minutes one is through first, up to a limit -/
def tillR (m i : Nat) : Nat → rR → Nat
  | 0, _ => 0
  | d + 1, r => if thru r i = true then 0 else tillR m i d (minR m r) + 1
def tillW (m i : Nat) : Nat → rR → rR
  | 0, r => r
  | d + 1, r => if thru r i = true then r else tillW m i d (minR m r)
theorem sX0_minutesTillThrough (hx : exOK θ w b) (hb : b ≤ k) {m i : Nat} (hk : kOK r m) (hi : i < m) {l : Nat} (hl : l < 2 ^ 31) : sg θ (n + 6) 21 [.ref k, .int (nI i), .int (nI l)] (avSet w k r) Q ↔ Q (some (.int (nI (tillR m i l r)))) (avSet w k (tillW m i l r)) := by
  have h8 := hk.2.1
  rw [nX0_minutesTillThrough]
  generalize ((avSet w k r).2.1 + 0, (avSet w k r).2.2 + 0) = lim
  have loop : ∀ d q r, q + d = l → kOK r m → (Wp (xX0_minutesTillThrough θ (n + 5) lim) Q (2, [some (.ref k), some (.int (nI i)), some (.int (nI l)), some (.int (nI q))], [], avSet w k r) ↔ Q (some (.int (nI (q + tillR m i d r)))) (avSet w k (tillW m i d r))) := by
    intro d
    induction d with
    | zero =>
      intro q r hq hk
      have hq : q = l := by omega
      subst hq
      rw [eX0_minutesTillThrough_2]
      simp only [eX0_minutesTillThrough_0, eX0_minutesTillThrough_1, eX0_minutesTillThrough_3, eX0_minutesTillThrough_4, eX0_minutesTillThrough_7, eX0_minutesTillThrough_8, eX0_minutesTillThrough_9, eX0_minutesTillThrough_12, eX0_minutesTillThrough_15, eX0_minutesTillThrough_16, eX0_minutesTillThrough_17, eX0_minutesTillThrough_18, eX0_minutesTillThrough_21, eX0_minutesTillThrough_24, eX0_minutesTillThrough_27, eX0_minutesTillThrough_28, av_f0, av_f1, av_f2, av_f3, av_f4, av_f5, av_f6, av_f7, av_f8, av_f9, av_n0, av_n1, av_n2, av_n3, av_n4, av_n5, av_n6, av_w0, av_w1, av_w2, av_w3, av_w4, av_w5, av_w6, av_v0, av_v1, av_v2, av_v3, av_v4, av_v5, av_v6, av_s0, av_s1, av_s2, av_s3, av_s4, av_s5, av_s6, av_l0, av_l1, av_l2, av_l3, av_l4, av_l5, av_l6, av_p0, av_p1, av_p2, av_is, av_set, Option.elim_some, true_and, and_true, avRow_its, Option.toList_some, Option.toList_none, List.cons_append, List.nil_append, nI_le (Nat.le_refl q) hl, if_true, tillR, tillW, Nat.add_zero]
    | succ d ih =>
      intro q r hq hk
      rw [eX0_minutesTillThrough_2]
      have hs := fun n Q => sX0_passMinute (θ := θ) (n := n) (Q := Q) hx hb hk
      have ih := ih (q + 1) (minR m r) (by omega) hk.min
      rw [nI_succ] at ih
      simp only [eX0_minutesTillThrough_0, eX0_minutesTillThrough_1, eX0_minutesTillThrough_3, eX0_minutesTillThrough_4, eX0_minutesTillThrough_7, eX0_minutesTillThrough_8, eX0_minutesTillThrough_9, eX0_minutesTillThrough_12, eX0_minutesTillThrough_15, eX0_minutesTillThrough_16, eX0_minutesTillThrough_17, eX0_minutesTillThrough_18, eX0_minutesTillThrough_21, eX0_minutesTillThrough_24, eX0_minutesTillThrough_27, eX0_minutesTillThrough_28, av_f0, av_f1, av_f2, av_f3, av_f4, av_f5, av_f6, av_f7, av_f8, av_f9, av_n0, av_n1, av_n2, av_n3, av_n4, av_n5, av_n6, av_w0, av_w1, av_w2, av_w3, av_w4, av_w5, av_w6, av_v0, av_v1, av_v2, av_v3, av_v4, av_v5, av_v6, av_s0, av_s1, av_s2, av_s3, av_s4, av_s5, av_s6, av_l0, av_l1, av_l2, av_l3, av_l4, av_l5, av_l6, av_p0, av_p1, av_p2, av_is, av_set, Option.elim_some, true_and, and_true, avRow_its, Option.toList_some, Option.toList_none, List.cons_append, List.nil_append, nI_ge (show q < l by omega) hl, if_false, sX0_isThrough (show i < 8 by omega)]
      cases h : thru r i with
      | true => simp only [bI_t, i10, if_false, tillR, tillW, h, if_true, Nat.add_zero]
      | false =>
        simp only [bI_f, if_true, hs, tillR, tillW, h, if_false, Bool.false_eq_true, eX0_minutesTillThrough_0, eX0_minutesTillThrough_1, eX0_minutesTillThrough_3, eX0_minutesTillThrough_4, eX0_minutesTillThrough_7, eX0_minutesTillThrough_8, eX0_minutesTillThrough_9, eX0_minutesTillThrough_12, eX0_minutesTillThrough_15, eX0_minutesTillThrough_16, eX0_minutesTillThrough_17, eX0_minutesTillThrough_18, eX0_minutesTillThrough_21, eX0_minutesTillThrough_24, eX0_minutesTillThrough_27, eX0_minutesTillThrough_28, av_f0, av_f1, av_f2, av_f3, av_f4, av_f5, av_f6, av_f7, av_f8, av_f9, av_n0, av_n1, av_n2, av_n3, av_n4, av_n5, av_n6, av_w0, av_w1, av_w2, av_w3, av_w4, av_w5, av_w6, av_v0, av_v1, av_v2, av_v3, av_v4, av_v5, av_v6, av_s0, av_s1, av_s2, av_s3, av_s4, av_s5, av_s6, av_l0, av_l1, av_l2, av_l3, av_l4, av_l5, av_l6, av_p0, av_p1, av_p2, av_is, av_set, Option.elim_some, true_and, and_true, avRow_its, Option.toList_some, Option.toList_none, List.cons_append, List.nil_append]
        rw [show q + (tillR m i d (minR m r) + 1) = q + 1 + tillR m i d (minR m r) by omega]
        exact ih
  simp only [eX0_minutesTillThrough_0, eX0_minutesTillThrough_1, eX0_minutesTillThrough_3, eX0_minutesTillThrough_4, eX0_minutesTillThrough_7, eX0_minutesTillThrough_8, eX0_minutesTillThrough_9, eX0_minutesTillThrough_12, eX0_minutesTillThrough_15, eX0_minutesTillThrough_16, eX0_minutesTillThrough_17, eX0_minutesTillThrough_18, eX0_minutesTillThrough_21, eX0_minutesTillThrough_24, eX0_minutesTillThrough_27, eX0_minutesTillThrough_28, av_f0, av_f1, av_f2, av_f3, av_f4, av_f5, av_f6, av_f7, av_f8, av_f9, av_n0, av_n1, av_n2, av_n3, av_n4, av_n5, av_n6, av_w0, av_w1, av_w2, av_w3, av_w4, av_w5, av_w6, av_v0, av_v1, av_v2, av_v3, av_v4, av_v5, av_v6, av_s0, av_s1, av_s2, av_s3, av_s4, av_s5, av_s6, av_l0, av_l1, av_l2, av_l3, av_l4, av_l5, av_l6, av_p0, av_p1, av_p2, av_is, av_set, Option.elim_some, true_and, and_true, avRow_its, Option.toList_some, Option.toList_none, List.cons_append, List.nil_append]
  have := loop l 0 r (by omega) hk
  rw [Nat.zero_add] at this
  exact this
theorem sX0_sum {m c : Nat} (hm : r 2 = nI m) (h8 : m ≤ 8) (hc : c < 7) : sg θ (n + 2) 19 [.ref k, .int (nI c)] (avSet w k r) Q ↔ Q (some (.int (sumUp r c m))) (avSet w k r) := by
  rw [nX0_sum]
  generalize ((avSet w k r).2.1 + 0, (avSet w k r).2.2 + 0) = lim
  have loop : ∀ d j, j + d = m → (Wp (xX0_sum θ (n + 1) lim) Q (11, [some (.ref k), some (.int (nI c)), some (.ref (k + 1 + c)), some (.int (sumUp r c j)), some (.int (nI j))], [], avSet w k r) ↔ Q (some (.int (sumUp r c m))) (avSet w k r)) := by
    intro d
    induction d with
    | zero =>
      intro j hj
      have hj : j = m := by omega
      subst hj
      rw [eX0_sum_11]
      simp only [eX0_sum_0, eX0_sum_1, eX0_sum_2, eX0_sum_5, eX0_sum_6, eX0_sum_7, eX0_sum_8, eX0_sum_9, eX0_sum_13, eX0_sum_14, eX0_sum_17, eX0_sum_20, eX0_sum_21, eX0_sum_22, eX0_sum_24, eX0_sum_25, eX0_sum_26, eX0_sum_27, eX0_sum_30, eX0_sum_33, eX0_sum_34, av_f0, av_f1, av_f2, av_f3, av_f4, av_f5, av_f6, av_f7, av_f8, av_f9, av_n0, av_n1, av_n2, av_n3, av_n4, av_n5, av_n6, av_w0, av_w1, av_w2, av_w3, av_w4, av_w5, av_w6, av_v0, av_v1, av_v2, av_v3, av_v4, av_v5, av_v6, av_s0, av_s1, av_s2, av_s3, av_s4, av_s5, av_s6, av_l0, av_l1, av_l2, av_l3, av_l4, av_l5, av_l6, av_p0, av_p1, av_p2, av_is, av_set, Option.elim_some, true_and, and_true, avRow_its, Option.toList_some, Option.toList_none, List.cons_append, List.nil_append, hm, nI_le (Nat.le_refl j) (show j < 2 ^ 31 by omega), if_true]
    | succ d ih =>
      intro j hj
      have hlt : j < m := by omega
      rw [eX0_sum_11]
      have ih := ih (j + 1) (by omega)
      rw [nI_succ] at ih
      simp only [eX0_sum_0, eX0_sum_1, eX0_sum_2, eX0_sum_5, eX0_sum_6, eX0_sum_7, eX0_sum_8, eX0_sum_9, eX0_sum_13, eX0_sum_14, eX0_sum_17, eX0_sum_20, eX0_sum_21, eX0_sum_22, eX0_sum_24, eX0_sum_25, eX0_sum_26, eX0_sum_27, eX0_sum_30, eX0_sum_33, eX0_sum_34, av_f0, av_f1, av_f2, av_f3, av_f4, av_f5, av_f6, av_f7, av_f8, av_f9, av_n0, av_n1, av_n2, av_n3, av_n4, av_n5, av_n6, av_w0, av_w1, av_w2, av_w3, av_w4, av_w5, av_w6, av_v0, av_v1, av_v2, av_v3, av_v4, av_v5, av_v6, av_s0, av_s1, av_s2, av_s3, av_s4, av_s5, av_s6, av_l0, av_l1, av_l2, av_l3, av_l4, av_l5, av_l6, av_p0, av_p1, av_p2, av_is, av_set, Option.elim_some, true_and, and_true, avRow_its, Option.toList_some, Option.toList_none, List.cons_append, List.nil_append, hm, nI_ge hlt (show m < 2 ^ 31 by omega), if_false, av_nc hc, av_vc hc, vp8 (show j < 8 by omega), cl8 (show j < 8 by omega), (show j < 8 by omega)]
      exact ih
  simp only [eX0_sum_0, eX0_sum_1, eX0_sum_2, eX0_sum_5, eX0_sum_6, eX0_sum_7, eX0_sum_8, eX0_sum_9, eX0_sum_13, eX0_sum_14, eX0_sum_17, eX0_sum_20, eX0_sum_21, eX0_sum_22, eX0_sum_24, eX0_sum_25, eX0_sum_26, eX0_sum_27, eX0_sum_30, eX0_sum_33, eX0_sum_34, av_f0, av_f1, av_f2, av_f3, av_f4, av_f5, av_f6, av_f7, av_f8, av_f9, av_n0, av_n1, av_n2, av_n3, av_n4, av_n5, av_n6, av_w0, av_w1, av_w2, av_w3, av_w4, av_w5, av_w6, av_v0, av_v1, av_v2, av_v3, av_v4, av_v5, av_v6, av_s0, av_s1, av_s2, av_s3, av_s4, av_s5, av_s6, av_l0, av_l1, av_l2, av_l3, av_l4, av_l5, av_l6, av_p0, av_p1, av_p2, av_is, av_set, Option.elim_some, true_and, and_true, avRow_its, Option.toList_some, Option.toList_none, List.cons_append, List.nil_append, sX0_row hc]
  exact loop m 0 (by omega)
end T24
