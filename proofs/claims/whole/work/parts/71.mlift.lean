/-! the reference: its row methods over the whole object, moveAll, finds, becomes, isOne -/
def cpR (T R : rR) (k : Nat) : rR := fun p => if p < k then R p else T p
theorem cpR_0 (T R : rR) : cpR T R 0 = T := by funext p; simp [cpR]
theorem cpR_s (T R : rR) (k : Nat) : upd (cpR T R k) k (R k) = cpR T R (k + 1) := by
  funext p
  unfold upd cpR
  by_cases h : p = k
  · rw [if_pos h, if_pos (by omega), h]
  · rw [if_neg h]
    by_cases h2 : p < k
    · rw [if_pos h2, if_pos (by omega)]
    · rw [if_neg h2, if_neg (by omega)]
theorem cpR_m (T R : rR) : mRow (cpR T R 59) = mRow R := by
  funext p
  unfold mRow cpR
  by_cases h : p < 59
  · rw [if_pos h, if_pos h, if_pos h]
  · rw [if_neg h, if_neg h]
theorem one_ok : ∀ m : Nat, m ≤ 8 → (nI m - 1).toInt = (m : Int) - 1 := by decide +kernel
theorem one_W {R : rR} {m : Nat} {x : Int32} (hm : R 2 = nI m) (h8 : m ≤ 8) : decide (0 ≤ x ∧ x ≤ R 2 - 1) = isW R x := by
  unfold isW
  rw [hm]
  have h1 := one_ok m h8
  have : (x ≤ nI m - 1) = (x < nI m) := by
    rw [Int32.le_iff_toInt_le, Int32.lt_iff_toInt_lt, h1, nI_toInt (by omega)]
    exact propext ⟨fun q => by omega, fun q => by omega⟩
  simp only [this]
section T71
variable {θ : (Nat → Value) × (Nat → Nat)} {n : Nat} {w : rW} {c : Nat} {R : rR} {fd : Nat → Int32} {T B F : rR} {tp bo zo : Nat → Int32} {sl ln : Nat → Int64} {I : rR} {tm so be te : Int32} {wd : Int64} {vl gd kp : Int32} {Q : rQ} {m : Nat}
theorem uX6_its {i d : Nat} {x : Int32} (hx : x = nI d) (hi : i < 8) (hd : d < 7) : sg θ (n + 1) 95 [.ref c, .int (nI i), .int x] (mW w c R fd T B F tp bo zo sl ln I tm so be te wd vl gd kp) Q ↔ Q (some (.int (its R i d))) (mW w c R fd T B F tp bo zo sl ln I tm so be te wd vl gd kp) := by
  have h := sX6_its (θ := θ) (n := n) (Q := Q) (w := (mW w c R fd T B F tp bo zo sl ln I tm so be te wd vl gd kp)) (c := c) (r := R)  mw_mo hx hi hd
  simp only [mw_row] at h
  exact h
theorem uX6_puts {i d : Nat} {x v : Int32} (hx : x = nI d) (hi : i < 8) (hd : d < 7) : sg θ (n + 1) 91 [.ref c, .int (nI i), .int x, .int v] (mW w c R fd T B F tp bo zo sl ln I tm so be te wd vl gd kp) Q ↔ Q (none) (mW w c (upd R (3 + 7 * i + d) v) fd T B F tp bo zo sl ln I tm so be te wd vl gd kp) := by
  have h := sX6_puts (θ := θ) (n := n) (Q := Q) (w := (mW w c R fd T B F tp bo zo sl ln I tm so be te wd vl gd kp)) (c := c) (r := R) (v := v) mw_mo hx hi hd
  simp only [mw_row] at h
  exact h
theorem uX6_isThrough {i : Nat} (hi : i < 8) : sg θ (n + 2) 94 [.ref c, .int (nI i)] (mW w c R fd T B F tp bo zo sl ln I tm so be te wd vl gd kp) Q ↔ Q (some (.int (bI (thru R i)))) (mW w c R fd T B F tp bo zo sl ln I tm so be te wd vl gd kp) := by
  have h := sX6_isThrough (θ := θ) (n := n) (Q := Q) (w := (mW w c R fd T B F tp bo zo sl ln I tm so be te wd vl gd kp)) (c := c) (r := R)  mw_mo hi
  simp only [mw_row] at h
  exact h
theorem uX6_sight {i : Nat} (hi : i < 8) : sg θ (n + 2) 96 [.ref c, .int (nI i)] (mW w c R fd T B F tp bo zo sl ln I tm so be te wd vl gd kp) Q ↔ Q (some (.int (sightOf (its R i 0)))) (mW w c R fd T B F tp bo zo sl ln I tm so be te wd vl gd kp) := by
  have h := sX6_sight (θ := θ) (n := n) (Q := Q) (w := (mW w c R fd T B F tp bo zo sl ln I tm so be te wd vl gd kp)) (c := c) (r := R)  mw_mo hi
  simp only [mw_row] at h
  exact h
theorem uX6_offFrom {i j : Nat} (hi : i < 8) (hj : j < 8) : sg θ (n + 2) 99 [.ref c, .int (nI i), .int (nI j)] (mW w c R fd T B F tp bo zo sl ln I tm so be te wd vl gd kp) Q ↔ Q (some (.int (dst R i j))) (mW w c R fd T B F tp bo zo sl ln I tm so be te wd vl gd kp) := by
  have h := sX6_offFrom (θ := θ) (n := n) (Q := Q) (w := (mW w c R fd T B F tp bo zo sl ln I tm so be te wd vl gd kp)) (c := c) (r := R)  mw_mo hi hj
  simp only [mw_row] at h
  exact h
theorem uX6_seen {i : Nat} (hk : kOK R m) (hi : i < m) : sg θ (n + 3) 98 [.ref c, .int (nI i)] (mW w c R fd T B F tp bo zo sl ln I tm so be te wd vl gd kp) Q ↔ Q (some (.int (seenUp R i m))) (mW w c R fd T B F tp bo zo sl ln I tm so be te wd vl gd kp) := by
  have h := sX6_seen (θ := θ) (n := n) (Q := Q) (w := (mW w c R fd T B F tp bo zo sl ln I tm so be te wd vl gd kp)) (c := c) (r := R)  mw_mo hk hi
  simp only [mw_row] at h
  exact h
theorem uX6_goes {i : Nat} (hv : invR R m) (hi : i < m) : sg θ (n + 4) 97 [.ref c, .int (nI i)] (mW w c R fd T B F tp bo zo sl ln I tm so be te wd vl gd kp) Q ↔ Q (some (.int (goesAt R i m))) (mW w c R fd T B F tp bo zo sl ln I tm so be te wd vl gd kp) := by
  have h := sX6_goes (θ := θ) (n := n) (Q := Q) (w := (mW w c R fd T B F tp bo zo sl ln I tm so be te wd vl gd kp)) (c := c) (r := R)  mw_mo hv hi
  simp only [mw_row] at h
  exact h
theorem uX6_tram  : sg θ (n + 1) 116 [.ref c] (mW w c R fd T B F tp bo zo sl ln I tm so be te wd vl gd kp) Q ↔ Q (some (.int (tramAt R))) (mW w c R fd T B F tp bo zo sl ln I tm so be te wd vl gd kp) := by
  have h := sX6_tram (θ := θ) (n := n) (Q := Q) (w := (mW w c R fd T B F tp bo zo sl ln I tm so be te wd vl gd kp)) (c := c) (r := R)  mw_mo 
  simp only [mw_row] at h
  exact h
theorem uX6_oneMinute (hv : invR R m) : sg θ (n + 6) 109 [.ref c] (mW w c R fd T B F tp bo zo sl ln I tm so be te wd vl gd kp) Q ↔ Q (none) (mW w c (minR m R) fd T B F tp bo zo sl ln I tm so be te wd vl gd kp) := by
  have h := sX6_oneMinute (θ := θ) (n := n) (Q := Q) (w := (mW w c R fd T B F tp bo zo sl ln I tm so be te wd vl gd kp)) (c := c) (r := R)  mw_mo hv
  simp only [mw_row] at h
  exact h
theorem uX6_passes (hv : invR R m) {p : Int32} : sg θ (n + 7) 108 [.ref c, .int p] (mW w c R fd T B F tp bo zo sl ln I tm so be te wd vl gd kp) Q ↔ Q (none) (mW w c (minsR m p.toNatClampNeg R) fd T B F tp bo zo sl ln I tm so be te wd vl gd kp) := by
  have h := sX6_passes (θ := θ) (n := n) (Q := Q) (w := (mW w c R fd T B F tp bo zo sl ln I tm so be te wd vl gd kp)) (c := c) (r := R) (p := p) mw_mo hv
  simp only [mw_row] at h
  exact h
theorem uX6_throughSet (hm : R 2 = nI m) (h8 : m ≤ 8) : sg θ (n + 3) 117 [.ref c] (mW w c R fd T B F tp bo zo sl ln I tm so be te wd vl gd kp) Q ↔ Q (some (.int (thruUp R m))) (mW w c R fd T B F tp bo zo sl ln I tm so be te wd vl gd kp) := by
  have h := sX6_throughSet (θ := θ) (n := n) (Q := Q) (w := (mW w c R fd T B F tp bo zo sl ln I tm so be te wd vl gd kp)) (c := c) (r := R)  mw_mo hm h8
  simp only [mw_row] at h
  exact h
theorem uX6_sumOf {d : Nat} {x : Int32} (hx : x = nI d) (hm : R 2 = nI m) (h8 : m ≤ 8) (hd : d < 7) : sg θ (n + 2) 119 [.ref c, .int x] (mW w c R fd T B F tp bo zo sl ln I tm so be te wd vl gd kp) Q ↔ Q (some (.int (sumUp R d m))) (mW w c R fd T B F tp bo zo sl ln I tm so be te wd vl gd kp) := by
  have h := sX6_sumOf (θ := θ) (n := n) (Q := Q) (w := (mW w c R fd T B F tp bo zo sl ln I tm so be te wd vl gd kp)) (c := c) (r := R)  mw_mo hx hm h8 hd
  simp only [mw_row] at h
  exact h
theorem mw_cT1 {x : rR} (h : mRow T = mRow x) : (mW w c R fd T B F tp bo zo sl ln I tm so be te wd vl gd kp) = (mW w c R fd (x) B F tp bo zo sl ln I tm so be te wd vl gd kp) := by unfold mW; rw [h]
theorem mv_T1 : sg θ (n + 1) 121 [.ref c, .int 1, .ref (c + 3)] (mW w c R fd T B F tp bo zo sl ln I tm so be te wd vl gd kp) Q ↔ Q none (mW w c R fd (R) B F tp bo zo sl ln I tm so be te wd vl gd kp) := by
  rw [nX6_moveAll]
  generalize ((mW w c R fd T B F tp bo zo sl ln I tm so be te wd vl gd kp).2.1 + 0, (mW w c R fd T B F tp bo zo sl ln I tm so be te wd vl gd kp).2.2 + 0) = lim
  have loop : ∀ d k, k + d = 59 → (Wp (xX6_moveAll θ n lim) Q (2, [some (.ref c), some (.int 1), some (.ref (c + 3)), some (.int (nI k))], [], (mW w c R fd (cpR T R k) B F tp bo zo sl ln I tm so be te wd vl gd kp)) ↔ Q none (mW w c R fd (R) B F tp bo zo sl ln I tm so be te wd vl gd kp)) := by
    intro d
    induction d with
    | zero =>
      intro k hk
      have hk : k = 59 := by omega
      subst hk
      rw [eX6_moveAll_2]
      simp only [eX6_moveAll_0, eX6_moveAll_1, eX6_moveAll_3, eX6_moveAll_5, eX6_moveAll_8, eX6_moveAll_9, eX6_moveAll_12, eX6_moveAll_13, eX6_moveAll_14, eX6_moveAll_15, eX6_moveAll_18, eX6_moveAll_19, eX6_moveAll_20, eX6_moveAll_21, eX6_moveAll_24, eX6_moveAll_25, eX6_moveAll_28, eX6_moveAll_29, eX6_moveAll_30, eX6_moveAll_31, eX6_moveAll_32, eX6_moveAll_33, eX6_moveAll_36, eX6_moveAll_39, show ((59 : Int32) ≤ nI 59) = True by decide, if_true]
      rw [mw_cT1 (cpR_m T R)]
    | succ d ih =>
      intro k hk
      have hlt : k < 59 := by omega
      have ih := ih (k + 1) (by omega)
      rw [nI_succ] at ih
      have hn : ¬ (59 : Int32) ≤ nI k := nI_ge (b := 59) hlt (by decide)
      rw [eX6_moveAll_2]
      simp only [eX6_moveAll_0, eX6_moveAll_1, eX6_moveAll_3, eX6_moveAll_5, eX6_moveAll_8, eX6_moveAll_9, eX6_moveAll_12, eX6_moveAll_13, eX6_moveAll_14, eX6_moveAll_15, eX6_moveAll_18, eX6_moveAll_19, eX6_moveAll_20, eX6_moveAll_21, eX6_moveAll_24, eX6_moveAll_25, eX6_moveAll_28, eX6_moveAll_29, eX6_moveAll_30, eX6_moveAll_31, eX6_moveAll_32, eX6_moveAll_33, eX6_moveAll_36, eX6_moveAll_39, mw_is, mw_f0, mw_f1, mw_f2, mw_f3, mw_f4, mw_f5, mw_f6, mw_f7, mw_f8, mw_f9, mw_f10, mw_f11, mw_f12, mw_f13, mw_f14, mw_f15, mw_f16, mw_f17, mw_f18, mw_n1, mw_w1, mw_v1, mw_s1, mw_n2, mw_w2, mw_v2, mw_s2, mw_n3, mw_w3, mw_v3, mw_s3, mw_n4, mw_w4, mw_v4, mw_s4, mw_n5, mw_w5, mw_v5, mw_s5, mw_n6, mw_w6, mw_v6, mw_s6, mw_n7, mw_w7, mw_v7, mw_s7, mw_n10, mw_w10, mw_v10, mw_s10, mw_n11, mw_w11, mw_v11, mw_s11, mw_n8, mw_v8, mw_s8, mw_n9, mw_v9, mw_s9, mw_p5, mw_p6, mw_p7, mw_p8, mw_p9, mw_p10, mw_p11, mw_p18, Option.elim_some, true_and, and_true, Option.toList_some, Option.toList_none, List.cons_append, List.nil_append, hn, if_false, if_true, i10, vp59 hlt, cl59 hlt, hlt, mRow_at, cpR_s]
      exact ih
  have := loop 59 0 (by omega)
  rw [cpR_0] at this
  simp only [eX6_moveAll_0, eX6_moveAll_1, eX6_moveAll_3, eX6_moveAll_5, eX6_moveAll_8, eX6_moveAll_9, eX6_moveAll_12, eX6_moveAll_13, eX6_moveAll_14, eX6_moveAll_15, eX6_moveAll_18, eX6_moveAll_19, eX6_moveAll_20, eX6_moveAll_21, eX6_moveAll_24, eX6_moveAll_25, eX6_moveAll_28, eX6_moveAll_29, eX6_moveAll_30, eX6_moveAll_31, eX6_moveAll_32, eX6_moveAll_33, eX6_moveAll_36, eX6_moveAll_39]
  exact this
theorem mw_cT0 {x : rR} (h : mRow R = mRow x) : (mW w c R fd T B F tp bo zo sl ln I tm so be te wd vl gd kp) = (mW w c (x) fd T B F tp bo zo sl ln I tm so be te wd vl gd kp) := by unfold mW; rw [h]
theorem mv_T0 : sg θ (n + 1) 121 [.ref c, .int 0, .ref (c + 3)] (mW w c R fd T B F tp bo zo sl ln I tm so be te wd vl gd kp) Q ↔ Q none (mW w c (T) fd T B F tp bo zo sl ln I tm so be te wd vl gd kp) := by
  rw [nX6_moveAll]
  generalize ((mW w c R fd T B F tp bo zo sl ln I tm so be te wd vl gd kp).2.1 + 0, (mW w c R fd T B F tp bo zo sl ln I tm so be te wd vl gd kp).2.2 + 0) = lim
  have loop : ∀ d k, k + d = 59 → (Wp (xX6_moveAll θ n lim) Q (2, [some (.ref c), some (.int 0), some (.ref (c + 3)), some (.int (nI k))], [], (mW w c (cpR R T k) fd T B F tp bo zo sl ln I tm so be te wd vl gd kp)) ↔ Q none (mW w c (T) fd T B F tp bo zo sl ln I tm so be te wd vl gd kp)) := by
    intro d
    induction d with
    | zero =>
      intro k hk
      have hk : k = 59 := by omega
      subst hk
      rw [eX6_moveAll_2]
      simp only [eX6_moveAll_0, eX6_moveAll_1, eX6_moveAll_3, eX6_moveAll_5, eX6_moveAll_8, eX6_moveAll_9, eX6_moveAll_12, eX6_moveAll_13, eX6_moveAll_14, eX6_moveAll_15, eX6_moveAll_18, eX6_moveAll_19, eX6_moveAll_20, eX6_moveAll_21, eX6_moveAll_24, eX6_moveAll_25, eX6_moveAll_28, eX6_moveAll_29, eX6_moveAll_30, eX6_moveAll_31, eX6_moveAll_32, eX6_moveAll_33, eX6_moveAll_36, eX6_moveAll_39, show ((59 : Int32) ≤ nI 59) = True by decide, if_true]
      rw [mw_cT0 (cpR_m R T)]
    | succ d ih =>
      intro k hk
      have hlt : k < 59 := by omega
      have ih := ih (k + 1) (by omega)
      rw [nI_succ] at ih
      have hn : ¬ (59 : Int32) ≤ nI k := nI_ge (b := 59) hlt (by decide)
      rw [eX6_moveAll_2]
      simp only [eX6_moveAll_0, eX6_moveAll_1, eX6_moveAll_3, eX6_moveAll_5, eX6_moveAll_8, eX6_moveAll_9, eX6_moveAll_12, eX6_moveAll_13, eX6_moveAll_14, eX6_moveAll_15, eX6_moveAll_18, eX6_moveAll_19, eX6_moveAll_20, eX6_moveAll_21, eX6_moveAll_24, eX6_moveAll_25, eX6_moveAll_28, eX6_moveAll_29, eX6_moveAll_30, eX6_moveAll_31, eX6_moveAll_32, eX6_moveAll_33, eX6_moveAll_36, eX6_moveAll_39, mw_is, mw_f0, mw_f1, mw_f2, mw_f3, mw_f4, mw_f5, mw_f6, mw_f7, mw_f8, mw_f9, mw_f10, mw_f11, mw_f12, mw_f13, mw_f14, mw_f15, mw_f16, mw_f17, mw_f18, mw_n1, mw_w1, mw_v1, mw_s1, mw_n2, mw_w2, mw_v2, mw_s2, mw_n3, mw_w3, mw_v3, mw_s3, mw_n4, mw_w4, mw_v4, mw_s4, mw_n5, mw_w5, mw_v5, mw_s5, mw_n6, mw_w6, mw_v6, mw_s6, mw_n7, mw_w7, mw_v7, mw_s7, mw_n10, mw_w10, mw_v10, mw_s10, mw_n11, mw_w11, mw_v11, mw_s11, mw_n8, mw_v8, mw_s8, mw_n9, mw_v9, mw_s9, mw_p5, mw_p6, mw_p7, mw_p8, mw_p9, mw_p10, mw_p11, mw_p18, Option.elim_some, true_and, and_true, Option.toList_some, Option.toList_none, List.cons_append, List.nil_append, hn, if_false, if_true, i10, vp59 hlt, cl59 hlt, hlt, mRow_at, cpR_s]
      exact ih
  have := loop 59 0 (by omega)
  rw [cpR_0] at this
  simp only [eX6_moveAll_0, eX6_moveAll_1, eX6_moveAll_3, eX6_moveAll_5, eX6_moveAll_8, eX6_moveAll_9, eX6_moveAll_12, eX6_moveAll_13, eX6_moveAll_14, eX6_moveAll_15, eX6_moveAll_18, eX6_moveAll_19, eX6_moveAll_20, eX6_moveAll_21, eX6_moveAll_24, eX6_moveAll_25, eX6_moveAll_28, eX6_moveAll_29, eX6_moveAll_30, eX6_moveAll_31, eX6_moveAll_32, eX6_moveAll_33, eX6_moveAll_36, eX6_moveAll_39]
  exact this
theorem mw_cB1 {x : rR} (h : mRow B = mRow x) : (mW w c R fd T B F tp bo zo sl ln I tm so be te wd vl gd kp) = (mW w c R fd T (x) F tp bo zo sl ln I tm so be te wd vl gd kp) := by unfold mW; rw [h]
theorem mv_B1 : sg θ (n + 1) 121 [.ref c, .int 1, .ref (c + 4)] (mW w c R fd T B F tp bo zo sl ln I tm so be te wd vl gd kp) Q ↔ Q none (mW w c R fd T (R) F tp bo zo sl ln I tm so be te wd vl gd kp) := by
  rw [nX6_moveAll]
  generalize ((mW w c R fd T B F tp bo zo sl ln I tm so be te wd vl gd kp).2.1 + 0, (mW w c R fd T B F tp bo zo sl ln I tm so be te wd vl gd kp).2.2 + 0) = lim
  have loop : ∀ d k, k + d = 59 → (Wp (xX6_moveAll θ n lim) Q (2, [some (.ref c), some (.int 1), some (.ref (c + 4)), some (.int (nI k))], [], (mW w c R fd T (cpR B R k) F tp bo zo sl ln I tm so be te wd vl gd kp)) ↔ Q none (mW w c R fd T (R) F tp bo zo sl ln I tm so be te wd vl gd kp)) := by
    intro d
    induction d with
    | zero =>
      intro k hk
      have hk : k = 59 := by omega
      subst hk
      rw [eX6_moveAll_2]
      simp only [eX6_moveAll_0, eX6_moveAll_1, eX6_moveAll_3, eX6_moveAll_5, eX6_moveAll_8, eX6_moveAll_9, eX6_moveAll_12, eX6_moveAll_13, eX6_moveAll_14, eX6_moveAll_15, eX6_moveAll_18, eX6_moveAll_19, eX6_moveAll_20, eX6_moveAll_21, eX6_moveAll_24, eX6_moveAll_25, eX6_moveAll_28, eX6_moveAll_29, eX6_moveAll_30, eX6_moveAll_31, eX6_moveAll_32, eX6_moveAll_33, eX6_moveAll_36, eX6_moveAll_39, show ((59 : Int32) ≤ nI 59) = True by decide, if_true]
      rw [mw_cB1 (cpR_m B R)]
    | succ d ih =>
      intro k hk
      have hlt : k < 59 := by omega
      have ih := ih (k + 1) (by omega)
      rw [nI_succ] at ih
      have hn : ¬ (59 : Int32) ≤ nI k := nI_ge (b := 59) hlt (by decide)
      rw [eX6_moveAll_2]
      simp only [eX6_moveAll_0, eX6_moveAll_1, eX6_moveAll_3, eX6_moveAll_5, eX6_moveAll_8, eX6_moveAll_9, eX6_moveAll_12, eX6_moveAll_13, eX6_moveAll_14, eX6_moveAll_15, eX6_moveAll_18, eX6_moveAll_19, eX6_moveAll_20, eX6_moveAll_21, eX6_moveAll_24, eX6_moveAll_25, eX6_moveAll_28, eX6_moveAll_29, eX6_moveAll_30, eX6_moveAll_31, eX6_moveAll_32, eX6_moveAll_33, eX6_moveAll_36, eX6_moveAll_39, mw_is, mw_f0, mw_f1, mw_f2, mw_f3, mw_f4, mw_f5, mw_f6, mw_f7, mw_f8, mw_f9, mw_f10, mw_f11, mw_f12, mw_f13, mw_f14, mw_f15, mw_f16, mw_f17, mw_f18, mw_n1, mw_w1, mw_v1, mw_s1, mw_n2, mw_w2, mw_v2, mw_s2, mw_n3, mw_w3, mw_v3, mw_s3, mw_n4, mw_w4, mw_v4, mw_s4, mw_n5, mw_w5, mw_v5, mw_s5, mw_n6, mw_w6, mw_v6, mw_s6, mw_n7, mw_w7, mw_v7, mw_s7, mw_n10, mw_w10, mw_v10, mw_s10, mw_n11, mw_w11, mw_v11, mw_s11, mw_n8, mw_v8, mw_s8, mw_n9, mw_v9, mw_s9, mw_p5, mw_p6, mw_p7, mw_p8, mw_p9, mw_p10, mw_p11, mw_p18, Option.elim_some, true_and, and_true, Option.toList_some, Option.toList_none, List.cons_append, List.nil_append, hn, if_false, if_true, i10, vp59 hlt, cl59 hlt, hlt, mRow_at, cpR_s]
      exact ih
  have := loop 59 0 (by omega)
  rw [cpR_0] at this
  simp only [eX6_moveAll_0, eX6_moveAll_1, eX6_moveAll_3, eX6_moveAll_5, eX6_moveAll_8, eX6_moveAll_9, eX6_moveAll_12, eX6_moveAll_13, eX6_moveAll_14, eX6_moveAll_15, eX6_moveAll_18, eX6_moveAll_19, eX6_moveAll_20, eX6_moveAll_21, eX6_moveAll_24, eX6_moveAll_25, eX6_moveAll_28, eX6_moveAll_29, eX6_moveAll_30, eX6_moveAll_31, eX6_moveAll_32, eX6_moveAll_33, eX6_moveAll_36, eX6_moveAll_39]
  exact this
theorem mw_cB0 {x : rR} (h : mRow R = mRow x) : (mW w c R fd T B F tp bo zo sl ln I tm so be te wd vl gd kp) = (mW w c (x) fd T B F tp bo zo sl ln I tm so be te wd vl gd kp) := by unfold mW; rw [h]
theorem mv_B0 : sg θ (n + 1) 121 [.ref c, .int 0, .ref (c + 4)] (mW w c R fd T B F tp bo zo sl ln I tm so be te wd vl gd kp) Q ↔ Q none (mW w c (B) fd T B F tp bo zo sl ln I tm so be te wd vl gd kp) := by
  rw [nX6_moveAll]
  generalize ((mW w c R fd T B F tp bo zo sl ln I tm so be te wd vl gd kp).2.1 + 0, (mW w c R fd T B F tp bo zo sl ln I tm so be te wd vl gd kp).2.2 + 0) = lim
  have loop : ∀ d k, k + d = 59 → (Wp (xX6_moveAll θ n lim) Q (2, [some (.ref c), some (.int 0), some (.ref (c + 4)), some (.int (nI k))], [], (mW w c (cpR R B k) fd T B F tp bo zo sl ln I tm so be te wd vl gd kp)) ↔ Q none (mW w c (B) fd T B F tp bo zo sl ln I tm so be te wd vl gd kp)) := by
    intro d
    induction d with
    | zero =>
      intro k hk
      have hk : k = 59 := by omega
      subst hk
      rw [eX6_moveAll_2]
      simp only [eX6_moveAll_0, eX6_moveAll_1, eX6_moveAll_3, eX6_moveAll_5, eX6_moveAll_8, eX6_moveAll_9, eX6_moveAll_12, eX6_moveAll_13, eX6_moveAll_14, eX6_moveAll_15, eX6_moveAll_18, eX6_moveAll_19, eX6_moveAll_20, eX6_moveAll_21, eX6_moveAll_24, eX6_moveAll_25, eX6_moveAll_28, eX6_moveAll_29, eX6_moveAll_30, eX6_moveAll_31, eX6_moveAll_32, eX6_moveAll_33, eX6_moveAll_36, eX6_moveAll_39, show ((59 : Int32) ≤ nI 59) = True by decide, if_true]
      rw [mw_cB0 (cpR_m R B)]
    | succ d ih =>
      intro k hk
      have hlt : k < 59 := by omega
      have ih := ih (k + 1) (by omega)
      rw [nI_succ] at ih
      have hn : ¬ (59 : Int32) ≤ nI k := nI_ge (b := 59) hlt (by decide)
      rw [eX6_moveAll_2]
      simp only [eX6_moveAll_0, eX6_moveAll_1, eX6_moveAll_3, eX6_moveAll_5, eX6_moveAll_8, eX6_moveAll_9, eX6_moveAll_12, eX6_moveAll_13, eX6_moveAll_14, eX6_moveAll_15, eX6_moveAll_18, eX6_moveAll_19, eX6_moveAll_20, eX6_moveAll_21, eX6_moveAll_24, eX6_moveAll_25, eX6_moveAll_28, eX6_moveAll_29, eX6_moveAll_30, eX6_moveAll_31, eX6_moveAll_32, eX6_moveAll_33, eX6_moveAll_36, eX6_moveAll_39, mw_is, mw_f0, mw_f1, mw_f2, mw_f3, mw_f4, mw_f5, mw_f6, mw_f7, mw_f8, mw_f9, mw_f10, mw_f11, mw_f12, mw_f13, mw_f14, mw_f15, mw_f16, mw_f17, mw_f18, mw_n1, mw_w1, mw_v1, mw_s1, mw_n2, mw_w2, mw_v2, mw_s2, mw_n3, mw_w3, mw_v3, mw_s3, mw_n4, mw_w4, mw_v4, mw_s4, mw_n5, mw_w5, mw_v5, mw_s5, mw_n6, mw_w6, mw_v6, mw_s6, mw_n7, mw_w7, mw_v7, mw_s7, mw_n10, mw_w10, mw_v10, mw_s10, mw_n11, mw_w11, mw_v11, mw_s11, mw_n8, mw_v8, mw_s8, mw_n9, mw_v9, mw_s9, mw_p5, mw_p6, mw_p7, mw_p8, mw_p9, mw_p10, mw_p11, mw_p18, Option.elim_some, true_and, and_true, Option.toList_some, Option.toList_none, List.cons_append, List.nil_append, hn, if_false, if_true, i10, vp59 hlt, cl59 hlt, hlt, mRow_at, cpR_s]
      exact ih
  have := loop 59 0 (by omega)
  rw [cpR_0] at this
  simp only [eX6_moveAll_0, eX6_moveAll_1, eX6_moveAll_3, eX6_moveAll_5, eX6_moveAll_8, eX6_moveAll_9, eX6_moveAll_12, eX6_moveAll_13, eX6_moveAll_14, eX6_moveAll_15, eX6_moveAll_18, eX6_moveAll_19, eX6_moveAll_20, eX6_moveAll_21, eX6_moveAll_24, eX6_moveAll_25, eX6_moveAll_28, eX6_moveAll_29, eX6_moveAll_30, eX6_moveAll_31, eX6_moveAll_32, eX6_moveAll_33, eX6_moveAll_36, eX6_moveAll_39]
  exact this
theorem mw_cI1 {x : rR} (h : mRow I = mRow x) : (mW w c R fd T B F tp bo zo sl ln I tm so be te wd vl gd kp) = (mW w c R fd T B F tp bo zo sl ln (x) tm so be te wd vl gd kp) := by unfold mW; rw [h]
theorem mv_I1 : sg θ (n + 1) 121 [.ref c, .int 1, .ref (c + 10)] (mW w c R fd T B F tp bo zo sl ln I tm so be te wd vl gd kp) Q ↔ Q none (mW w c R fd T B F tp bo zo sl ln (R) tm so be te wd vl gd kp) := by
  rw [nX6_moveAll]
  generalize ((mW w c R fd T B F tp bo zo sl ln I tm so be te wd vl gd kp).2.1 + 0, (mW w c R fd T B F tp bo zo sl ln I tm so be te wd vl gd kp).2.2 + 0) = lim
  have loop : ∀ d k, k + d = 59 → (Wp (xX6_moveAll θ n lim) Q (2, [some (.ref c), some (.int 1), some (.ref (c + 10)), some (.int (nI k))], [], (mW w c R fd T B F tp bo zo sl ln (cpR I R k) tm so be te wd vl gd kp)) ↔ Q none (mW w c R fd T B F tp bo zo sl ln (R) tm so be te wd vl gd kp)) := by
    intro d
    induction d with
    | zero =>
      intro k hk
      have hk : k = 59 := by omega
      subst hk
      rw [eX6_moveAll_2]
      simp only [eX6_moveAll_0, eX6_moveAll_1, eX6_moveAll_3, eX6_moveAll_5, eX6_moveAll_8, eX6_moveAll_9, eX6_moveAll_12, eX6_moveAll_13, eX6_moveAll_14, eX6_moveAll_15, eX6_moveAll_18, eX6_moveAll_19, eX6_moveAll_20, eX6_moveAll_21, eX6_moveAll_24, eX6_moveAll_25, eX6_moveAll_28, eX6_moveAll_29, eX6_moveAll_30, eX6_moveAll_31, eX6_moveAll_32, eX6_moveAll_33, eX6_moveAll_36, eX6_moveAll_39, show ((59 : Int32) ≤ nI 59) = True by decide, if_true]
      rw [mw_cI1 (cpR_m I R)]
    | succ d ih =>
      intro k hk
      have hlt : k < 59 := by omega
      have ih := ih (k + 1) (by omega)
      rw [nI_succ] at ih
      have hn : ¬ (59 : Int32) ≤ nI k := nI_ge (b := 59) hlt (by decide)
      rw [eX6_moveAll_2]
      simp only [eX6_moveAll_0, eX6_moveAll_1, eX6_moveAll_3, eX6_moveAll_5, eX6_moveAll_8, eX6_moveAll_9, eX6_moveAll_12, eX6_moveAll_13, eX6_moveAll_14, eX6_moveAll_15, eX6_moveAll_18, eX6_moveAll_19, eX6_moveAll_20, eX6_moveAll_21, eX6_moveAll_24, eX6_moveAll_25, eX6_moveAll_28, eX6_moveAll_29, eX6_moveAll_30, eX6_moveAll_31, eX6_moveAll_32, eX6_moveAll_33, eX6_moveAll_36, eX6_moveAll_39, mw_is, mw_f0, mw_f1, mw_f2, mw_f3, mw_f4, mw_f5, mw_f6, mw_f7, mw_f8, mw_f9, mw_f10, mw_f11, mw_f12, mw_f13, mw_f14, mw_f15, mw_f16, mw_f17, mw_f18, mw_n1, mw_w1, mw_v1, mw_s1, mw_n2, mw_w2, mw_v2, mw_s2, mw_n3, mw_w3, mw_v3, mw_s3, mw_n4, mw_w4, mw_v4, mw_s4, mw_n5, mw_w5, mw_v5, mw_s5, mw_n6, mw_w6, mw_v6, mw_s6, mw_n7, mw_w7, mw_v7, mw_s7, mw_n10, mw_w10, mw_v10, mw_s10, mw_n11, mw_w11, mw_v11, mw_s11, mw_n8, mw_v8, mw_s8, mw_n9, mw_v9, mw_s9, mw_p5, mw_p6, mw_p7, mw_p8, mw_p9, mw_p10, mw_p11, mw_p18, Option.elim_some, true_and, and_true, Option.toList_some, Option.toList_none, List.cons_append, List.nil_append, hn, if_false, if_true, i10, vp59 hlt, cl59 hlt, hlt, mRow_at, cpR_s]
      exact ih
  have := loop 59 0 (by omega)
  rw [cpR_0] at this
  simp only [eX6_moveAll_0, eX6_moveAll_1, eX6_moveAll_3, eX6_moveAll_5, eX6_moveAll_8, eX6_moveAll_9, eX6_moveAll_12, eX6_moveAll_13, eX6_moveAll_14, eX6_moveAll_15, eX6_moveAll_18, eX6_moveAll_19, eX6_moveAll_20, eX6_moveAll_21, eX6_moveAll_24, eX6_moveAll_25, eX6_moveAll_28, eX6_moveAll_29, eX6_moveAll_30, eX6_moveAll_31, eX6_moveAll_32, eX6_moveAll_33, eX6_moveAll_36, eX6_moveAll_39]
  exact this
theorem mw_cI0 {x : rR} (h : mRow R = mRow x) : (mW w c R fd T B F tp bo zo sl ln I tm so be te wd vl gd kp) = (mW w c (x) fd T B F tp bo zo sl ln I tm so be te wd vl gd kp) := by unfold mW; rw [h]
theorem mv_I0 : sg θ (n + 1) 121 [.ref c, .int 0, .ref (c + 10)] (mW w c R fd T B F tp bo zo sl ln I tm so be te wd vl gd kp) Q ↔ Q none (mW w c (I) fd T B F tp bo zo sl ln I tm so be te wd vl gd kp) := by
  rw [nX6_moveAll]
  generalize ((mW w c R fd T B F tp bo zo sl ln I tm so be te wd vl gd kp).2.1 + 0, (mW w c R fd T B F tp bo zo sl ln I tm so be te wd vl gd kp).2.2 + 0) = lim
  have loop : ∀ d k, k + d = 59 → (Wp (xX6_moveAll θ n lim) Q (2, [some (.ref c), some (.int 0), some (.ref (c + 10)), some (.int (nI k))], [], (mW w c (cpR R I k) fd T B F tp bo zo sl ln I tm so be te wd vl gd kp)) ↔ Q none (mW w c (I) fd T B F tp bo zo sl ln I tm so be te wd vl gd kp)) := by
    intro d
    induction d with
    | zero =>
      intro k hk
      have hk : k = 59 := by omega
      subst hk
      rw [eX6_moveAll_2]
      simp only [eX6_moveAll_0, eX6_moveAll_1, eX6_moveAll_3, eX6_moveAll_5, eX6_moveAll_8, eX6_moveAll_9, eX6_moveAll_12, eX6_moveAll_13, eX6_moveAll_14, eX6_moveAll_15, eX6_moveAll_18, eX6_moveAll_19, eX6_moveAll_20, eX6_moveAll_21, eX6_moveAll_24, eX6_moveAll_25, eX6_moveAll_28, eX6_moveAll_29, eX6_moveAll_30, eX6_moveAll_31, eX6_moveAll_32, eX6_moveAll_33, eX6_moveAll_36, eX6_moveAll_39, show ((59 : Int32) ≤ nI 59) = True by decide, if_true]
      rw [mw_cI0 (cpR_m R I)]
    | succ d ih =>
      intro k hk
      have hlt : k < 59 := by omega
      have ih := ih (k + 1) (by omega)
      rw [nI_succ] at ih
      have hn : ¬ (59 : Int32) ≤ nI k := nI_ge (b := 59) hlt (by decide)
      rw [eX6_moveAll_2]
      simp only [eX6_moveAll_0, eX6_moveAll_1, eX6_moveAll_3, eX6_moveAll_5, eX6_moveAll_8, eX6_moveAll_9, eX6_moveAll_12, eX6_moveAll_13, eX6_moveAll_14, eX6_moveAll_15, eX6_moveAll_18, eX6_moveAll_19, eX6_moveAll_20, eX6_moveAll_21, eX6_moveAll_24, eX6_moveAll_25, eX6_moveAll_28, eX6_moveAll_29, eX6_moveAll_30, eX6_moveAll_31, eX6_moveAll_32, eX6_moveAll_33, eX6_moveAll_36, eX6_moveAll_39, mw_is, mw_f0, mw_f1, mw_f2, mw_f3, mw_f4, mw_f5, mw_f6, mw_f7, mw_f8, mw_f9, mw_f10, mw_f11, mw_f12, mw_f13, mw_f14, mw_f15, mw_f16, mw_f17, mw_f18, mw_n1, mw_w1, mw_v1, mw_s1, mw_n2, mw_w2, mw_v2, mw_s2, mw_n3, mw_w3, mw_v3, mw_s3, mw_n4, mw_w4, mw_v4, mw_s4, mw_n5, mw_w5, mw_v5, mw_s5, mw_n6, mw_w6, mw_v6, mw_s6, mw_n7, mw_w7, mw_v7, mw_s7, mw_n10, mw_w10, mw_v10, mw_s10, mw_n11, mw_w11, mw_v11, mw_s11, mw_n8, mw_v8, mw_s8, mw_n9, mw_v9, mw_s9, mw_p5, mw_p6, mw_p7, mw_p8, mw_p9, mw_p10, mw_p11, mw_p18, Option.elim_some, true_and, and_true, Option.toList_some, Option.toList_none, List.cons_append, List.nil_append, hn, if_false, if_true, i10, vp59 hlt, cl59 hlt, hlt, mRow_at, cpR_s]
      exact ih
  have := loop 59 0 (by omega)
  rw [cpR_0] at this
  simp only [eX6_moveAll_0, eX6_moveAll_1, eX6_moveAll_3, eX6_moveAll_5, eX6_moveAll_8, eX6_moveAll_9, eX6_moveAll_12, eX6_moveAll_13, eX6_moveAll_14, eX6_moveAll_15, eX6_moveAll_18, eX6_moveAll_19, eX6_moveAll_20, eX6_moveAll_21, eX6_moveAll_24, eX6_moveAll_25, eX6_moveAll_28, eX6_moveAll_29, eX6_moveAll_30, eX6_moveAll_31, eX6_moveAll_32, eX6_moveAll_33, eX6_moveAll_36, eX6_moveAll_39]
  exact this
theorem mw_cF1 {x : rR} (h : mRow F = mRow x) : (mW w c R fd T B F tp bo zo sl ln I tm so be te wd vl gd kp) = (mW w c R fd T B (x) tp bo zo sl ln I tm so be te wd vl gd kp) := by unfold mW; rw [h]
theorem mv_F1 : sg θ (n + 1) 121 [.ref c, .int 1, .ref (c + 11)] (mW w c R fd T B F tp bo zo sl ln I tm so be te wd vl gd kp) Q ↔ Q none (mW w c R fd T B (R) tp bo zo sl ln I tm so be te wd vl gd kp) := by
  rw [nX6_moveAll]
  generalize ((mW w c R fd T B F tp bo zo sl ln I tm so be te wd vl gd kp).2.1 + 0, (mW w c R fd T B F tp bo zo sl ln I tm so be te wd vl gd kp).2.2 + 0) = lim
  have loop : ∀ d k, k + d = 59 → (Wp (xX6_moveAll θ n lim) Q (2, [some (.ref c), some (.int 1), some (.ref (c + 11)), some (.int (nI k))], [], (mW w c R fd T B (cpR F R k) tp bo zo sl ln I tm so be te wd vl gd kp)) ↔ Q none (mW w c R fd T B (R) tp bo zo sl ln I tm so be te wd vl gd kp)) := by
    intro d
    induction d with
    | zero =>
      intro k hk
      have hk : k = 59 := by omega
      subst hk
      rw [eX6_moveAll_2]
      simp only [eX6_moveAll_0, eX6_moveAll_1, eX6_moveAll_3, eX6_moveAll_5, eX6_moveAll_8, eX6_moveAll_9, eX6_moveAll_12, eX6_moveAll_13, eX6_moveAll_14, eX6_moveAll_15, eX6_moveAll_18, eX6_moveAll_19, eX6_moveAll_20, eX6_moveAll_21, eX6_moveAll_24, eX6_moveAll_25, eX6_moveAll_28, eX6_moveAll_29, eX6_moveAll_30, eX6_moveAll_31, eX6_moveAll_32, eX6_moveAll_33, eX6_moveAll_36, eX6_moveAll_39, show ((59 : Int32) ≤ nI 59) = True by decide, if_true]
      rw [mw_cF1 (cpR_m F R)]
    | succ d ih =>
      intro k hk
      have hlt : k < 59 := by omega
      have ih := ih (k + 1) (by omega)
      rw [nI_succ] at ih
      have hn : ¬ (59 : Int32) ≤ nI k := nI_ge (b := 59) hlt (by decide)
      rw [eX6_moveAll_2]
      simp only [eX6_moveAll_0, eX6_moveAll_1, eX6_moveAll_3, eX6_moveAll_5, eX6_moveAll_8, eX6_moveAll_9, eX6_moveAll_12, eX6_moveAll_13, eX6_moveAll_14, eX6_moveAll_15, eX6_moveAll_18, eX6_moveAll_19, eX6_moveAll_20, eX6_moveAll_21, eX6_moveAll_24, eX6_moveAll_25, eX6_moveAll_28, eX6_moveAll_29, eX6_moveAll_30, eX6_moveAll_31, eX6_moveAll_32, eX6_moveAll_33, eX6_moveAll_36, eX6_moveAll_39, mw_is, mw_f0, mw_f1, mw_f2, mw_f3, mw_f4, mw_f5, mw_f6, mw_f7, mw_f8, mw_f9, mw_f10, mw_f11, mw_f12, mw_f13, mw_f14, mw_f15, mw_f16, mw_f17, mw_f18, mw_n1, mw_w1, mw_v1, mw_s1, mw_n2, mw_w2, mw_v2, mw_s2, mw_n3, mw_w3, mw_v3, mw_s3, mw_n4, mw_w4, mw_v4, mw_s4, mw_n5, mw_w5, mw_v5, mw_s5, mw_n6, mw_w6, mw_v6, mw_s6, mw_n7, mw_w7, mw_v7, mw_s7, mw_n10, mw_w10, mw_v10, mw_s10, mw_n11, mw_w11, mw_v11, mw_s11, mw_n8, mw_v8, mw_s8, mw_n9, mw_v9, mw_s9, mw_p5, mw_p6, mw_p7, mw_p8, mw_p9, mw_p10, mw_p11, mw_p18, Option.elim_some, true_and, and_true, Option.toList_some, Option.toList_none, List.cons_append, List.nil_append, hn, if_false, if_true, i10, vp59 hlt, cl59 hlt, hlt, mRow_at, cpR_s]
      exact ih
  have := loop 59 0 (by omega)
  rw [cpR_0] at this
  simp only [eX6_moveAll_0, eX6_moveAll_1, eX6_moveAll_3, eX6_moveAll_5, eX6_moveAll_8, eX6_moveAll_9, eX6_moveAll_12, eX6_moveAll_13, eX6_moveAll_14, eX6_moveAll_15, eX6_moveAll_18, eX6_moveAll_19, eX6_moveAll_20, eX6_moveAll_21, eX6_moveAll_24, eX6_moveAll_25, eX6_moveAll_28, eX6_moveAll_29, eX6_moveAll_30, eX6_moveAll_31, eX6_moveAll_32, eX6_moveAll_33, eX6_moveAll_36, eX6_moveAll_39]
  exact this
theorem mw_cF0 {x : rR} (h : mRow R = mRow x) : (mW w c R fd T B F tp bo zo sl ln I tm so be te wd vl gd kp) = (mW w c (x) fd T B F tp bo zo sl ln I tm so be te wd vl gd kp) := by unfold mW; rw [h]
theorem mv_F0 : sg θ (n + 1) 121 [.ref c, .int 0, .ref (c + 11)] (mW w c R fd T B F tp bo zo sl ln I tm so be te wd vl gd kp) Q ↔ Q none (mW w c (F) fd T B F tp bo zo sl ln I tm so be te wd vl gd kp) := by
  rw [nX6_moveAll]
  generalize ((mW w c R fd T B F tp bo zo sl ln I tm so be te wd vl gd kp).2.1 + 0, (mW w c R fd T B F tp bo zo sl ln I tm so be te wd vl gd kp).2.2 + 0) = lim
  have loop : ∀ d k, k + d = 59 → (Wp (xX6_moveAll θ n lim) Q (2, [some (.ref c), some (.int 0), some (.ref (c + 11)), some (.int (nI k))], [], (mW w c (cpR R F k) fd T B F tp bo zo sl ln I tm so be te wd vl gd kp)) ↔ Q none (mW w c (F) fd T B F tp bo zo sl ln I tm so be te wd vl gd kp)) := by
    intro d
    induction d with
    | zero =>
      intro k hk
      have hk : k = 59 := by omega
      subst hk
      rw [eX6_moveAll_2]
      simp only [eX6_moveAll_0, eX6_moveAll_1, eX6_moveAll_3, eX6_moveAll_5, eX6_moveAll_8, eX6_moveAll_9, eX6_moveAll_12, eX6_moveAll_13, eX6_moveAll_14, eX6_moveAll_15, eX6_moveAll_18, eX6_moveAll_19, eX6_moveAll_20, eX6_moveAll_21, eX6_moveAll_24, eX6_moveAll_25, eX6_moveAll_28, eX6_moveAll_29, eX6_moveAll_30, eX6_moveAll_31, eX6_moveAll_32, eX6_moveAll_33, eX6_moveAll_36, eX6_moveAll_39, show ((59 : Int32) ≤ nI 59) = True by decide, if_true]
      rw [mw_cF0 (cpR_m R F)]
    | succ d ih =>
      intro k hk
      have hlt : k < 59 := by omega
      have ih := ih (k + 1) (by omega)
      rw [nI_succ] at ih
      have hn : ¬ (59 : Int32) ≤ nI k := nI_ge (b := 59) hlt (by decide)
      rw [eX6_moveAll_2]
      simp only [eX6_moveAll_0, eX6_moveAll_1, eX6_moveAll_3, eX6_moveAll_5, eX6_moveAll_8, eX6_moveAll_9, eX6_moveAll_12, eX6_moveAll_13, eX6_moveAll_14, eX6_moveAll_15, eX6_moveAll_18, eX6_moveAll_19, eX6_moveAll_20, eX6_moveAll_21, eX6_moveAll_24, eX6_moveAll_25, eX6_moveAll_28, eX6_moveAll_29, eX6_moveAll_30, eX6_moveAll_31, eX6_moveAll_32, eX6_moveAll_33, eX6_moveAll_36, eX6_moveAll_39, mw_is, mw_f0, mw_f1, mw_f2, mw_f3, mw_f4, mw_f5, mw_f6, mw_f7, mw_f8, mw_f9, mw_f10, mw_f11, mw_f12, mw_f13, mw_f14, mw_f15, mw_f16, mw_f17, mw_f18, mw_n1, mw_w1, mw_v1, mw_s1, mw_n2, mw_w2, mw_v2, mw_s2, mw_n3, mw_w3, mw_v3, mw_s3, mw_n4, mw_w4, mw_v4, mw_s4, mw_n5, mw_w5, mw_v5, mw_s5, mw_n6, mw_w6, mw_v6, mw_s6, mw_n7, mw_w7, mw_v7, mw_s7, mw_n10, mw_w10, mw_v10, mw_s10, mw_n11, mw_w11, mw_v11, mw_s11, mw_n8, mw_v8, mw_s8, mw_n9, mw_v9, mw_s9, mw_p5, mw_p6, mw_p7, mw_p8, mw_p9, mw_p10, mw_p11, mw_p18, Option.elim_some, true_and, and_true, Option.toList_some, Option.toList_none, List.cons_append, List.nil_append, hn, if_false, if_true, i10, vp59 hlt, cl59 hlt, hlt, mRow_at, cpR_s]
      exact ih
  have := loop 59 0 (by omega)
  rw [cpR_0] at this
  simp only [eX6_moveAll_0, eX6_moveAll_1, eX6_moveAll_3, eX6_moveAll_5, eX6_moveAll_8, eX6_moveAll_9, eX6_moveAll_12, eX6_moveAll_13, eX6_moveAll_14, eX6_moveAll_15, eX6_moveAll_18, eX6_moveAll_19, eX6_moveAll_20, eX6_moveAll_21, eX6_moveAll_24, eX6_moveAll_25, eX6_moveAll_28, eX6_moveAll_29, eX6_moveAll_30, eX6_moveAll_31, eX6_moveAll_32, eX6_moveAll_33, eX6_moveAll_36, eX6_moveAll_39]
  exact this
theorem sX6_finds {j : Nat} {f : Int32} (hj : j < 7) (hf : -1000000001 - f = nI j) : sg θ (n + 1) 87 [.ref c, .int f] (mW w c R fd T B F tp bo zo sl ln I tm so be te wd vl gd kp) Q ↔ Q (some (.int f)) (mW w c R (fB fd j) T B F tp bo zo sl ln I tm so be te wd vl gd kp) := by
  rw [nX6_finds]
  simp only [eX6_finds_0, eX6_finds_1, eX6_finds_4, eX6_finds_6, eX6_finds_7, eX6_finds_8, eX6_finds_9, eX6_finds_10, eX6_finds_11, eX6_finds_12, eX6_finds_13, eX6_finds_14, mw_is, mw_f0, mw_f1, mw_f2, mw_f3, mw_f4, mw_f5, mw_f6, mw_f7, mw_f8, mw_f9, mw_f10, mw_f11, mw_f12, mw_f13, mw_f14, mw_f15, mw_f16, mw_f17, mw_f18, mw_n1, mw_w1, mw_v1, mw_s1, mw_n2, mw_w2, mw_v2, mw_s2, mw_n3, mw_w3, mw_v3, mw_s3, mw_n4, mw_w4, mw_v4, mw_s4, mw_n5, mw_w5, mw_v5, mw_s5, mw_n6, mw_w6, mw_v6, mw_s6, mw_n7, mw_w7, mw_v7, mw_s7, mw_n10, mw_w10, mw_v10, mw_s10, mw_n11, mw_w11, mw_v11, mw_s11, mw_n8, mw_v8, mw_s8, mw_n9, mw_v9, mw_s9, mw_p5, mw_p6, mw_p7, mw_p8, mw_p9, mw_p10, mw_p11, mw_p18, Option.elim_some, true_and, and_true, Option.toList_some, Option.toList_none, List.cons_append, List.nil_append, hf, vp7 hj, nI_clamp (show j < 2 ^ 31 by omega), fB]
theorem mfin0 : sg θ (n + 1) 87 [.ref c, .int (-1000000001)] (mW w c R fd T B F tp bo zo sl ln I tm so be te wd vl gd kp) Q ↔ Q (some (.int (-1000000001))) (mW w c R (fB fd 0) T B F tp bo zo sl ln I tm so be te wd vl gd kp) := sX6_finds (by decide) (by decide)
theorem mfin1 : sg θ (n + 1) 87 [.ref c, .int (-1000000002)] (mW w c R fd T B F tp bo zo sl ln I tm so be te wd vl gd kp) Q ↔ Q (some (.int (-1000000002))) (mW w c R (fB fd 1) T B F tp bo zo sl ln I tm so be te wd vl gd kp) := sX6_finds (by decide) (by decide)
theorem mfin2 : sg θ (n + 1) 87 [.ref c, .int (-1000000003)] (mW w c R fd T B F tp bo zo sl ln I tm so be te wd vl gd kp) Q ↔ Q (some (.int (-1000000003))) (mW w c R (fB fd 2) T B F tp bo zo sl ln I tm so be te wd vl gd kp) := sX6_finds (by decide) (by decide)
theorem mfin3 : sg θ (n + 1) 87 [.ref c, .int (-1000000004)] (mW w c R fd T B F tp bo zo sl ln I tm so be te wd vl gd kp) Q ↔ Q (some (.int (-1000000004))) (mW w c R (fB fd 3) T B F tp bo zo sl ln I tm so be te wd vl gd kp) := sX6_finds (by decide) (by decide)
theorem mfin4 : sg θ (n + 1) 87 [.ref c, .int (-1000000005)] (mW w c R fd T B F tp bo zo sl ln I tm so be te wd vl gd kp) Q ↔ Q (some (.int (-1000000005))) (mW w c R (fB fd 4) T B F tp bo zo sl ln I tm so be te wd vl gd kp) := sX6_finds (by decide) (by decide)
theorem mfin5 : sg θ (n + 1) 87 [.ref c, .int (-1000000006)] (mW w c R fd T B F tp bo zo sl ln I tm so be te wd vl gd kp) Q ↔ Q (some (.int (-1000000006))) (mW w c R (fB fd 5) T B F tp bo zo sl ln I tm so be te wd vl gd kp) := sX6_finds (by decide) (by decide)
theorem mfin6 : sg θ (n + 1) 87 [.ref c, .int (-1000000007)] (mW w c R fd T B F tp bo zo sl ln I tm so be te wd vl gd kp) Q ↔ Q (some (.int (-1000000007))) (mW w c R (fB fd 6) T B F tp bo zo sl ln I tm so be te wd vl gd kp) := sX6_finds (by decide) (by decide)
theorem sX6_becomes {p : Nat} {v : Int32} (hp : p < 59) : sg θ (n + 1) 86 [.ref c, .int (nI p), .int v] (mW w c R fd T B F tp bo zo sl ln I tm so be te wd vl gd kp) Q ↔ Q (some (.int (R p))) (mW w c (upd R p v) fd T B F tp bo zo sl ln I tm so be te wd vl gd kp) := by
  rw [nX6_becomes]
  simp only [eX6_becomes_0, eX6_becomes_1, eX6_becomes_4, eX6_becomes_5, eX6_becomes_6, eX6_becomes_7, eX6_becomes_8, eX6_becomes_11, eX6_becomes_12, eX6_becomes_13, eX6_becomes_14, eX6_becomes_15, mw_is, mw_f0, mw_f1, mw_f2, mw_f3, mw_f4, mw_f5, mw_f6, mw_f7, mw_f8, mw_f9, mw_f10, mw_f11, mw_f12, mw_f13, mw_f14, mw_f15, mw_f16, mw_f17, mw_f18, mw_n1, mw_w1, mw_v1, mw_s1, mw_n2, mw_w2, mw_v2, mw_s2, mw_n3, mw_w3, mw_v3, mw_s3, mw_n4, mw_w4, mw_v4, mw_s4, mw_n5, mw_w5, mw_v5, mw_s5, mw_n6, mw_w6, mw_v6, mw_s6, mw_n7, mw_w7, mw_v7, mw_s7, mw_n10, mw_w10, mw_v10, mw_s10, mw_n11, mw_w11, mw_v11, mw_s11, mw_n8, mw_v8, mw_s8, mw_n9, mw_v9, mw_s9, mw_p5, mw_p6, mw_p7, mw_p8, mw_p9, mw_p10, mw_p11, mw_p18, Option.elim_some, true_and, and_true, Option.toList_some, Option.toList_none, List.cons_append, List.nil_append, vp59 hp, cl59 hp, hp, mRow_at]
theorem sX6_isOne (hm : R 2 = nI m) (h8 : m ≤ 8) {x : Int32} : sg θ (n + 2) 93 [.ref c, .int x] (mW w c R fd T B F tp bo zo sl ln I tm so be te wd vl gd kp) Q ↔ Q (some (.int (bI (isW R x)))) (mW w c R fd T B F tp bo zo sl ln I tm so be te wd vl gd kp) := by
  rw [nX6_isOne]
  simp only [eX6_isOne_0, eX6_isOne_1, eX6_isOne_2, eX6_isOne_3, eX6_isOne_6, eX6_isOne_7, eX6_isOne_8, eX6_isOne_9, eX6_isOne_10, eX6_isOne_13, mw_is, mw_f0, mw_f1, mw_f2, mw_f3, mw_f4, mw_f5, mw_f6, mw_f7, mw_f8, mw_f9, mw_f10, mw_f11, mw_f12, mw_f13, mw_f14, mw_f15, mw_f16, mw_f17, mw_f18, mw_n1, mw_w1, mw_v1, mw_s1, mw_n2, mw_w2, mw_v2, mw_s2, mw_n3, mw_w3, mw_v3, mw_s3, mw_n4, mw_w4, mw_v4, mw_s4, mw_n5, mw_w5, mw_v5, mw_s5, mw_n6, mw_w6, mw_v6, mw_s6, mw_n7, mw_w7, mw_v7, mw_s7, mw_n10, mw_w10, mw_v10, mw_s10, mw_n11, mw_w11, mw_v11, mw_s11, mw_n8, mw_v8, mw_s8, mw_n9, mw_v9, mw_s9, mw_p5, mw_p6, mw_p7, mw_p8, mw_p9, mw_p10, mw_p11, mw_p18, Option.elim_some, true_and, and_true, Option.toList_some, Option.toList_none, List.cons_append, List.nil_append, vp2, cl2, mR2, sX6_in, one_W hm h8, nb_b]
end T71
