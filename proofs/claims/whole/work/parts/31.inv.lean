/-- what an avenue of m walkers always keeps to -/
def invR (r : rR) (m : Nat) : Prop := kOK r m ∧ (r 1 = 0 ∨ r 1 = 1) ∧ ∀ i, i < m → (∃ p : Nat, p ≤ 99 ∧ its r i 1 = nI p) ∧ (its r i 2 = 0 ∨ its r i 2 = 1) ∧ (∃ p : Nat, p ≤ 9 ∧ its r i 3 = nI p) ∧ (its r i 4 = 0 ∨ its r i 4 = 1) ∧ (∃ p : Nat, p ≤ 999 ∧ its r i 5 = nI p) ∧ (∃ p : Nat, p ≤ 999 ∧ its r i 6 = nI p)
/-- what a part of one may be -/
def okV (d : Nat) (x : Int32) : Prop := match d with
  | 0 => ∃ p : Nat, p < 6 ∧ x = nI p
  | 1 => ∃ p : Nat, p ≤ 99 ∧ x = nI p
  | 2 => x = 0 ∨ x = 1
  | 3 => ∃ p : Nat, p ≤ 9 ∧ x = nI p
  | 4 => x = 0 ∨ x = 1
  | _ => ∃ p : Nat, p ≤ 999 ∧ x = nI p
theorem invR.of {r : rR} {m : Nat} (h2 : r 2 = nI m) (h8 : m ≤ 8) (h1 : r 1 = 0 ∨ r 1 = 1) (h : ∀ i, i < m → ∀ d, d < 7 → okV d (its r i d)) : invR r m :=
  ⟨⟨h2, h8, fun i hi => h i hi 0 (by decide)⟩, h1, fun i hi => ⟨h i hi 1 (by decide), h i hi 2 (by decide), h i hi 3 (by decide), h i hi 4 (by decide), h i hi 5 (by decide), h i hi 6 (by decide)⟩⟩
theorem invR.at {r : rR} {m i d : Nat} (h : invR r m) (hi : i < m) (hd : d < 7) : okV d (its r i d) := by
  match d, hd with
  | 0, _ => exact h.1.2.2 i hi
  | 1, _ => exact (h.2.2 i hi).1
  | 2, _ => exact (h.2.2 i hi).2.1
  | 3, _ => exact (h.2.2 i hi).2.2.1
  | 4, _ => exact (h.2.2 i hi).2.2.2.1
  | 5, _ => exact (h.2.2 i hi).2.2.2.2.1
  | 6, _ => exact (h.2.2 i hi).2.2.2.2.2
theorem invR.up {r : rR} {m i d : Nat} {x : Int32} (h : invR r m) (hd : d < 7) (hx : okV d x) : invR (upd r (3 + 7 * i + d) x) m := by
  refine invR.of (by rw [upd_ne (by omega)]; exact h.1.1) h.1.2.1 (by rw [upd_ne (by omega)]; exact h.2.1) (fun j hj d' hd' => ?_)
  by_cases he : i = j ∧ d = d'
  · obtain ⟨rfl, rfl⟩ := he
    rw [its_eq]
    exact hx
  · rw [its_ne hd hd' he]
    exact h.at hj hd'
theorem invR.lo {r : rR} {m : Nat} {x : Int32} (h : invR r m) : invR (upd r 0 x) m := by
  refine invR.of (by rw [upd_ne (by omega)]; exact h.1.1) h.1.2.1 (by rw [upd_ne (by omega)]; exact h.2.1) (fun j hj d' hd' => ?_)
  unfold its
  rw [upd_ne (by omega)]
  exact h.at hj hd'
theorem nI_lit1 : (1 : Int32) = nI 1 := rfl
theorem iMin_nI {p : Nat} (hp : p ≤ 1000) (q : Nat) (hq : q < 2000) : iMin (nI p) (nI q) = nI (min p q) := by
  unfold iMin
  by_cases h : q < p
  · rw [if_pos (nI_lt h (by omega)), Nat.min_eq_right (by omega)]
  · rw [if_neg (nI_nlt (by omega) (by omega)), Nat.min_eq_left (by omega)]
theorem okV_more {x : Int32} (h : ∃ p : Nat, p ≤ 999 ∧ x = nI p) : ∃ p : Nat, p ≤ 999 ∧ iMin (x + 1) 999 = nI p := by
  obtain ⟨p, hp, rfl⟩ := h
  refine ⟨min (p + 1) 999, Nat.min_le_right _ _, ?_⟩
  rw [nI_1, show (999 : Int32) = nI 999 from rfl, iMin_nI (by omega) 999 (by decide)]
theorem heldI_more {x : Int32} (h : ∃ p : Nat, p ≤ 999 ∧ x = nI p) : heldI (x + 1) 0 999 = iMin (x + 1) 999 := by
  obtain ⟨p, hp, rfl⟩ := h
  rw [nI_1]
  unfold heldI iMin
  rw [if_pos (nI_pos' (by omega)), show (999 : Int32) = nI 999 from rfl]
  by_cases hq : p + 1 ≤ 999
  · rw [if_pos (nI_le hq (by decide)), if_neg (nI_nlt hq (by decide))]
  · rw [if_neg (nI_ge (by omega) (by omega)), if_pos (nI_lt (by omega) (by omega))]
theorem upd_self {r : rR} {p : Nat} {x : Int32} (h : r p = x) : upd r p x = r := by
  funext q
  unfold upd
  split
  · rename_i hq; rw [hq, h]
  · rfl
theorem invR.bump {r : rR} {m i j : Nat} (h : invR r m) (hi : i < m) (hj : j < m) : invR (bumpR r i j) m := by
  have h1 : invR (upd r (3 + 7 * i + 6) (iMin (its r i 6 + 1) 999)) m := h.up (by decide) (okV_more (h.at hi (show 6 < 7 by decide)))
  have h2 : invR (upd (upd r (3 + 7 * i + 6) (iMin (its r i 6 + 1) 999)) (3 + 7 * j + 6) (iMin (its (upd r (3 + 7 * i + 6) (iMin (its r i 6 + 1) 999)) j 6 + 1) 999)) m := h1.up (by decide) (okV_more (h1.at hj (show 6 < 7 by decide)))
  unfold bumpR
  generalize upd (upd r (3 + 7 * i + 6) (iMin (its r i 6 + 1) 999)) (3 + 7 * j + 6) (iMin (its (upd r (3 + 7 * i + 6) (iMin (its r i 6 + 1) 999)) j 6 + 1) 999) = r2 at h2 ⊢
  split
  · have h3 : invR (upd r2 (3 + 7 * i + 4) (1 - its r2 i 4)) m := h2.up (by decide) (by
      rcases h2.at hi (show 4 < 7 by decide) with q | q
      · rw [q]; exact Or.inr (by decide)
      · rw [q]; exact Or.inl (by decide))
    refine h3.up (by decide) ?_
    rcases h3.at hi (show 4 < 7 by decide) with q | q
    · rw [q, Int32.add_zero]
      obtain ⟨p, hp, e⟩ := h3.at hi (show 5 < 7 by decide)
      exact ⟨p, hp, by rw [e, show (999 : Int32) = nI 999 from rfl, iMin_nI (by omega) 999 (by decide), Nat.min_eq_left hp]⟩
    · rw [q]
      exact okV_more (h3.at hi (show 5 < 7 by decide))
  · exact h2
/-- the reference's way to say a bump -/
theorem bump_alt {r : rR} {m i j : Nat} (h : invR r m) (hi : i < m) (hj : j < m) : bumpR r i j =
    (let r2 := upd (upd r (3 + 7 * i + 6) (heldI (its r i 6 + 1) 0 999)) (3 + 7 * j + 6) (heldI (its (upd r (3 + 7 * i + 6) (heldI (its r i 6 + 1) 0 999)) j 6 + 1) 0 999)
     if turnsOf (its r2 i 0) (its r2 i 3) = true then
       (let r3 := upd r2 (3 + 7 * i + 4) (1 - its r2 i 4)
        if its r3 i 4 = 1 then upd r3 (3 + 7 * i + 5) (heldI (its r3 i 5 + 1) 0 999) else r3)
     else r2) := by
  have h1 : invR (upd r (3 + 7 * i + 6) (iMin (its r i 6 + 1) 999)) m := h.up (by decide) (okV_more (h.at hi (show 6 < 7 by decide)))
  have h2 : invR (upd (upd r (3 + 7 * i + 6) (iMin (its r i 6 + 1) 999)) (3 + 7 * j + 6) (iMin (its (upd r (3 + 7 * i + 6) (iMin (its r i 6 + 1) 999)) j 6 + 1) 999)) m := h1.up (by decide) (okV_more (h1.at hj (show 6 < 7 by decide)))
  rw [heldI_more (h.at hi (show 6 < 7 by decide)), heldI_more (h1.at hj (show 6 < 7 by decide))]
  unfold bumpR
  dsimp only
  generalize upd (upd r (3 + 7 * i + 6) (iMin (its r i 6 + 1) 999)) (3 + 7 * j + 6) (iMin (its (upd r (3 + 7 * i + 6) (iMin (its r i 6 + 1) 999)) j 6 + 1) 999) = r2 at h2 ⊢
  by_cases ht : turnsOf (its r2 i 0) (its r2 i 3) = true
  · rw [if_pos ht, if_pos ht]
    have h3 : invR (upd r2 (3 + 7 * i + 4) (1 - its r2 i 4)) m := h2.up (by decide) (by
      rcases h2.at hi (show 4 < 7 by decide) with q | q
      · rw [q]; exact Or.inr (by decide)
      · rw [q]; exact Or.inl (by decide))
    generalize upd r2 (3 + 7 * i + 4) (1 - its r2 i 4) = r3 at h3 ⊢
    rcases h3.at hi (show 4 < 7 by decide) with q | q
    · rw [q, if_neg (by decide), Int32.add_zero]
      obtain ⟨p, hp, e⟩ := h3.at hi (show 5 < 7 by decide)
      refine upd_self ?_
      show its r3 i 5 = _
      rw [e, show (999 : Int32) = nI 999 from rfl, iMin_nI (by omega) 999 (by decide), Nat.min_eq_left hp]
    · rw [q, if_pos rfl, heldI_more (h3.at hi (show 5 < 7 by decide))]
  · rw [if_neg ht, if_neg ht]
theorem pl_m5 : ∀ p : Nat, p < 100 → iMax (nI p - 5) 0 = nI (p - 5) := by decide +kernel
theorem invR.ride {r : rR} {m i : Nat} (h : invR r m) (hi : i < m) : invR (rideR r i) m := by
  obtain ⟨p, hp, e⟩ := h.at hi (show 1 < 7 by decide)
  unfold rideR
  split
  · exact h
  · split
    · exact h
    · split
      · split
        · refine h.up (by decide) ⟨min (p + 5) 99, Nat.min_le_right _ _, ?_⟩
          rw [e, show (5 : Int32) = nI 5 from rfl, nI_add, show (99 : Int32) = nI 99 from rfl, iMin_nI (by omega) 99 (by decide)]
        · refine h.up (by decide) ⟨p - 5, by omega, ?_⟩
          rw [e]
          exact pl_m5 p (by omega)
      · exact h
theorem thru_iff {r : rR} {i : Nat} : thru r i = true ↔ its r i 1 = if its r i 2 = 1 then 99 else 0 := by unfold thru; exact decide_eq_true_iff
theorem pl_up : ∀ p : Nat, p < 100 → ¬ nI p = 99 → nI p + 1 = nI (p + 1) ∧ p + 1 ≤ 99 := by decide +kernel
theorem pl_dn : ∀ p : Nat, p < 100 → ¬ nI p = 0 → nI p + (-1) = nI (p - 1) ∧ p - 1 ≤ 99 := by decide +kernel
theorem invR.pace1 {r : rR} {m i : Nat} (h : invR r m) (hi : i < m) (ht : thru r i = false) : invR (upd r (3 + 7 * i + 1) (its r i 1 + wayOf r i)) m := by
  obtain ⟨p, hp, e⟩ := h.at hi (show 1 < 7 by decide)
  have hn : ¬ its r i 1 = if its r i 2 = 1 then 99 else 0 := fun q => by rw [thru_iff.mpr q] at ht; cases ht
  refine h.up (by decide) ?_
  unfold wayOf
  rw [e] at hn ⊢
  by_cases hb : its r i 2 = 1
  · rw [if_pos hb] at hn ⊢
    obtain ⟨q1, q2⟩ := pl_up p (by omega) hn
    exact ⟨p + 1, q2, q1⟩
  · rw [if_neg hb] at hn ⊢
    obtain ⟨q1, q2⟩ := pl_dn p (by omega) hn
    exact ⟨p - 1, q2, q1⟩
theorem invR.walk {m i : Nat} (hi : i < m) : ∀ (d : Nat) (r : rR), invR r m → thru r i = false → invR (walkR m i (wayOf r i) d r) m
  | 0, r, h, _ => h
  | d + 1, r, h, ht => by
    have h1 := h.pace1 hi ht
    have hw : wayOf (upd r (3 + 7 * i + 1) (its r i 1 + wayOf r i)) i = wayOf r i := by
      unfold wayOf
      rw [its_ne (by decide) (by decide) (by omega)]
    unfold walkR
    split
    · exact h1
    · rename_i hn
      split
      · rename_i j hj
        exact h1.bump hi (by have := inWay_lt hj; omega)
      · have ih := invR.walk hi d _ h1 (by simpa using hn)
        rw [hw] at ih
        exact ih
theorem invR.step {r : rR} {m i : Nat} (h : invR r m) (hi : i < m) : invR (stepR m r i) m := by
  unfold stepR
  split
  · exact h
  · rename_i hn
    exact (invR.walk hi _ r h (by simpa using hn)).ride hi
theorem invR.minUp {r : rR} {m : Nat} (h : invR r m) : ∀ j, j ≤ m → invR (minUp m r j) m
  | 0, _ => h
  | j + 1, hj => (invR.minUp h j (by omega)).step (by omega)
theorem invR.min {r : rR} {m : Nat} (h : invR r m) : invR (minR m r) m := (h.minUp m (Nat.le_refl m)).lo
theorem invR.mins {m : Nat} : ∀ (d : Nat) {r : rR}, invR r m → invR (minsR m d r) m
  | 0, _, h => h
  | d + 1, _, h => invR.mins d h.min
