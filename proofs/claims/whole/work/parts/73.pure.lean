/-! BUMPS and FINES never fall -/
def leR (r r' : rR) (m : Nat) : Prop := ∀ i, i < m → its r i 5 ≤ its r' i 5 ∧ its r i 6 ≤ its r' i 6
theorem leR.rfl' {r : rR} {m : Nat} : leR r r m := fun _ _ => ⟨Int32.le_refl _, Int32.le_refl _⟩
theorem leR.tr {r s t : rR} {m : Nat} (h1 : leR r s m) (h2 : leR s t m) : leR r t m := fun i hi => ⟨Int32.le_trans (h1 i hi).1 (h2 i hi).1, Int32.le_trans (h1 i hi).2 (h2 i hi).2⟩
theorem leR.up {r : rR} {m i d : Nat} {x : Int32} (hd : d < 5) : leR r (upd r (3 + 7 * i + d) x) m := fun j _ => by
  rw [its_ne (by omega) (by decide) (by omega), its_ne (by omega) (by decide) (by omega)]
  exact ⟨Int32.le_refl _, Int32.le_refl _⟩
theorem leR.lo {r : rR} {m : Nat} {x : Int32} : leR r (upd r 0 x) m := fun j _ => by
  unfold its
  rw [upd_ne (by omega), upd_ne (by omega)]
  exact ⟨Int32.le_refl _, Int32.le_refl _⟩
theorem more_le : ∀ p : Nat, p < 1000 → nI p ≤ iMin (nI p + 1) 999 ∧ nI p ≤ iMin (nI p + 0) 999 := by decide +kernel
theorem leR.up6 {r : rR} {m i : Nat} (h : ∃ p : Nat, p ≤ 999 ∧ its r i 6 = nI p) : leR r (upd r (3 + 7 * i + 6) (iMin (its r i 6 + 1) 999)) m := fun j _ => by
  obtain ⟨p, hp, e⟩ := h
  refine ⟨by rw [its_ne (by decide) (by decide) (by omega)]; exact Int32.le_refl _, ?_⟩
  by_cases hj : i = j
  · subst hj
    rw [its_eq, e]
    exact (more_le p (by omega)).1
  · rw [its_ne (by decide) (by decide) (by omega)]
    exact Int32.le_refl _
theorem leR.up5 {r : rR} {m i : Nat} {x : Int32} (h : ∃ p : Nat, p ≤ 999 ∧ its r i 5 = nI p) (hx : x = 0 ∨ x = 1) : leR r (upd r (3 + 7 * i + 5) (iMin (its r i 5 + x) 999)) m := fun j _ => by
  obtain ⟨p, hp, e⟩ := h
  refine ⟨?_, by rw [its_ne (by decide) (by decide) (by omega)]; exact Int32.le_refl _⟩
  by_cases hj : i = j
  · subst hj
    rw [its_eq, e]
    rcases hx with rfl | rfl
    · exact (more_le p (by omega)).2
    · exact (more_le p (by omega)).1
  · rw [its_ne (by decide) (by decide) (by omega)]
    exact Int32.le_refl _
theorem leR.bump {r : rR} {m i j : Nat} (h : invR r m) (hi : i < m) (hj : j < m) : leR r (bumpR r i j) m := by
  have h1 : invR (upd r (3 + 7 * i + 6) (iMin (its r i 6 + 1) 999)) m := h.up (by decide) (okV_more (h.at hi (show 6 < 7 by decide)))
  have l1 : leR r (upd r (3 + 7 * i + 6) (iMin (its r i 6 + 1) 999)) m := leR.up6 (h.at hi (show 6 < 7 by decide))
  have h2 : invR (upd (upd r (3 + 7 * i + 6) (iMin (its r i 6 + 1) 999)) (3 + 7 * j + 6) (iMin (its (upd r (3 + 7 * i + 6) (iMin (its r i 6 + 1) 999)) j 6 + 1) 999)) m := h1.up (by decide) (okV_more (h1.at hj (show 6 < 7 by decide)))
  have l2 := l1.tr (leR.up6 (m := m) (h1.at hj (show 6 < 7 by decide)))
  unfold bumpR
  generalize upd (upd r (3 + 7 * i + 6) (iMin (its r i 6 + 1) 999)) (3 + 7 * j + 6) (iMin (its (upd r (3 + 7 * i + 6) (iMin (its r i 6 + 1) 999)) j 6 + 1) 999) = r2 at h2 l2 ⊢
  split
  · have h3 : invR (upd r2 (3 + 7 * i + 4) (1 - its r2 i 4)) m := h2.up (by decide) (by
      rcases h2.at hi (show 4 < 7 by decide) with q | q
      · rw [q]; exact Or.inr (by decide)
      · rw [q]; exact Or.inl (by decide))
    have l3 := l2.tr (leR.up (r := r2) (m := m) (i := i) (d := 4) (x := 1 - its r2 i 4) (by decide))
    exact l3.tr (leR.up5 (h3.at hi (show 5 < 7 by decide)) (h3.at hi (show 4 < 7 by decide)))
  · exact l2
theorem leR.ride {r : rR} {m i : Nat} : leR r (rideR r i) m := by
  unfold rideR
  repeat' split
  all_goals first | exact leR.rfl' | exact leR.up (by decide)
theorem leR.walk {m i : Nat} (hi : i < m) : ∀ (d : Nat) (r : rR), invR r m → thru r i = false → leR r (walkR m i (wayOf r i) d r) m
  | 0, r, h, _ => leR.rfl'
  | d + 1, r, h, ht => by
    have h1 := h.pace1 hi ht
    have l1 : leR r (upd r (3 + 7 * i + 1) (its r i 1 + wayOf r i)) m := leR.up (by decide)
    have hw : wayOf (upd r (3 + 7 * i + 1) (its r i 1 + wayOf r i)) i = wayOf r i := by
      unfold wayOf
      rw [its_ne (by decide) (by decide) (by omega)]
    unfold walkR
    split
    · exact l1
    · rename_i hn
      split
      · rename_i j hj
        exact l1.tr (leR.bump h1 hi (by have := inWay_lt hj; omega))
      · have ih := leR.walk hi d _ h1 (by simpa using hn)
        rw [hw] at ih
        exact l1.tr ih
theorem leR.step {r : rR} {m i : Nat} (h : invR r m) (hi : i < m) : leR r (stepR m r i) m := by
  unfold stepR
  split
  · exact leR.rfl'
  · rename_i hn
    exact (leR.walk hi _ r h (by simpa using hn)).tr leR.ride
theorem leR.minUp {r : rR} {m : Nat} (h : invR r m) : ∀ j, j ≤ m → leR r (minUp m r j) m
  | 0, _ => leR.rfl'
  | j + 1, hj => (leR.minUp h j (by omega)).tr (leR.step (h.minUp j (by omega)) (by omega))
theorem leR.min {r : rR} {m : Nat} (h : invR r m) : leR r (minR m r) m := (leR.minUp h m (Nat.le_refl m)).tr leR.lo
theorem leR.mins {m : Nat} : ∀ (d : Nat) {r : rR}, invR r m → leR r (minsR m d r) m
  | 0, _, _ => leR.rfl'
  | d + 1, _, h => (leR.min h).tr (leR.mins d h.min)
theorem sum_nI {r : rR} {m d : Nat} (h : invR r m) (hd : d = 5 ∨ d = 6) : ∀ j, j ≤ m → ∃ S, S ≤ 999 * j ∧ sumUp r d j = nI S
  | 0, _ => ⟨0, by omega, rfl⟩
  | j + 1, hj => by
    obtain ⟨S, h1, h2⟩ := sum_nI h hd j (by omega)
    have : ∃ p : Nat, p ≤ 999 ∧ its r j d = nI p := by
      rcases hd with rfl | rfl
      · exact h.at hj (show 5 < 7 by decide)
      · exact h.at hj (show 6 < 7 by decide)
    obtain ⟨p, hp, e⟩ := this
    exact ⟨S + p, by omega, by unfold sumUp; rw [h2, e, nI_add]⟩
theorem sum_two {r r' : rR} {m d : Nat} (h : invR r m) (h' : invR r' m) (hl : leR r r' m) (hd : d = 5 ∨ d = 6) : ∀ j, j ≤ m → ∃ S S', S ≤ S' ∧ S' ≤ 999 * j ∧ sumUp r d j = nI S ∧ sumUp r' d j = nI S'
  | 0, _ => ⟨0, 0, by omega, by omega, rfl, rfl⟩
  | j + 1, hj => by
    obtain ⟨S, S', h1, h2, h3, h4⟩ := sum_two h h' hl hd j (by omega)
    have : ∃ p q : Nat, p ≤ q ∧ q ≤ 999 ∧ its r j d = nI p ∧ its r' j d = nI q := by
      rcases hd with rfl | rfl
      · obtain ⟨p, hp, e⟩ := h.at hj (show 5 < 7 by decide)
        obtain ⟨q, hq, e'⟩ := h'.at hj (show 5 < 7 by decide)
        have hle := (hl j hj).1
        rw [e, e'] at hle
        exact ⟨p, q, (nI_leI (by omega) (by omega)).mp hle, hq, e, e'⟩
      · obtain ⟨p, hp, e⟩ := h.at hj (show 6 < 7 by decide)
        obtain ⟨q, hq, e'⟩ := h'.at hj (show 6 < 7 by decide)
        have hle := (hl j hj).2
        rw [e, e'] at hle
        exact ⟨p, q, (nI_leI (by omega) (by omega)).mp hle, hq, e, e'⟩
    obtain ⟨p, q, hpq, hq, e, e'⟩ := this
    exact ⟨S + p, S' + q, by omega, by omega, by unfold sumUp; rw [h3, e, nI_add], by unfold sumUp; rw [h4, e', nI_add]⟩
theorem sum_le {r r' : rR} {m d : Nat} (h : invR r m) (h' : invR r' m) (hl : leR r r' m) (hd : d = 5 ∨ d = 6) : sumUp r d m ≤ sumUp r' d m := by
  have h8 := h.1.2.1
  obtain ⟨S, S', h1, h2, h3, h4⟩ := sum_two h h' hl hd m (Nat.le_refl m)
  rw [h3, h4]
  exact nI_le h1 (by omega)
theorem sum_lt {r : rR} {m d : Nat} {e : Int32} (h : invR r m) (hd : d = 5 ∨ d = 6) (he : e = 7993 ∨ e = 1000000) : sumUp r d m < e := by
  have h8 := h.1.2.1
  obtain ⟨S, h1, h2⟩ := sum_nI h hd m (Nat.le_refl m)
  rw [h2]
  rcases he with rfl | rfl
  · exact nI_lt (b := 7993) (by omega) (by decide)
  · exact nI_lt (b := 1000000) (by omega) (by decide)
theorem bs_eq {m : Nat} {e : Int32} : ∀ (d : Nat) {r : rR}, invR r m → (sumUp (bsR m e d r) 6 m < e ↔ sumUp (minsR m d r) 6 m < e) ∧ (sumUp (minsR m d r) 6 m < e → bsR m e d r = minsR m d r)
  | 0, r, h => ⟨Iff.rfl, fun _ => rfl⟩
  | d + 1, r, h => by
    unfold bsR minsR
    by_cases hc : sumUp r 6 m < e
    · rw [if_pos hc]
      exact bs_eq d h.min
    · rw [if_neg hc]
      have hle := sum_le h (invR.mins d h.min) ((leR.min h).tr (leR.mins d h.min)) (Or.inr rfl)
      have hn : ¬ sumUp (minsR m d (minR m r)) 6 m < e := fun q => hc (by
        have h1 := Int32.le_iff_toInt_le.mp hle
        have h2 := Int32.lt_iff_toInt_lt.mp q
        rw [Int32.lt_iff_toInt_lt]
        omega)
      exact ⟨⟨fun q => absurd q hc, fun q => absurd q hn⟩, fun q => absurd q hn⟩
/-- one more try of a best: what both keep -/
def bestS (x : Int32) (z : Int32 × Int32) (v : Int32) : Int32 × Int32 := if v < z.2 then (x, v) else z
def begM (m i d : Nat) (P : rR) : Nat → Int32 × Int32
  | 0 => (0, 7993)
  | p + 1 => bestS (nI p) (begM m i d P p) (sumUp (minsR m d (upd P (3 + 7 * i + 1) (nI p))) 6 m)
def othM (m d : Nat) (P : rR) : Nat → Int32 × Int32
  | 0 => (-1, sumUp (minsR m d P) 6 m)
  | i + 1 => bestS (nI i) (othM m d P i) (sumUp (minsR m d (upd P (3 + 7 * i + 2) (1 - its P i 2))) 6 m)
theorem bs_best {m d : Nat} {r : rR} {x : Int32} {z : Int32 × Int32} (h : invR r m) : (if sumUp (bsR m z.2 d r) 6 m < z.2 then (x, sumUp (bsR m z.2 d r) 6 m) else z) = bestS x z (sumUp (minsR m d r) 6 m) := by
  obtain ⟨h1, h2⟩ := bs_eq (e := z.2) d h
  unfold bestS
  by_cases hc : sumUp (minsR m d r) 6 m < z.2
  · rw [if_pos hc, if_pos (h1.mpr hc), h2 hc]
  · rw [if_neg hc, if_neg (fun q => hc (h1.mp q))]
theorem beg_eq {m i d : Nat} {P : rR} (h : invR P m) : ∀ p, p < 100 → begUp m i d P (p + 1) = begM m i d P (p + 1)
  | 0, _ => by
    have hv : invR (upd P (3 + 7 * i + 1) (nI 0)) m := h.up (by decide) ⟨0, by decide, rfl⟩
    have e1 : begUp m i d P 1 = bestS (nI 0) (0, 1000000) (sumUp (minsR m d (upd P (3 + 7 * i + 1) (nI 0))) 6 m) := bs_best (z := (0, 1000000)) hv
    rw [e1]
    show _ = bestS (nI 0) (0, 7993) _
    unfold bestS
    rw [if_pos (sum_lt (invR.mins d hv) (Or.inr rfl) (Or.inr rfl)), if_pos (sum_lt (invR.mins d hv) (Or.inr rfl) (Or.inl rfl))]
  | p + 1, hp => by
    have ih := beg_eq (i := i) (d := d) h p (by omega)
    have hv : invR (upd P (3 + 7 * i + 1) (nI (p + 1))) m := h.up (by decide) ⟨p + 1, by omega, rfl⟩
    have e1 : begUp m i d P (p + 1 + 1) = bestS (nI (p + 1)) (begUp m i d P (p + 1)) (sumUp (minsR m d (upd P (3 + 7 * i + 1) (nI (p + 1)))) 6 m) := bs_best hv
    rw [e1, ih]
    rfl
theorem invR.bound {m i : Nat} {P : rR} (h : invR P m) (hi : i < m) : invR (upd P (3 + 7 * i + 2) (1 - its P i 2)) m := by
  refine h.up (by decide) ?_
  rcases h.at hi (show 2 < 7 by decide) with q | q
  · rw [q]; exact Or.inr (by decide)
  · rw [q]; exact Or.inl (by decide)
theorem oth_eq {m d : Nat} {P : rR} (h : invR P m) : ∀ i, i ≤ m → othUp m d P i = othM m d P i
  | 0, _ => by
    unfold othUp othM
    have hlt := sum_lt (d := 6) (e := 1000000) (invR.mins d h) (Or.inr rfl) (Or.inr rfl)
    rw [(bs_eq (e := 1000000) d h).2 hlt]
  | i + 1, hi => by
    have ih := oth_eq (d := d) h i (by omega)
    have e1 : othUp m d P (i + 1) = bestS (nI i) (othUp m d P i) (sumUp (minsR m d (upd P (3 + 7 * i + 2) (1 - its P i 2))) 6 m) := bs_best (h.bound (by omega))
    rw [e1, ih]
    rfl
theorem till_le {m i : Nat} : ∀ (l : Nat) (r : rR), tillR m i l r ≤ l
  | 0, r => Nat.le_refl 0
  | l + 1, r => by
    unfold tillR
    split
    · omega
    · have := till_le (m := m) (i := i) l (minR m r); omega
theorem till_min {m i : Nat} : ∀ (l k : Nat) (r : rR), tillR m i l r = min l (tillR m i (l + k) r)
  | 0, k, r => by simp [tillR]
  | l + 1, k, r => by
    rw [show l + 1 + k = l + k + 1 by omega]
    unfold tillR
    by_cases h : thru r i = true
    · rw [if_pos h, if_pos h]; omega
    · rw [if_neg h, if_neg h, till_min l k (minR m r)]; omega
def soonM (m i c : Nat) (P : rR) : Nat → Int32 × Nat
  | 0 => (-1, 201)
  | v + 1 => if tillR m i 201 (upd P (3 + 7 * i + c) (nI v)) < (soonM m i c P v).2 then (nI v, tillR m i 201 (upd P (3 + 7 * i + c) (nI v))) else soonM m i c P v
theorem soon_eq (m i c : Nat) (P : rR) : ∀ v, soonUp m i c P v = soonM m i c P v
  | 0 => rfl
  | v + 1 => by
    have ih := soon_eq m i c P v
    have hle := soon_le m i c P v
    unfold soonUp soonM
    rw [← ih]
    have e := till_min (m := m) (i := i) (soonUp m i c P v).2 (201 - (soonUp m i c P v).2) (upd P (3 + 7 * i + c) (nI v))
    rw [show (soonUp m i c P v).2 + (201 - (soonUp m i c P v).2) = 201 by omega] at e
    rw [e]
    by_cases hc : tillR m i 201 (upd P (3 + 7 * i + c) (nI v)) < (soonUp m i c P v).2
    · rw [if_pos (by omega), if_pos hc, Nat.min_eq_right (by omega)]
    · rw [if_neg (by omega), if_neg hc]
/-- bumps: a look ahead of each minute, by unlikeness, is one behind it, by growth -/
theorem then_eq {m i : Nat} {x : Int32} (hi : i < m) : ∀ (d : Nat) (r : rR), invR r m → its r i 6 = x → firstN (fun r => decide (¬ its r i 6 = x)) m (d + 1) r = thenN (fun r => decide (x < its r i 6)) m d r + 1
  | 0, r, h, hx => by
    unfold firstN
    rw [if_neg (by simp [hx])]
    rfl
  | d + 1, r, h, hx => by
    have hle := (leR.min h i hi).2
    rw [hx] at hle
    have e : firstN (fun r => decide (¬ its r i 6 = x)) m (d + 1 + 1) r = firstN (fun r => decide (¬ its r i 6 = x)) m (d + 1) (minR m r) + 1 := by
      conv => lhs; unfold firstN
      rw [if_neg (by simp [hx])]
    rw [e]
    by_cases hc : its (minR m r) i 6 = x
    · rw [then_eq hi d (minR m r) h.min hc]
      conv => rhs; unfold thenN
      rw [if_neg (by simp [hc])]
    · have hlt : x < its (minR m r) i 6 := by
        rcases Int32.lt_or_eq_of_le hle with q | q
        · exact q
        · exact absurd q.symm hc
      conv => lhs; unfold firstN
      conv => rhs; unfold thenN
      rw [if_pos (by simp [hc]), if_pos (by simp [hlt])]
theorem noF_eq {m : Nat} {f : Int32} : ∀ (d : Nat) (r : rR), invR r m → sumUp r 5 m ≤ f → noF m f d r = decide (sumUp (minsR m d r) 5 m ≤ f)
  | 0, r, h, hf => by unfold noF minsR; exact (decide_eq_true hf).symm
  | d + 1, r, h, hf => by
    unfold noF minsR
    by_cases hc : sumUp (minR m r) 5 m ≤ f
    · rw [if_pos hc]
      exact noF_eq d (minR m r) h.min hc
    · rw [if_neg hc]
      have hle := sum_le h.min (invR.mins d h.min) (leR.mins d h.min) (Or.inl rfl)
      exact (decide_eq_false (fun q => hc (Int32.le_trans hle q))).symm
theorem turn_its5 {P : rR} {s : Int32} {j : Nat} : ∀ i, its (turnUp P s i) j 5 = its P j 5
  | 0 => rfl
  | i + 1 => by unfold turnUp; rw [its_ne (by decide) (by decide) (by omega)]; exact turn_its5 i
theorem turn_sum {P : rR} {s : Int32} {i : Nat} : ∀ m, sumUp (turnUp P s i) 5 m = sumUp P 5 m
  | 0 => rfl
  | m + 1 => by unfold sumUp; rw [turn_sum m, turn_its5]
theorem turn_bit : ∀ q : Nat, q < 256 → ∀ i : Nat, i < 8 → ((nI q >>> (nI i &&& 31)) &&& 1 = 0 ∨ (nI q >>> (nI i &&& 31)) &&& 1 = 1) := by decide +kernel
theorem turn_inv {P : rR} {q m : Nat} (h : invR P m) (hq : q < 256) : ∀ i, i ≤ m → invR (turnUp P (nI q) i) m
  | 0, _ => h
  | i + 1, hi => by
    have h8 := h.1.2.1
    have ih := turn_inv h hq i (by omega)
    refine ih.up (by decide) ?_
    rcases ih.at (show i < m by omega) (show 4 < 7 by decide) with a | a <;> rcases turn_bit q hq i (by omega) with e | e <;> rw [a, e]
    · exact Or.inl (by decide)
    · exact Or.inr (by decide)
    · exact Or.inr (by decide)
    · exact Or.inl (by decide)
def fewH (m d : Nat) (P : rR) (q : Nat) : Bool := decide (sumUp (minsR m d (turnUp P (nI q) m)) 5 m ≤ sumUp P 5 m)
theorem few_GH {P : rR} {m d q : Nat} (h : invR P m) (hq : q < 256) : fewG m d P q = fewH m d P q := by
  unfold fewG fewH
  rw [turn_sum m]
  exact noF_eq d _ (turn_inv h hq m (Nat.le_refl m)) (by rw [turn_sum m]; exact Int32.le_refl _)
