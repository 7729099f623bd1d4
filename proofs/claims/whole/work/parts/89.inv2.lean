/-! the state that both sides speak of, and what it keeps -/
abbrev sT : Type := rR × Option rR × (Nat → Int32) × Nat × rSh × (Nat → Int32)
def kpO (o : Option rR) : Int32 := match o with
  | some _ => 1
  | none => 0
def mO (P : rR) : Nat := (P 2).toNatClampNeg
def invS (s : sT) : Prop := (∃ m, invR s.1 m) ∧ (∀ r, s.2.1 = some r → ∃ m, invR r m) ∧ bOK s.2.2.1 ∧ s.2.2.2.1 ≤ 120 ∧ shOK s.2.2.2.2.1
theorem mO_eq {P : rR} {m : Nat} (h : invR P m) : mO P = m := by
  unfold mO
  rw [h.1.1]
  exact nI_clamp (by have := h.1.2.1; omega)
theorem ok01 {v : Int32} (h : 0 ≤ v ∧ v ≤ 1) : v = 0 ∨ v = 1 := by
  obtain ⟨c, rfl, -, hc⟩ := range_nI (l := 0) (h := 1) h.1 h.2 (by decide) (by decide)
  rcases (show c = 0 ∨ c = 1 by omega) with rfl | rfl
  · exact Or.inl rfl
  · exact Or.inr rfl
theorem okV_0 {v : Int32} (h : 0 ≤ v ∧ v ≤ 5) : okV 0 v := by
  obtain ⟨c, rfl, -, hc⟩ := range_nI (l := 0) (h := 5) h.1 h.2 (by decide) (by decide)
  exact ⟨c, by omega, rfl⟩
theorem okV_1 {v : Int32} (h : 0 ≤ v ∧ v ≤ 99) : okV 1 v := by
  obtain ⟨c, rfl, -, hc⟩ := range_nI (l := 0) (h := 99) h.1 h.2 (by decide) (by decide)
  exact ⟨c, hc, rfl⟩
theorem okV_most {d : Nat} {v : Int32} (h1 : 1 ≤ d) (h6 : d ≤ 6) (h : 0 ≤ v ∧ v ≤ tMOST d) : okV d v := by
  rcases (show d = 1 ∨ d = 2 ∨ d = 3 ∨ d = 4 ∨ d = 5 ∨ d = 6 by omega) with rfl | rfl | rfl | rfl | rfl | rfl
  · exact okV_1 h
  · exact ok01 h
  · obtain ⟨c, rfl, -, hc⟩ := range_nI (l := 0) (h := 9) h.1 h.2 (by decide) (by decide)
    exact ⟨c, hc, rfl⟩
  · exact ok01 h
  · obtain ⟨c, rfl, -, hc⟩ := range_nI (l := 0) (h := 999) h.1 h.2 (by decide) (by decide)
    exact ⟨c, hc, rfl⟩
  · obtain ⟨c, rfl, -, hc⟩ := range_nI (l := 0) (h := 999) h.1 h.2 (by decide) (by decide)
    exact ⟨c, hc, rfl⟩
theorem inv_set {P : rR} {m : Nat} {x y v : Int32} (h : invR P m) (hs : setOK P x y v = true) : invR (upd P (3 + 7 * x.toNatClampNeg + y.toNatClampNeg) v) m := by
  simp only [setOK, Bool.and_eq_true, decide_eq_true_eq] at hs
  obtain ⟨⟨h1, h2⟩, h3⟩ := hs
  obtain ⟨d, rfl, hd1, hd6⟩ := range_nI (l := 1) (h := 6) h2.1 h2.2 (by decide) (by decide)
  have cd : (nI d).toNatClampNeg = d := nI_clamp (by omega)
  rw [cd] at h3 ⊢
  exact h.up (by omega) (okV_most hd1 hd6 h3)
theorem inv_turn {P : rR} {m i : Nat} {b : Bool} {y : Int32} (h : invR P m) (hs : (b && decide (0 ≤ y ∧ y ≤ 5)) = true) : invR (upd P (3 + 7 * i + 0) y) m := by
  simp only [Bool.and_eq_true, decide_eq_true_eq] at hs
  exact h.up (by decide) (okV_0 hs.2)
theorem lay_ok {v : Int64} (h : layOK v = true) : okV 3 v.toInt32 := by
  simp only [layOK, decide_eq_true_eq, lg_cmp_lt, lg_cmp_gt] at h
  obtain ⟨k, hk, rfl⟩ := pk_lOf h.1
  have h9 : ¬ lN 9 < lN k := h.2
  rw [pk_lLT (by decide) hk] at h9
  rw [lN_i]
  exact ⟨k, by omega, rfl⟩
theorem inv_lays {g : Nat → Int64} {m : Nat} : ∀ d q (r : rR), invR r m → invR (laysR g d q r) m
  | 0, q, r, h => h
  | d + 1, q, r, h => by
    unfold laysR
    split
    · rename_i hk
      exact inv_lays d (q + 1) _ (h.up (by decide) (lay_ok hk))
    · exact inv_lays d (q + 1) r h
theorem by_rng (x : Int32) : -128 ≤ (vp_nar .byte x).toInt ∧ (vp_nar .byte x).toInt ≤ 127 := by
  rw [vp_nar_byte, Int8.toInt_toInt32]
  have h1 := Int8.le_toInt x.toInt8
  have h2 := Int8.toInt_lt x.toInt8
  omega
theorem inv_feed {x : Int32} : ∀ k t (tp : Nat → Int32), bOK tp → bOK (feedT x k t tp)
  | 0, t, tp, h => h
  | k + 1, t, tp, h => by
    unfold feedT
    refine inv_feed k (t + 1) _ (fun j => ?_)
    unfold upd
    split
    · exact by_rng _
    · exact h j
theorem inv_up {sh : rSh} {s : Nat} {a : Int32} {g : Nat → Int64} (h : shOK sh) : shOK (updS sh s (a, (sh s).2.1, g)) := by
  intro q hq
  unfold updS
  split
  · rename_i e
    rw [← e]
    exact h q hq
  · exact h q hq
theorem inv_sheet {sh : rSh} {s : Nat} {y z : Int32} {g : Nat → Int64} (h : shOK sh) (h0 : ¬ z < 0) (h40 : z ≤ 40) : shOK (updS sh s (y, if y = 0 then 0 else z, g)) := by
  obtain ⟨c, hc, rfl⟩ := nI_of h0
  have hc40 : c ≤ 40 := (nI_leI (b := 40) hc (by decide)).mp h40
  intro q hq
  unfold updS
  split
  · by_cases hy : y = 0
    · exact ⟨0, by decide, by simp [hy]; rfl⟩
    · exact ⟨c, hc40, by simp [hy]⟩
  · exact h q hq
theorem inv_readL {tp : Nat → Int32} {t : Nat} (ht : t ≤ 120) : ∀ d it s (r : rR) m, s ≤ t → invR r m → ¬ (readL tp t d it s r).1 < 0 → ∃ m', invR (readL tp t d it s r).2 m' := by
  intro d
  induction d with
  | zero =>
    intro it s r m hs hv h
    simp only [readL] at h
    exact absurd (neg_m1 s (by omega)) h
  | succ d ih =>
    intro it s r m hs hv h
    have hm : (r 2).toNatClampNeg = m := by rw [hv.1.1]; exact nI_clamp (by have := hv.1.2.1; omega)
    obtain ⟨hi1, hi2⟩ := item_ok (tp := tp) hv hs
    unfold readL at h ⊢
    rw [hm] at h ⊢
    generalize item tp t m s r = z at h hi1 hi2 ⊢
    obtain ⟨ok, s1, r1⟩ := z
    simp only at h hi1 hi2 ⊢
    by_cases hok : ok = true
    · obtain ⟨-, m1, hv1⟩ := hi2 hok
      rw [if_pos hok] at h ⊢
      by_cases he : s1 = t
      · rw [if_pos he]
        exact ⟨m1, hv1⟩
      · rw [if_neg he] at h ⊢
        by_cases hk : takeB tp t s1 (tTX.getD 12 []) = true
        · rw [if_pos hk] at h ⊢
          exact ih (it + 1) _ _ m1 (nxt_le hi1).2 hv1 h
        · rw [if_neg hk] at h
          exact absurd (neg_m1 _ (by omega)) h
    · rw [if_neg hok] at h
      exact absurd (neg_m1 _ (by omega)) h
theorem inv_avenue {tp : Nat → Int32} {t : Nat} {P : rR} (ht : t ≤ 120) (hP : ∃ m, invR P m) : ∃ m, invR (if (avR tp t P).1 < 0 then P else (avR tp t P).2) m := by
  obtain ⟨m, h⟩ := hP
  by_cases hn : (avR tp t P).1 < 0
  · rw [if_pos hn]; exact ⟨m, h⟩
  · rw [if_neg hn]
    exact inv_readL ht 120 1 _ P m (tokS_le (Nat.zero_le t)).2 h hn
theorem inv_walker {P : rR} {m : Nat} {x y : Int32} (h : invR P m) (hc : (0 ≤ x ∧ x ≤ 5) ∧ (0 ≤ y ∧ y ≤ 99)) (h8 : ¬ m = 8) : invR (addR P m x y) (m + 1) := by
  have := h.1.2.1
  exact h.add (by omega) (okV_0 hc.1) (okV_1 hc.2)
