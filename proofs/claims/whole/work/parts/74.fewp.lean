/-! fewest: by size and then by number, or the best so far: the same -/
def fewM (g : Nat → Bool) : Nat → Option Nat
  | 0 => none
  | q + 1 => match fewM g q with
    | none => if g q = true then some q else none
    | some z => if popc q < popc z then (if g q = true then some q else some z) else some z
def isMin (g : Nat → Bool) (N : Nat) (o : Option Nat) : Prop := (o = none ∧ ∀ q, q < N → g q = false) ∨ (∃ z, o = some z ∧ z < N ∧ g z = true ∧ ∀ q, q < N → g q = true → (popc z < popc q ∨ (popc z = popc q ∧ z ≤ q)))
theorem isMin_one {g : Nat → Bool} {N : Nat} {o o' : Option Nat} (h : isMin g N o) (h' : isMin g N o') : o = o' := by
  rcases h with ⟨h1, h2⟩ | ⟨z, h1, h2, h3, h4⟩ <;> rcases h' with ⟨k1, k2⟩ | ⟨y, k1, k2, k3, k4⟩
  · rw [h1, k1]
  · rw [h2 y k2] at k3; cases k3
  · rw [k2 z h2] at h3; cases h3
  · have a := h4 y k2 k3
    have b := k4 z h2 h3
    rw [h1, k1]
    exact congrArg some (by omega)
theorem fewM_min (g : Nat → Bool) : ∀ N, isMin g N (fewM g N)
  | 0 => Or.inl ⟨rfl, fun q hq => by omega⟩
  | N + 1 => by
    unfold fewM
    rcases fewM_min g N with ⟨h1, h2⟩ | ⟨z, h1, h2, h3, h4⟩
    · rw [h1]
      simp only
      by_cases hg : g N = true
      · rw [if_pos hg]
        refine Or.inr ⟨N, rfl, by omega, hg, fun q hq hgq => ?_⟩
        by_cases hqN : q = N
        · subst hqN; exact Or.inr ⟨rfl, Nat.le_refl _⟩
        · rw [h2 q (by omega)] at hgq; cases hgq
      · rw [if_neg hg]
        refine Or.inl ⟨rfl, fun q hq => ?_⟩
        by_cases hqN : q = N
        · subst hqN; simpa using hg
        · exact h2 q (by omega)
    · rw [h1]
      simp only
      by_cases hp : popc N < popc z
      · rw [if_pos hp]
        by_cases hg : g N = true
        · rw [if_pos hg]
          refine Or.inr ⟨N, rfl, by omega, hg, fun q hq hgq => ?_⟩
          by_cases hqN : q = N
          · subst hqN; exact Or.inr ⟨rfl, Nat.le_refl _⟩
          · have := h4 q (by omega) hgq
            exact Or.inl (by omega)
        · rw [if_neg hg]
          refine Or.inr ⟨z, rfl, by omega, h3, fun q hq hgq => ?_⟩
          by_cases hqN : q = N
          · subst hqN; exact absurd hgq hg
          · exact h4 q (by omega) hgq
      · rw [if_neg hp]
        refine Or.inr ⟨z, rfl, by omega, h3, fun q hq hgq => ?_⟩
        by_cases hqN : q = N
        · subst hqN
          by_cases he : popc z = popc q
          · exact Or.inr ⟨he, by omega⟩
          · exact Or.inl (by omega)
        · exact h4 q (by omega) hgq
theorem findS_spec (c : Nat → Bool) : ∀ d q, (findS c d q = none ∧ ∀ y, q ≤ y → y < q + d → c y = false) ∨ (∃ z, findS c d q = some z ∧ q ≤ z ∧ z < q + d ∧ c z = true ∧ ∀ y, q ≤ y → y < z → c y = false)
  | 0, q => Or.inl ⟨rfl, fun y h1 h2 => by omega⟩
  | d + 1, q => by
    unfold findS
    by_cases h : c q = true
    · rw [if_pos h]
      exact Or.inr ⟨q, rfl, Nat.le_refl _, by omega, h, fun y h1 h2 => by omega⟩
    · rw [if_neg h]
      have hf : c q = false := by simpa using h
      rcases findS_spec c d (q + 1) with ⟨h1, h2⟩ | ⟨z, h1, h2, h3, h4, h5⟩
      · refine Or.inl ⟨h1, fun y a b => ?_⟩
        by_cases hy : y = q
        · rw [hy]; exact hf
        · exact h2 y (by omega) (by omega)
      · refine Or.inr ⟨z, h1, by omega, by omega, h4, fun y a b => ?_⟩
        by_cases hy : y = q
        · rw [hy]; exact hf
        · exact h5 y (by omega) b
theorem fewS_min (g : Nat → Bool) (N : Nat) : ∀ d k, (∀ q, q < N → g q = true → k ≤ popc q) → (∀ q, q < N → popc q < k + d) → isMin g N (fewS g N d k)
  | 0, k, h1, h2 => Or.inl ⟨rfl, fun q hq => by
      cases hg : g q with
      | false => rfl
      | true =>
        have a := h1 q hq hg
        have b := h2 q hq
        omega⟩
  | d + 1, k, h1, h2 => by
    unfold fewS
    rcases findS_spec (fun q => decide (popc q = k) && g q) N 0 with ⟨a1, a2⟩ | ⟨z, a1, a2, a3, a4, a5⟩
    · rw [a1]
      refine fewS_min g N d (k + 1) (fun q hq hg => ?_) (fun q hq => by have := h2 q hq; omega)
      have b1 := h1 q hq hg
      have b2 := a2 q (by omega) (by omega)
      simp only [hg, Bool.and_true, decide_eq_false_iff_not] at b2
      omega
    · rw [a1]
      simp only [Bool.and_eq_true, decide_eq_true_eq] at a4
      refine Or.inr ⟨z, rfl, by omega, a4.2, fun q hq hg => ?_⟩
      have b1 := h1 q hq hg
      by_cases he : popc q = k
      · refine Or.inr ⟨by omega, ?_⟩
        rcases Nat.lt_or_ge q z with c1 | c1
        · have := a5 q (by omega) c1
          simp [he, hg] at this
        · exact c1
      · exact Or.inl (by omega)
theorem popc_pow : ∀ m : Nat, m < 9 → ∀ q : Nat, q < 2 ^ m → popc q < 0 + (m + 1) := by decide +kernel
theorem few_same {g : Nat → Bool} {m : Nat} (h8 : m ≤ 8) : fewS g (2 ^ m) (m + 1) 0 = fewM g (2 ^ m) :=
  isMin_one (fewS_min g (2 ^ m) (m + 1) 0 (fun _ _ _ => Nat.zero_le _) (popc_pow m (by omega))) (fewM_min g (2 ^ m))
theorem fewM_c {g h : Nat → Bool} : ∀ N, (∀ q, q < N → g q = h q) → fewM g N = fewM h N
  | 0, _ => rfl
  | N + 1, e => by
    unfold fewM
    rw [fewM_c N (fun q hq => e q (by omega)), e N (by omega)]
theorem fewM_lt {g : Nat → Bool} {N z : Nat} (h : fewM g N = some z) : z < N := by
  rcases fewM_min g N with ⟨h1, -⟩ | ⟨y, h1, h2, -⟩
  · rw [h] at h1; cases h1
  · rw [h] at h1; cases h1; exact h2
theorem kern : ∀ l : Nat, l < 256 → 0 < l → nI l &&& (nI l - 1) = nI (l &&& (l - 1)) ∧ (l &&& (l - 1)) < l ∧ popc l = popc (l &&& (l - 1)) + 1 := by decide +kernel
