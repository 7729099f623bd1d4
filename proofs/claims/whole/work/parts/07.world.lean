/-! the world of the machine that an abstract world speaks of -/
def tb : List Cond := lw_tbl.filter goodWord
def rB (w : Cond) : Bool := decide (w ∈ lw_tbl) && goodWord w
theorem rB_in {w : Cond} (h : rB w = true) : w ∈ tb := by
  simp only [rB, Bool.and_eq_true, decide_eq_true_eq] at h
  exact List.mem_filter.mpr h
theorem tb_good {w : Cond} (h : w ∈ tb) : (w.onTables && w.keeps) = true ∨ ∃ ty, w = .arrayClass ty := good_of_word (List.mem_filter.mp h).2
theorem tb_goodIn {ws : List Cond} (h : ∀ w ∈ ws, w ∈ tb) : GoodIn tb ws := fun w hw => ⟨h w hw, tb_good (h w hw)⟩
theorem lk_mem {α β : Type} [BEq α] [LawfulBEq α] {k : α} {v : β} : ∀ {l : List (α × β)}, l.lookup k = some v → (k, v) ∈ l
  | [], h => by simp at h
  | (a, b) :: t, h => by
    rw [List.lookup_cons] at h
    by_cases e : k = a
    · subst e
      simp at h
      subst h
      exact List.mem_cons_self
    · have e2 : (k == a) = false := by simpa using e
      rw [e2] at h
      exact List.mem_cons_of_mem _ (lk_mem h)
def rOn (oc : Nat) : String := rOwn.getD oc ""
abbrev rG : Type := Nat × va_G × (Nat → ClassId) × ((Nat → Value) × (Nat → Nat))
def rA (Γ : rG) : Nat → Prop := fun q => Γ.1 ≤ q
def rTys (cy : Nat → ClassId) : List (ClassId × FieldType) := [(cy 0, .int), (cy 1, .byte), (cy 2, .long), (cy 3, .object "BackAvenue$Sheet")]
def rStrF : List (String × String) := [("value", "[B"), ("coder", "B")]
def rNst : List (String × Nat × MethodName × String) := [(RX5, 9, yX0_init, RX5), (RX5, 28, yX3_init, RX5), (RX5, 35, yX2_init, RX5)]
def rSt (Γ : rG) (U : State) (H : Heap) : Prop :=
  va_K Γ.2.1 vwCl (rTys Γ.2.2.1) U ∧ (∀ (k : Nat) (q : String × String × String), rStaN[k]? = some q → va_Z q.1 q.2.1 q.2.2 (Γ.2.2.2.1 k) (rA Γ) U H) ∧ (∀ (k : Nat) (q : String × Nat × String), rStrN[k]? = some q → vk_R q.1 q.2.1 q.2.2 (Γ.2.2.2.2 k) U) ∧ va_AO "BackAvenue$Sheet" U ∧ (∀ q ∈ rNst, va_Nw (.methodLinkNest q.1 q.2.1 q.2.2.1 q.2.2.2) U)
theorem rSt.moved {Γ : rG} {s U : State} {H H1 : Heap} (h : rSt Γ s H) (hq : ∀ a : Nat, a < H.size → ¬ rA Γ a → H1[a]? = H[a]?) (hW : s.WarmedH U.vm) : rSt Γ U H1 :=
  ⟨va_K.moved hW.alike h.1, fun k q hk => ((h.2.1 k q hk).kept hq).moved hW.alike, fun k q hk => (h.2.2.1 k q hk).warm hW, va_AO.moved hW.alike h.2.2.2.1, fun q hk => va_Nw.warmM hW (h.2.2.2.2 q hk)⟩
/-- a cell of the heap, as an abstract cell has it -/
def rAt (Γ : rG) (U : State) (H : Heap) (a : Nat) : rE → Prop
  | .inl (t, n, g) => match t with
    | 0 => Γ.1 ≤ a ∧ va_at Γ.2.1 vwCl (a, .inl (Γ.2.2.1 0, n, .inl g)) H
    | 1 => Γ.1 ≤ a ∧ va_at Γ.2.1 vwCl (a, .inl (Γ.2.2.1 1, n, .inl g)) H
    | 2 => va_T .int a n (fun j => .int (g j)) (rA Γ) U H
    | _ => va_T .byte a n (fun j => .int (g j)) (rA Γ) U H
  | .inr (.inl (n, g)) => Γ.1 ≤ a ∧ va_at Γ.2.1 vwCl (a, .inl (Γ.2.2.1 2, n, .inr (.inl g))) H
  | .inr (.inr (.inl (n, g))) => Γ.1 ≤ a ∧ va_at Γ.2.1 vwCl (a, .inl (Γ.2.2.1 3, n, .inr (.inr (.inr (.inr g))))) H
  | .inr (.inr (.inr (ci, fs))) => if ci < 6 then Γ.1 ≤ a ∧ va_at Γ.2.1 vwCl (a, .inr (ci, fs)) H else ci = 100 ∧ va_O "java/lang/String" a (rA Γ) U H ∧ ∀ (k : Nat) (v : Value) (q : String × String), fs[k]? = some v → rStrF[k]? = some q → va_OF "java/lang/String" q.1 q.2 v a (rA Γ) U H
theorem rAt.moved {Γ : rG} {u U : State} {H : Heap} {a : Nat} {c : rE} (h : rAt Γ u H a c) (hv : u.vm.Alike U.vm) : rAt Γ U H a c := by
  match c, h with
  | .inl (0, n, g), h => exact h
  | .inl (1, n, g), h => exact h
  | .inl (2, n, g), h => exact va_T.moved hv h
  | .inl (t + 3, n, g), h => exact va_T.moved hv h
  | .inr (.inl (n, g)), h => exact h
  | .inr (.inr (.inl (n, g))), h => exact h
  | .inr (.inr (.inr (ci, fs))), h =>
    unfold rAt at h ⊢
    dsimp only at h ⊢
    split at h
    · rename_i hc
      rw [if_pos hc]
      exact h
    · rename_i hc
      rw [if_neg hc]
      exact ⟨h.1, va_O.moved hv h.2.1, fun k v q h1 h2 => va_OF.moved hv (h.2.2 k v q h1 h2)⟩
theorem rAt.kept {Γ : rG} {U : State} {H H1 : Heap} {a : Nat} {c : rE} (h : rAt Γ U H a c) (h0 : H1[a]? = H[a]?) (hq : ∀ q : Nat, q < H.size → ¬ rA Γ q → H1[q]? = H[q]?) : rAt Γ U H1 a c := by
  match c, h with
  | .inl (0, n, g), h => exact ⟨h.1, h.2.kept h0⟩
  | .inl (1, n, g), h => exact ⟨h.1, h.2.kept h0⟩
  | .inl (2, n, g), h => exact va_T.kept h hq
  | .inl (t + 3, n, g), h => exact va_T.kept h hq
  | .inr (.inl (n, g)), h => exact ⟨h.1, h.2.kept h0⟩
  | .inr (.inr (.inl (n, g))), h => exact ⟨h.1, h.2.kept h0⟩
  | .inr (.inr (.inr (ci, fs))), h =>
    unfold rAt at h ⊢
    dsimp only at h ⊢
    split at h
    · rename_i hc
      rw [if_pos hc]
      exact ⟨h.1, h.2.kept h0⟩
    · rename_i hc
      rw [if_neg hc]
      exact ⟨h.1, va_O.kept h.2.1 hq, fun k v q h1 h2 => va_OF.kept (h.2.2 k v q h1 h2) hq⟩
theorem rAt.lt {Γ : rG} {U : State} {H : Heap} {a : Nat} {c : rE} (h : rAt Γ U H a c) : a < H.size := by
  match c, h with
  | .inl (0, n, g), h => exact h.2.lt
  | .inl (1, n, g), h => exact h.2.lt
  | .inl (2, n, g), h => obtain ⟨cell, h1, -⟩ := h; exact (Array.getElem?_eq_some_iff.mp h1).1
  | .inl (t + 3, n, g), h => obtain ⟨cell, h1, -⟩ := h; exact (Array.getElem?_eq_some_iff.mp h1).1
  | .inr (.inl (n, g)), h => exact h.2.lt
  | .inr (.inr (.inl (n, g))), h => exact h.2.lt
  | .inr (.inr (.inr (ci, fs))), h =>
    unfold rAt at h
    dsimp only at h
    split at h
    · exact h.2.lt
    · obtain ⟨-, ⟨cell, h1, -⟩, -⟩ := h; exact (Array.getElem?_eq_some_iff.mp h1).1
def rWd (Γ : rG) (w : rW) (U : State) (H : Heap) : Prop := H.size = w.2.1 ∧ Γ.1 ≤ w.2.1 ∧ ∀ (a : Nat) (c : rE), w.1 a = some c → rAt Γ U H a c
theorem rWd.moved {Γ : rG} {w : rW} {u U : State} {H : Heap} (h : rWd Γ w u H) (hv : u.vm.Alike U.vm) : rWd Γ w U H := ⟨h.1, h.2.1, fun a c hc => (h.2.2 a c hc).moved hv⟩
theorem rWd.upd {Γ : rG} {w : rW} {U : State} {H H1 : Heap} {a : Nat} {c : rE} (h : rWd Γ w U H) (z : H1.size = H.size) (oq : ∀ q : Nat, q ≠ a → H1[q]? = H[q]?) (hb : Γ.1 ≤ a) (hc : rAt Γ U H1 a c) : rWd Γ (rU w a c) U H1 := by
  refine ⟨z.trans h.1, h.2.1, fun q d hd => ?_⟩
  by_cases hq : q = a
  · subst hq
    simp only [rU, if_true] at hd
    cases hd
    exact hc
  · simp only [rU, if_neg hq] at hd
    exact (h.2.2 q d hd).kept (oq q hq) (fun x _ hx => oq x (fun e => hx (by rw [e]; exact hb)))
theorem rWd.new {Γ : rG} {w : rW} {U : State} {H H1 : Heap} {c : rE} {k : Nat} (h : rWd Γ w U H) (z : H1.size = H.size + 1) (oq : ∀ q : Nat, q < H.size → H1[q]? = H[q]?) (hc : rAt Γ U H1 H.size c) : rWd Γ (rNew w c k) U H1 := by
  have h1 := h.1
  refine ⟨by show H1.size = w.2.1 + 1; omega, Nat.le_succ_of_le h.2.1, fun q d hd => ?_⟩
  by_cases hq : q = w.2.1
  · subst hq
    simp only [rNew, if_true] at hd
    cases hd
    rw [← h1]
    exact hc
  · simp only [rNew, if_neg hq] at hd
    have hl := h.2.2 q d hd
    exact hl.kept (oq q hl.lt) (fun x hx _ => oq x hx)
theorem va_P1 {D : va_G} {cl : List vw_C} {q : Nat × va_E} {H : Heap} (h : va_at D cl q H) : va_P D cl [q] H := by
  intro k x hx
  match k, hx with
  | 0, hx => cases hx; exact h
  | k + 1, hx => simp at hx
theorem va_S.new {A : Nat → Prop} {H0 H H1 : Heap} {locs : List Loc} (h : va_S A H0 H locs) (z : H1.size = H.size + 1) (oq : ∀ q : Nat, q < H.size → H1[q]? = H[q]?) : va_S A H0 H1 locs :=
  ⟨by have := h.1; omega, fun q h1 h2 => (oq q (Nat.lt_of_lt_of_le h1 h.1)).trans (h.2.1 q h1 h2), h.2.2⟩
/-- locals -/
def rLv (ls : Array Slot) (nL : Nat) (lo : List (Option Value)) : Prop := ls.size = nL ∧ lv_wf ls ∧ lo.length = nL ∧ ∀ (i : Nat) (v : Value), lo[i]? = some (some v) → ls[i]? = some (.val v)
def rPr (lo : List (Option Value)) : List (Nat × Value) := (List.range lo.length).filterMap (fun i => match lo[i]? with
  | some (some v) => some (i, v)
  | _ => none)
theorem rPr_mem {lo : List (Option Value)} {i : Nat} {v : Value} : (i, v) ∈ rPr lo ↔ lo[i]? = some (some v) := by
  unfold rPr
  rw [List.mem_filterMap]
  constructor
  · rintro ⟨j, -, hj⟩
    split at hj
    · rename_i u hu
      cases hj
      exact hu
    · cases hj
  · intro h
    have hl : i < lo.length := (List.getElem?_eq_some_iff.mp h).1
    exact ⟨i, List.mem_range.mpr hl, by rw [h]⟩
theorem rLv.has {ls : Array Slot} {nL : Nat} {lo : List (Option Value)} (h : rLv ls nL lo) : lv_has ls nL (rPr lo) := ⟨h.1, h.2.1, fun q hq => h.2.2.2 q.1 q.2 (rPr_mem.mp hq)⟩
theorem rNL_no {lo : List (Option Value)} {i j : Nat} {v : Value} (h : rNL lo i = true) (hj : j + 1 = i) (hv : lo[j]? = some (some v)) : ¬ v.category = 2 := by
  subst hj
  simp only [rNL, hv] at h
  simpa using h
theorem rLv.set1 {ls' : Array Slot} {nL : Nat} {lo : List (Option Value)} {i : Nat} {x : Value} (hl : lo.length = nL) (hN : rNL lo i = true) (h : lv_has ls' nL ((i, x) :: (rPr lo).filter (fun q => !(q.1 == i) && !(q.1 + 1 == i && q.2.category == 2)))) : rLv ls' nL (lo.set i (some x)) := by
  refine ⟨h.1, h.2.1, by rw [List.length_set]; exact hl, fun j v hj => ?_⟩
  by_cases e : j = i
  · subst e
    have hjl : j < lo.length := by
      have := (List.getElem?_eq_some_iff.mp hj).1
      rwa [List.length_set] at this
    rw [List.getElem?_set_self hjl] at hj
    cases hj
    exact h.2.2 (j, x) List.mem_cons_self
  · rw [List.getElem?_set_ne (fun q => e q.symm)] at hj
    refine h.2.2 (j, v) (List.mem_cons_of_mem _ (List.mem_filter.mpr ⟨rPr_mem.mpr hj, ?_⟩))
    have h1 : (j == i) = false := by simpa using e
    have h2 : (j + 1 == i && v.category == 2) = false := by
      cases hz : (j + 1 == i) with
      | false => rfl
      | true =>
        have := rNL_no hN (by simpa using hz) hj
        simpa using this
    simp only [h1, h2]
    rfl
theorem rLv.set2 {ls' : Array Slot} {nL : Nat} {lo : List (Option Value)} {i : Nat} {x : Value} (hl : lo.length = nL) (hN : rNL lo i = true) (h : lv_has ls' nL ((i, x) :: (rPr lo).filter (fun q => !(q.1 == i) && (!(q.1 == i + 1) && !(q.1 + 1 == i && q.2.category == 2))))) : rLv ls' nL ((lo.set i (some x)).set (i + 1) none) := by
  refine ⟨h.1, h.2.1, by rw [List.length_set, List.length_set]; exact hl, fun j v hj => ?_⟩
  by_cases e1 : j = i + 1
  · subst e1
    have hjl : i + 1 < (lo.set i (some x)).length := by
      have := (List.getElem?_eq_some_iff.mp hj).1
      rwa [List.length_set] at this
    rw [List.getElem?_set_self hjl] at hj
    cases hj
  · rw [List.getElem?_set_ne (fun q => e1 q.symm)] at hj
    by_cases e : j = i
    · subst e
      have hjl : j < lo.length := by
        have := (List.getElem?_eq_some_iff.mp hj).1
        rwa [List.length_set] at this
      rw [List.getElem?_set_self hjl] at hj
      cases hj
      exact h.2.2 (j, x) List.mem_cons_self
    · rw [List.getElem?_set_ne (fun q => e q.symm)] at hj
      refine h.2.2 (j, v) (List.mem_cons_of_mem _ (List.mem_filter.mpr ⟨rPr_mem.mpr hj, ?_⟩))
      have h1 : (j == i) = false := by simpa using e
      have h3 : (j == i + 1) = false := by simpa using e1
      have h2 : (j + 1 == i && v.category == 2) = false := by
        cases hz : (j + 1 == i) with
        | false => rfl
        | true =>
          have := rNL_no hN (by simpa using hz) hj
          simpa using this
      simp only [h1, h2, h3]
      rfl
