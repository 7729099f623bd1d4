/-! the machine at the law's start, as an abstract world -/
def fl : List Cond := flatC (Jvm.Cond.and given_1 narrow_1)
def smT (i : Nat) : Term := match rStrN[i]? with
  | some q => .string q.1 q.2.1
  | none => .string "" 0
def smV (i : Nat) : Term := .field (smT i) "java/lang/String" "value" "[B"
theorem f_sm : (List.range 13).all (fun i => decide (Cond.exactly (smT i) "java/lang/String" ∈ fl) && decide (Cond.eq (.field (smT i) "java/lang/String" "coder" "B") (.int 0) ∈ fl) && decide (Cond.arrayOf (smV i) .byte ∈ fl) && decide (Cond.eq (.length (smV i)) (.int (Int32.ofNat (tTX.getD i []).length)) ∈ fl) && (List.range (tTX.getD i []).length).all (fun j => decide (Cond.eq (.elem (smV i) (.int (Int32.ofNat j))) (.int ((tTX.getD i []).getD j 0)) ∈ fl))) = true := by decide +kernel
theorem f_in : (decide (Cond.eq (.static "java/lang/String" "COMPACT_STRINGS" "Z") (.int 1) ∈ fl) && decide (Cond.eq (.static "java/lang/StringUTF16" "$assertionsDisabled" "Z") (.int 1) ∈ fl) && decide (Cond.eq (.static "java/lang/StringUTF16" "HI_BYTE_SHIFT" "I") (.int 0) ∈ fl) && decide (Cond.eq (.static "java/lang/StringUTF16" "LO_BYTE_SHIFT" "I") (.int 8) ∈ fl) && decide (Cond.isRef (.static "jdk/internal/util/Preconditions" "SIOOBE_FORMATTER" "Ljava/util/function/BiFunction;") ∈ fl)) = true := by decide +kernel
theorem t_sta : rStaN.all (fun q => decide (Cond.laysStatic q.1 q.2.1 q.2.2 ∈ lw_tbl) && decide (Cond.initialized q.1 ∈ lw_tbl)) = true := by decide +kernel
theorem t_str : rStrN.all (fun q => decide (Cond.stringRef q.1 q.2.1 q.2.2 ∈ lw_tbl)) = true := by decide +kernel
theorem t_arr : (decide (Cond.arrayClass .int ∈ lw_tbl) && decide (Cond.arrayClass .byte ∈ lw_tbl) && decide (Cond.arrayClass .long ∈ lw_tbl) && decide (Cond.arrayOver (.object "BackAvenue$Sheet") ∈ lw_tbl)) = true := by decide +kernel
theorem t_nst : rNst.all (fun q => decide (Cond.methodLinkNest q.1 q.2.1 q.2.2.1 q.2.2.2 ∈ lw_tbl) && (Cond.methodLinkNest q.1 q.2.1 q.2.2.1 q.2.2.2).onTables) = true := by decide +kernel
theorem t_ins : vwCl.all (fun q => decide (Cond.instantiable q.1 q.2.2 ∈ lw_tbl)) = true := by decide +kernel
/-- an array of whole numbers, exact -/
def aC (s : State) (ty : FieldType) (tag q : Nat) (c : rE) : Prop := ∃ (n : Nat) (g : Nat → Int32) (cell : Cell), c = .inl (tag, n, g) ∧ s.heap[q]? = some cell ∧ s.isArrayOf cell ty ∧ cell.vm ≠ .unknown ∧ cell.slots.size = n ∧ n < 2 ^ 31 ∧ (∀ j : Nat, j < n → cell.slots[j]? = some (.int (g j))) ∧ (∀ j : Nat, n ≤ j → g j = 0)
def sC (s : State) (A : Nat → Prop) (q : Nat) (c : rE) : Prop := ∃ v : Nat, c = rO 100 [.ref v, .int 0] ∧ va_O "java/lang/String" q A s s.heap ∧ va_OF "java/lang/String" "value" "[B" (.ref v) q A s s.heap ∧ va_OF "java/lang/String" "coder" "B" (.int 0) q A s s.heap
def anyC (s : State) (A : Nat → Prop) (q : Nat) (c : rE) : Prop := aC s .int 2 q c ∨ aC s .byte 3 q c ∨ sC s A q c
theorem aC_one {s : State} {ty : FieldType} {tag q : Nat} {c c' : rE} (h : aC s ty tag q c) (h' : aC s ty tag q c') : c = c' := by
  obtain ⟨n, g, cell, rfl, h1, -, -, h2, -, h3, h4⟩ := h
  obtain ⟨n', g', cell', rfl, k1, -, -, k2, -, k3, k4⟩ := h'
  cases h1.symm.trans k1
  subst h2
  subst k2
  have : g = g' := by
    funext j
    rcases Nat.lt_or_ge j cell.slots.size with hj | hj
    · exact Value.int.inj (Option.some.inj ((h3 j hj).symm.trans (k3 j hj)))
    · rw [h4 j hj, k4 j hj]
  rw [this]
theorem aC_ty {s : State} {q : Nat} {c c' : rE} (h : aC s .int 2 q c) (h' : aC s .byte 3 q c') : False := by
  obtain ⟨n, g, cell, rfl, h1, ⟨-, k, hk, comp, hkind⟩, -⟩ := h
  obtain ⟨n', g', cell', rfl, k1, ⟨-, k', hk', comp', hkind'⟩, -⟩ := h'
  cases h1.symm.trans k1
  cases hk.symm.trans hk'
  rw [hkind] at hkind'
  cases hkind'
theorem aC_sC {s : State} {A : Nat → Prop} {ty : FieldType} {tag q : Nat} {c c' : rE} (h : aC s ty tag q c) (h' : sC s A q c') : False := by
  obtain ⟨n, g, cell, rfl, h1, -, -, h2, -, h3, -⟩ := h
  obtain ⟨v, rfl, -, ⟨cf, k, i, f, cell', -, -, k1, -, k2, -⟩, -⟩ := h'
  cases h1.symm.trans k1
  have hlt : f.slot < cell.slots.size := (Array.getElem?_eq_some_iff.mp k2).1
  have e := (h3 f.slot (by omega)).symm.trans k2
  cases e
theorem sC_one {s : State} {A : Nat → Prop} {q : Nat} {c c' : rE} (h : sC s A q c) (h' : sC s A q c') : c = c' := by
  obtain ⟨v, rfl, -, ⟨cf, k, i, f, cell, g0, -, g1, -, g2, -⟩, -⟩ := h
  obtain ⟨v', rfl, -, ⟨cf', k', i', f', cell', g0', -, g1', -, g2', -⟩, -⟩ := h'
  cases g0.symm.trans g0'
  cases g1.symm.trans g1'
  cases g2.symm.trans g2'
  rfl
theorem anyC_one {s : State} {A : Nat → Prop} {q : Nat} {c c' : rE} (h : anyC s A q c) (h' : anyC s A q c') : c = c' := by
  rcases h with h | h | h <;> rcases h' with h' | h' | h'
  · exact aC_one h h'
  · exact (aC_ty h h').elim
  · exact (aC_sC h h').elim
  · exact (aC_ty h' h).elim
  · exact aC_one h h'
  · exact (aC_sC h h').elim
  · exact (aC_sC h' h).elim
  · exact (aC_sC h' h).elim
  · exact sC_one h h'
theorem anyC_fn (s : State) (A : Nat → Prop) : ∃ h : Nat → Option rE, ∀ q c, h q = some c ↔ anyC s A q c := by
  have h0 : ∀ q : Nat, ∃ o : Option rE, ∀ c, o = some c ↔ anyC s A q c := by
    intro q
    by_cases hq : ∃ c, anyC s A q c
    · obtain ⟨c, hc⟩ := hq
      exact ⟨some c, fun c' => ⟨fun e => (by cases e; exact hc), fun h' => congrArg some (anyC_one hc h')⟩⟩
    · exact ⟨none, fun c => ⟨fun e => (by cases e), fun h' => absurd ⟨c, h'⟩ hq⟩⟩
  obtain ⟨h, hh⟩ := Classical.axiomOfChoice h0
  exact ⟨h, hh⟩
theorem len_lt {args : Array Value} {s : State} {tm : Term} {v : Value} {t : Nat} {cell : Cell} (h : (Term.length tm).eval args s none [] s = some v) (ht : tm.eval args s none [] s = some (.ref t)) (hc : s.heap[t]? = some cell) : cell.slots.size < 2 ^ 31 := by
  obtain ⟨b, cell', ht', harr, -⟩ := Term.length_spec h
  cases ht.symm.trans ht'
  obtain ⟨hcell, -, -, -⟩ := State.arrayAt?_spec harr
  cases hc.symm.trans hcell
  simp only [Term.eval, ht, harr, Option.bind_eq_bind, Option.bind_some] at h
  by_cases hlt : cell.slots.size < 2147483648
  · exact hlt
  · simp [hlt] at h
theorem row_of {args : Array Value} {s : State} {tm : Term} {ty : FieldType} {tag : Nat} {l : List Int32} (hN : l.length < 2 ^ 31) (harr : (Cond.arrayOf tm ty).before args s = true) (hlen : (Cond.eq (.length tm) (.int (Int32.ofNat l.length))).before args s = true) (hel : ∀ j : Nat, j < l.length → (Cond.eq (.elem tm (.int (Int32.ofNat j))) (.int (l.getD j 0))).before args s = true) : ∃ t : Nat, tm.eval args s none [] s = some (.ref t) ∧ aC s ty tag t (.inl (tag, l.length, fun j => l.getD j 0)) := by
  obtain ⟨t, ht, cell, h1, h2, h3, h4, h5, h6, -⟩ := va_Tof (A := fun _ => False) (f := fun j => .int (l.getD j 0)) hN harr (va_eqt hlen) (fun j hj => va_eqt (hel j hj)) (fun _ _ h => h)
  have hlt := len_lt (va_eqt hlen) ht h1
  have hsz : cell.slots.size = l.length := (nI_eq hlt hN).mp h5
  refine ⟨t, ht, l.length, _, cell, rfl, h1, h2, h3, hsz, hN, h6, fun j hj => ?_⟩
  simp [List.getD, hj]
section T95
variable {args : Array Value} {s : State}
theorem sm_ok (hs : ∀ c ∈ fl, c.before args s = true) {A : Nat → Prop} (hA : ∀ a : Nat, a < s.heap.size → ¬ A a) {i : Nat} (hi : i < 13) : ∃ a v : Nat, (smT i).eval args s none [] s = some (.ref a) ∧ sC s A a (rO 100 [.ref v, .int 0]) ∧ aC s .byte 3 v (.inl (3, (tTX.getD i []).length, fun j => (tTX.getD i []).getD j 0)) := by
  have h := List.all_eq_true.mp f_sm i (List.mem_range.mpr hi)
  simp only [Bool.and_eq_true, decide_eq_true_eq, List.all_eq_true, List.mem_range] at h
  obtain ⟨⟨⟨⟨h1, h2⟩, h3⟩, h4⟩, h5⟩ := h
  obtain ⟨v, hv, hrow⟩ := row_of (tag := 3) (l := tTX.getD i []) (by
    have : ∀ i : Nat, i < 13 → (tTX.getD i []).length < 2 ^ 31 := by decide
    exact this i hi) (hs _ h3) (hs _ h4) (fun j hj => hs _ (h5 j hj))
  obtain ⟨a, c, cA, kA, q1, q2, q3, q4, q5, q6, -⟩ := Cond.exactly_spec (args := args) (first := s) (o := none) (s := s) (idx := []) (t := smT i) (cls := "java/lang/String") (hs _ h1)
  exact ⟨a, v, q1, ⟨v, rfl, ⟨cA, q3, q5, by rw [q6]; exact q2, hA a (Array.getElem?_eq_some_iff.mp q3).1⟩, vk_OFof q1 hv hA, vk_OFof q1 (va_eqt (hs _ h2)) hA⟩, hrow⟩
theorem kn_ok (hts : ∀ w ∈ lw_tbl, w.before args s = true) : ∃ D : va_G, ∀ (c : Nat) (q : vw_C), vwCl[c]? = some q → u_Kn s q.1 q.2.1 q.2.2 (D.1 c) (D.2 c) := by
  have h0 : ∀ c : Nat, ∃ d : ClassId × (Nat → Nat), ∀ q : vw_C, vwCl[c]? = some q → u_Kn s q.1 q.2.1 q.2.2 d.1 d.2 := by
    intro c
    cases hq : vwCl[c]? with
    | none => exact ⟨(0, fun _ => 0), fun q h => by cases h⟩
    | some q =>
      have hm : q ∈ vwCl := List.mem_of_getElem? hq
      have hi := List.all_eq_true.mp t_ins q hm
      simp only [decide_eq_true_eq] at hi
      obtain ⟨cC, iS, hk⟩ := u_known (ws := lw_tbl) hts (fun w hw => (List.mem_filter.mp (k_ws hm w hw)).1) (hts _ hi)
      exact ⟨(cC, iS), fun q' h => by cases h; exact hk⟩
  obtain ⟨d, hd⟩ := Classical.axiomOfChoice h0
  exact ⟨(fun c => (d c).1, fun c => (d c).2), fun c q hq => hd c q hq⟩
theorem ac_ok {ty : FieldType} (h : (Cond.arrayClass ty).before args s = true) (hn : ∀ C, ty ≠ .object C) : ∃ cA : ClassId, ArrOfT s cA ty ∧ va_RA s cA ty := by
  obtain ⟨cA, kA, comp, h1, h2, h3⟩ := Cond.arrayClass_spec (args := args) (first := s) (o := none) (s := s) (idx := []) h
  refine ⟨cA, fun n z => ⟨fun k h => (by cases h), kA, h2, comp, h3⟩, ?_⟩
  cases ty <;> first | exact h1 | exact absurd rfl (hn _)
theorem ao_ok (h : (Cond.arrayOver (.object "BackAvenue$Sheet")).before args s = true) : ∃ cA : ClassId, ArrOfT s cA (.object "BackAvenue$Sheet") ∧ va_RA s cA (.object "BackAvenue$Sheet") := by
  obtain ⟨comp, cA, kA, h1, -, h2, h3, h4⟩ := Cond.arrayOver_spec (args := args) (first := s) (o := none) (s := s) (idx := []) h
  exact ⟨cA, fun n z => ⟨fun k h => (by cases h), kA, h2, comp, h3⟩, kA, comp, h2, h3, h1, h4⟩
end T95
