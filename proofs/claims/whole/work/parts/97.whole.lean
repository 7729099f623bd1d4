theorem anyC_at {Γ : rG} {s : State} {q : Nat} {c : rE} (hN : Γ.1 = s.heap.size) (h : anyC s (rA Γ) q c) : rAt Γ s s.heap q c := by
  rcases h with h | h | h
  · obtain ⟨n, g, cell, rfl, h1, h2, h3, h4, h5, h6, -⟩ := h
    have hq : q < s.heap.size := (Array.getElem?_eq_some_iff.mp h1).1
    show va_T .int q n (fun j => .int (g j)) (rA Γ) s s.heap
    exact ⟨cell, h1, h2, h3, Nat.le_of_eq h4.symm, (by rw [h4]), h6, fun ha => by have : Γ.1 ≤ q := ha; omega⟩
  · obtain ⟨n, g, cell, rfl, h1, h2, h3, h4, h5, h6, -⟩ := h
    have hq : q < s.heap.size := (Array.getElem?_eq_some_iff.mp h1).1
    show va_T .byte q n (fun j => .int (g j)) (rA Γ) s s.heap
    exact ⟨cell, h1, h2, h3, Nat.le_of_eq h4.symm, (by rw [h4]), h6, fun ha => by have : Γ.1 ≤ q := ha; omega⟩
  · obtain ⟨v, rfl, h1, h2, h3⟩ := h
    show (if 100 < 6 then Γ.1 ≤ q ∧ va_at Γ.2.1 vwCl (q, .inr (100, [.ref v, .int 0])) s.heap else 100 = 100 ∧ va_O "java/lang/String" q (rA Γ) s s.heap ∧ ∀ (k : Nat) (u : Value) (z : String × String), [Value.ref v, Value.int 0][k]? = some u → rStrF[k]? = some z → va_OF "java/lang/String" z.1 z.2 u q (rA Γ) s s.heap)
    rw [if_neg (by decide)]
    refine ⟨rfl, h1, fun k u z hk hz => ?_⟩
    match k, hk, hz with
    | 0, hk, hz => cases hk; cases hz; exact h2
    | 1, hk, hz => cases hk; cases hz; exact h3
    | k + 2, hk, _ => cases hk
theorem whole_start {p : Program} {e : Env} {s : State} {m : MethodId} {below : List Frame} {meth : Method} {c : Code} (l : Launch) {b L : Nat} {xs : Nat → Int32} (hL : L ≤ 3072) (C0 : lw_At p s m meth c b L xs) : W p l e room_1 s m #[Value.ref b] below meth c s.heap [] 0 0 (lw_Z below #[Value.ref b] s) (entryFrame m ([Value.ref b] : List Value).toArray 4) := by
  obtain ⟨hx, hb, hr, hml, hown, hts, hX, hbl, hlk, hgv⟩ := C0
  have hs : ∀ c ∈ fl, c.before #[Value.ref b] s = true := flat_of_before _ hgv
  have hA : ∀ a : Nat, a < s.heap.size → ¬ ((fun q => s.heap.size ≤ q) a) := fun a h h2 => by have : s.heap.size ≤ a := h2; omega
  have hsm0 : ∀ i : Nat, ∃ av : Nat × Nat, i < 13 → ((smT i).eval #[Value.ref b] s none [] s = some (.ref av.1) ∧ sC s (fun q => s.heap.size ≤ q) av.1 (rO 100 [.ref av.2, .int 0]) ∧ aC s .byte 3 av.2 (.inl (3, (tTX.getD i []).length, fun j => (tTX.getD i []).getD j 0))) := by
    intro i
    by_cases hi : i < 13
    · obtain ⟨a, v, h1, h2, h3⟩ := sm_ok hs hA hi
      exact ⟨(a, v), fun _ => ⟨h1, h2, h3⟩⟩
    · exact ⟨(0, 0), fun h => absurd h hi⟩
  obtain ⟨ad, had⟩ := Classical.axiomOfChoice hsm0
  obtain ⟨D, hD⟩ := kn_ok hts
  have tar := t_arr
  simp only [Bool.and_eq_true, decide_eq_true_eq] at tar
  obtain ⟨⟨⟨ta0, ta1⟩, ta2⟩, ta3⟩ := tar
  obtain ⟨c0, ca0, cb0⟩ := ac_ok (hts _ ta0) (fun C h => by cases h)
  obtain ⟨c1, ca1, cb1⟩ := ac_ok (hts _ ta1) (fun C h => by cases h)
  obtain ⟨c2, ca2, cb2⟩ := ac_ok (hts _ ta2) (fun C h => by cases h)
  obtain ⟨c3, ca3, cb3⟩ := ao_ok (hts _ ta3)
  have hsta : ∀ q ∈ rStaN, (Cond.laysStatic q.1 q.2.1 q.2.2).before #[Value.ref b] s = true ∧ (Cond.initialized q.1).before #[Value.ref b] s = true := by
    intro q hq
    have h := List.all_eq_true.mp t_sta q hq
    simp only [Bool.and_eq_true, decide_eq_true_eq] at h
    exact ⟨hts _ h.1, hts _ h.2⟩
  have fin := f_in
  simp only [Bool.and_eq_true, decide_eq_true_eq] at fin
  obtain ⟨⟨⟨⟨fi3, fi5⟩, fi6⟩, fi7⟩, fi4⟩ := fin
  have hs4 := hsta _ (List.mem_of_getElem? (i := 1) rfl : ("jdk/internal/util/Preconditions", "SIOOBE_FORMATTER", "Ljava/util/function/BiFunction;") ∈ rStaN)
  have hz4 := va_Zqof hs4.1 hs4.2 (hs _ fi4) hA
  obtain ⟨v4, hv4, hw4⟩ : ∃ v4 : Value, va_Z "jdk/internal/util/Preconditions" "SIOOBE_FORMATTER" "Ljava/util/function/BiFunction;" v4 (fun q => s.heap.size ≤ q) s s.heap ∧ (v4 = .null ∨ ∃ t, v4 = .ref t) := by
    rcases hz4 with h | ⟨t, h⟩
    · exact ⟨_, h, Or.inl rfl⟩
    · exact ⟨_, h, Or.inr ⟨t, rfl⟩⟩
  let θ : (Nat → Value) × (Nat → Nat) := (fun k => match k with
    | 0 => .int 1
    | 1 => v4
    | 2 => .int 1
    | 3 => .int 0
    | _ => .int 8, fun i => (ad i).1)
  let cy : Nat → ClassId := fun k => match k with
    | 0 => c0
    | 1 => c1
    | 2 => c2
    | _ => c3
  let Γ : rG := (s.heap.size, D, cy, θ)
  have hst : rSt Γ s s.heap := by
    refine ⟨⟨hD, fun k q hk => ?_⟩, fun k q hk => ?_, fun k q hk => ?_, va_AO.of (hts _ ta3), fun q hq => ?_⟩
    · rcases k with _ | _ | _ | _ | k
      · cases hk; exact ⟨ca0, cb0⟩
      · cases hk; exact ⟨ca1, cb1⟩
      · cases hk; exact ⟨ca2, cb2⟩
      · cases hk; exact ⟨ca3, cb3⟩
      · cases hk
    · have hq := hsta q (List.mem_of_getElem? hk)
      rcases k with _ | _ | _ | _ | _ | k
      · cases hk; exact va_Zof hq.1 hq.2 (va_eqt (hs _ fi3)) hA
      · cases hk; exact hv4
      · cases hk; exact va_Zof hq.1 hq.2 (va_eqt (hs _ fi5)) hA
      · cases hk; exact va_Zof hq.1 hq.2 (va_eqt (hs _ fi6)) hA
      · cases hk; exact va_Zof hq.1 hq.2 (va_eqt (hs _ fi7)) hA
      · cases hk
    · have hm := List.all_eq_true.mp t_str q (List.mem_of_getElem? hk)
      simp only [decide_eq_true_eq] at hm
      have hk13 : k < 13 := (List.getElem?_eq_some_iff.mp hk).1
      have he := (had k hk13).1
      unfold smT at he
      rw [hk] at he
      exact vk_R.of (hts _ hm) he
    · have h := List.all_eq_true.mp t_nst q hq
      simp only [Bool.and_eq_true, decide_eq_true_eq] at h
      exact va_Nw.of h.2 (hts _ h.1)
  obtain ⟨h, hh⟩ := anyC_fn s (rA Γ)
  have hw0 : rWd Γ (pW h s.heap.size [] 0) s s.heap := by
    refine ⟨rfl, Nat.le_refl _, fun a c hc => ?_⟩
    have hc : (if a < s.heap.size then h a else ([] : List rE)[a - s.heap.size]?) = some c := hc
    by_cases ha : a < s.heap.size
    · rw [if_pos ha] at hc
      exact anyC_at rfl ((hh a c).mp hc)
    · rw [if_neg ha] at hc
      cases hc
  obtain ⟨scr, x1, x2, x3, x4, x5⟩ := hX
  have hsc : h b = some (.inl (2, L, fun j => if j < L then xs j else 0)) := by
    refine (hh b _).mpr (Or.inl ⟨L, _, scr, rfl, x1, x2, x3, x4, by omega, fun j hj => ?_, fun j hj => ?_⟩)
    · rw [if_pos hj]; exact x5 j hj
    · rw [if_neg (by omega)]
  have lt_of : ∀ {q : Nat} {ty : FieldType} {tag : Nat} {c : rE}, aC s ty tag q c → q < s.heap.size := by
    intro q ty tag c hc
    obtain ⟨n, g, cell, -, h1, -⟩ := hc
    exact (Array.getElem?_eq_some_iff.mp h1).1
  have hex : exOK θ (hB h s.heap.size (s.heap.size + 49) 1161) s.heap.size := by
    have hat : ∀ {q : Nat} {c : rE}, q < s.heap.size → anyC s (rA Γ) q c → (hB h s.heap.size (s.heap.size + 49) 1161).1 q = some c := by
      intro q c hq hc
      show (if q < s.heap.size then h q else none) = some c
      rw [if_pos hq]
      exact (hh q c).mpr hc
    refine ⟨rfl, fun j tx hj => ?_⟩
    have hj13 : j < 13 := (List.getElem?_eq_some_iff.mp hj).1
    have htx : tTX.getD j [] = tx := by simp [List.getD, hj]
    obtain ⟨k1, k2, k3⟩ := had j hj13
    rw [htx] at k3
    have hka : (ad j).1 < s.heap.size := by
      obtain ⟨v, -, ⟨cell, g1, -⟩, -⟩ := k2
      exact (Array.getElem?_eq_some_iff.mp g1).1
    exact ⟨(ad j).2, hka, lt_of k3, hat hka (Or.inr (Or.inr k2)), hat (lt_of k3) (Or.inr (Or.inl k3))⟩
  have hWp := law_start (θ := θ) (h := h) (N := s.heap.size) (sc := b) (L := L) (xs := fun j => if j < L then xs j else 0) (Q := fun v w => v = some (.int 1) ∧ w.2 = (s.heap.size + 49, 1161)) hex hw4 hbl hsc hL (fun x hx => ⟨rfl, hx⟩)
  have hg := Wp_snd (p := p) (l := l) (e := e) (Rm := room_1) (s := s) (m := m) (args := #[Value.ref b]) (below := below) (meth := meth) (c := c) (Qf := lw_Z below #[Value.ref b] s) (cc := code) (Γ := Γ) (oc := 14) (σ := sg θ 12) (fr := 12) (k0 := 11) (ret := some .boolean) (ini := false) (lim := (s.heap.size + 49, 1161)) (nL := 4) (n0 := s.heap.size) (s0 := 0) hx hb hml (fun w hw => hts w (List.mem_filter.mp hw).1) hown hst (fun h => by cases h) (Nat.le_refl _) (Nat.le_refl _) (fun _ => ⟨by decide, by decide⟩) (sg_ok l Γ 11) (fun _ => ⟨by decide, by decide⟩) ?_ hWp
  · rw [lg_entry_eq]
    have hl := rLv_entry [Value.ref b] (n := 4) (Nat.le_of_ble_eq_true rfl)
    generalize (lg_sl [Value.ref b] ++ List.replicate (4 - (lg_sl [Value.ref b]).length) Slot.unset).toArray = ls at hl ⊢
    have h9 := hg s.heap [] ls hl hw0 va_S.rf (Nat.le_refl _) (Nat.le_add_right _ _) (Nat.le_refl _) (Nat.zero_le _)
    have z1 : (pW h s.heap.size [] 0).2.1 - s.heap.size = 0 := Nat.sub_self _
    have z2 : (pW h s.heap.size [] 0).2.2 - 0 = 0 := rfl
    dsimp only at h9
    rw [z1, z2] at h9
    exact h9
  · intro i v pc st w H locs ls hd hv hq hw2 hS2 b1 b2 b3 b4
    obtain ⟨rfl, hw⟩ := hq
    have z1 : w.2.1 - s.heap.size = 49 := by rw [hw]; exact Nat.add_sub_cancel_left _ _
    have z2 : w.2.2 - 0 = 1161 := by rw [hw]; rfl
    rw [z1, z2]
    cases i with
    | ireturn =>
      obtain ⟨x, ty, rfl, hret, hn, hv⟩ := hv
      cases hv
      exact va_forget (fun q hq => hS2.2.2 q hq) (lw_ret hx hb hr hlk hd)
    | lreturn =>
      obtain ⟨x, -, -, hv⟩ := hv
      cases hv
    | areturn =>
      obtain ⟨x, ty, -, -, -, hv⟩ := hv
      cases hv
    | return_ =>
      obtain ⟨-, -, hv⟩ := hv
      cases hv
    | _ => exact False.elim hv
